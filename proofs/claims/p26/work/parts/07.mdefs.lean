def f_X10_apart (M : Mem) (v1 : Int32) (v2 : Int32) : Option Int32 :=
  gd ((nI 40) + v1) 202 (gd ((nI 40) + v2) 202 (bnd ((M 1 (ix ((nI 40) + v1))) - (M 1 (ix ((nI 40) + v2)))) (fun x_1 => gd ((nI 80) + v1) 202 (gd ((nI 80) + v2) 202 (bnd ((M 1 (ix ((nI 80) + v1))) - (M 1 (ix ((nI 80) + v2)))) (fun x_2 => some ((x_1 * x_1) + (x_2 * x_2))))))))
def f_X10_areInLine (M : Mem) (v1 : Int32) (v2 : Int32) (v3 : Int32) : Option Int32 :=
  gd ((nI 40) + v2) 202 (gd ((nI 40) + v1) 202 (bnd ((M 1 (ix ((nI 40) + v2))) - (M 1 (ix ((nI 40) + v1)))) (fun x_1 => gd ((nI 80) + v2) 202 (gd ((nI 80) + v1) 202 (bnd ((M 1 (ix ((nI 80) + v2))) - (M 1 (ix ((nI 80) + v1)))) (fun x_2 => gd ((nI 80) + v3) 202 (gd ((nI 80) + v1) 202 (gd ((nI 40) + v3) 202 (gd ((nI 40) + v1) 202 ((if (x_1 * ((M 1 (ix ((nI 80) + v3))) - (M 1 (ix ((nI 80) + v1))))).toInt = (x_2 * ((M 1 (ix ((nI 40) + v3))) - (M 1 (ix ((nI 40) + v1))))).toInt then some (nI 1)
   else some (nI 0))))))))))))
def f_X10_in (v0 : Int32) (v1 : Int32) (v2 : Int32) : Option Int32 :=
  (if v0.toInt < v1.toInt then some (nI 0)
   else (if v2.toInt < v0.toInt then some (nI 0)
   else some (nI 1)))
def f_X10_stoneAt_B2 (M : Mem) (v1 : Int32) (v2 : Int32) (ag2 : Int32 → Option Int32) (y3_2 : Int32) : Option Int32 :=
  (if 40 ≤ y3_2.toInt then some (-1)
   else gd y3_2 202 ((if (M 1 (ix y3_2)).toInt = 1 then gd ((nI 40) + y3_2) 202 ((if (M 1 (ix ((nI 40) + y3_2))).toInt = v1.toInt then gd ((nI 80) + y3_2) 202 ((if (M 1 (ix ((nI 80) + y3_2))).toInt = v2.toInt then some y3_2
   else (ag2 (y3_2 + (nI 1)))))
   else (ag2 (y3_2 + (nI 1)))))
   else (ag2 (y3_2 + (nI 1))))))
def f_X10_stoneAt (M : Mem) (v1 : Int32) (v2 : Int32) : Option Int32 :=
  (wlp1 (f_X10_stoneAt_B2 M v1 v2) FU (nI 0))
def f_X10_at (M : Mem) (v1 : Int32) (v2 : Int32) : Option Int32 :=
  (f_X10_in v1 (nI 0) (nI 39)).bind (fun r_1 => (if r_1.toInt = 0 then some (-1)
   else (f_X10_in v2 (nI 1) (nI 20)).bind (fun r_2 => (if r_2.toInt = 0 then some (-1)
   else (f_X10_stoneAt M v1 v2).bind (fun r_3 => (if r_3.toInt = -1 then some (-2)
   else some r_3))))))
def f_X10_beginsRows_B2 (v1 : Int32) (ag2 : Mem → Int32 → Option Mem) (M2 : Mem) (y2_2 : Int32) : Option Mem :=
  (if v1.toInt ≤ y2_2.toInt then some M2
   else gd y2_2 7 (bnd (mset M2 37 (ix y2_2) y2_2) (fun M_1 => (ag2 M_1 (y2_2 + (nI 1))))))
def f_X10_beginsRows (M : Mem) (v1 : Int32) : Option Mem :=
  (wlp2 (f_X10_beginsRows_B2 v1) FU M (nI 0))
def f_X10_beginsText (M : Mem) (v1 : Int32) : Option Mem :=
  bnd (mset M 0 7 (nI 0)) (fun M_1 => bnd (mset M_1 0 8 v1) (fun M_2 => bnd (mset M_2 0 12 (nI 0)) (fun M_3 => bnd (mset M_3 0 14 (nI 0)) (fun M_4 => some M_4))))
def f_X10_min (v0 : Int32) (v1 : Int32) : Option Int32 :=
  (if v1.toInt ≤ v0.toInt then some v1
   else some v0)
def f_X10_max (v0 : Int32) (v1 : Int32) : Option Int32 :=
  (if v0.toInt ≤ v1.toInt then some v1
   else some v0)
def f_X10_bounded (v0 : Int32) (v1 : Int32) (v2 : Int32) : Option Int32 :=
  (f_X10_min v2 v0).bind (fun r_1 => (f_X10_max v1 r_1).bind (fun r_2 => some r_2))
def f_X10_reckon (v0 : Int32) (v1 : Int32) (v2 : Int32) : Option Int32 :=
  (if v0.toInt = 2 then some (v1 + v2)
   else (if v0.toInt = 3 then some (v1 - v2)
   else (if v0.toInt = 4 then some (v1 * v2)
   else (if v0.toInt = 5 then dz v2 (some (v1 / v2))
   else (if v0.toInt = 6 then dz v2 (some (rm v1 v2))
   else (if v0.toInt = 7 then (if v2.toInt ≤ v1.toInt then some (nI 0)
   else some (nI 1))
   else (if v0.toInt = 8 then (if v1.toInt ≤ v2.toInt then some (nI 0)
   else some (nI 1))
   else (if v1.toInt = v2.toInt then some (nI 1)
   else some (nI 0)))))))))
def f_X10_comesTo_L85 (ag16 : Mem → Int32 → Int32 → Option (Int32 × Mem)) (M16 : Mem) (y3_16 : Int32) (y5_16 : Int32) (t0_85 : Int32) : Option (Int32 × Mem) :=
  gd y3_16 260 (bnd (mset M16 17 (ix y3_16) t0_85) (fun M_4 => (ag16 M_4 (y3_16 + (nI 1)) (y5_16 + (nI 1)))))
def f_X10_comesTo_L63 (ag16 : Mem → Int32 → Int32 → Option (Int32 × Mem)) (M16 : Mem) (y3_16 : Int32) (y5_16 : Int32) (x_2 : Int32) (x_3 : Int32) : Option (Int32 × Mem) :=
  (if x_2.toInt = 0 then (f_X10_comesTo_L85 ag16 M16 y3_16 y5_16 x_3)
   else gd x_3 8 ((f_X10_comesTo_L85 ag16 M16 y3_16 y5_16 (M16 18 (ix x_3)))))
def f_X10_comesTo_L155 (x_1 : Int32) (ag16 : Mem → Int32 → Int32 → Option (Int32 × Mem)) (M16 : Mem) (y3_16 : Int32) (y5_16 : Int32) (x_3 : Int32) (t0_155 : Int32) : Option (Int32 × Mem) :=
  (if (M16 17 (ix (y3_16 - (nI 1)))).toInt = t0_155.toInt then bnd (x_1 + x_3) (fun x_5 => (ag16 M16 y3_16 x_5))
   else (ag16 M16 (y3_16 - (nI 1)) (y5_16 + (nI 1))))
def f_X10_comesTo_L135 (x_1 : Int32) (ag16 : Mem → Int32 → Int32 → Option (Int32 × Mem)) (M16 : Mem) (y3_16 : Int32) (y5_16 : Int32) (x_2 : Int32) (x_3 : Int32) : Option (Int32 × Mem) :=
  gd (y3_16 - (nI 1)) 260 ((if x_2.toInt = 12 then (f_X10_comesTo_L155 x_1 ag16 M16 y3_16 y5_16 x_3 (nI 1))
   else (f_X10_comesTo_L155 x_1 ag16 M16 y3_16 y5_16 x_3 (nI 0))))
def f_X10_comesTo_L203 (ag16 : Mem → Int32 → Int32 → Option (Int32 × Mem)) (M16 : Mem) (y3_16 : Int32) (y5_16 : Int32) (x_2 : Int32) : Option (Int32 × Mem) :=
  gd ((y3_16 - (nI 1)) - (nI 1)) 260 (gd (y3_16 - (nI 1)) 260 ((f_X10_reckon x_2 (M16 17 (ix ((y3_16 - (nI 1)) - (nI 1)))) (M16 17 (ix (y3_16 - (nI 1))))).bind (fun r_6 => gd ((y3_16 - (nI 1)) - (nI 1)) 260 (bnd (mset M16 17 (ix ((y3_16 - (nI 1)) - (nI 1))) r_6) (fun M_7 => (ag16 M_7 (y3_16 - (nI 1)) (y5_16 + (nI 1))))))))
def f_X10_comesTo_L192 (ag16 : Mem → Int32 → Int32 → Option (Int32 × Mem)) (M16 : Mem) (y3_16 : Int32) (y5_16 : Int32) (x_2 : Int32) : Option (Int32 × Mem) :=
  gd (y3_16 - (nI 1)) 260 ((if (M16 17 (ix (y3_16 - (nI 1)))).toInt = 0 then some ((nI 0), M16)
   else (f_X10_comesTo_L203 ag16 M16 y3_16 y5_16 x_2)))
def f_X10_comesTo_B16 (v2 : Int32) (x_1 : Int32) (ag16 : Mem → Int32 → Int32 → Option (Int32 × Mem)) (M16 : Mem) (y3_16 : Int32) (y5_16 : Int32) : Option (Int32 × Mem) :=
  (if v2.toInt ≤ y5_16.toInt then some ((M16 17 0), M16)
   else gd y5_16 260 (bnd ((M16 12 (ix y5_16)) / (nI 1048576)) (fun x_2 => gd y5_16 260 (bnd (rm (M16 12 (ix y5_16)) (nI 1048576)) (fun x_3 => (if x_2.toInt = 0 then (f_X10_comesTo_L63 ag16 M16 y3_16 y5_16 x_2 x_3)
   else (if x_2.toInt = 1 then (f_X10_comesTo_L63 ag16 M16 y3_16 y5_16 x_2 x_3)
   else (if x_2.toInt = 10 then gd (y3_16 - (nI 1)) 260 (gd (y3_16 - (nI 1)) 260 (bnd (mset M16 17 (ix (y3_16 - (nI 1))) ((nI 1) - (M16 17 (ix (y3_16 - (nI 1)))))) (fun M_8 => (ag16 M_8 y3_16 (y5_16 + (nI 1))))))
   else (if x_2.toInt = 11 then (f_X10_comesTo_L135 x_1 ag16 M16 y3_16 y5_16 x_2 x_3)
   else (if x_2.toInt = 12 then (f_X10_comesTo_L135 x_1 ag16 M16 y3_16 y5_16 x_2 x_3)
   else (if x_2.toInt = 5 then (f_X10_comesTo_L192 ag16 M16 y3_16 y5_16 x_2)
   else (if x_2.toInt = 6 then (f_X10_comesTo_L192 ag16 M16 y3_16 y5_16 x_2)
   else (f_X10_comesTo_L203 ag16 M16 y3_16 y5_16 x_2)))))))))))))
def f_X10_comesTo (M : Mem) (v1 : Int32) (v2 : Int32) : Option (Int32 × Mem) :=
  bnd ((nI 260) * (v1 / (nI 260))) (fun x_1 => (wlp3 (f_X10_comesTo_B16 v2 x_1) FU M (nI 0) v1))
def f_X10_byLaw_L43 (v2 : Int32) (y3_2 : Int32) (M_2 : Mem) : Option (Int32 × Mem) :=
  gd y3_2 16 (gd y3_2 16 (cb (f_X10_comesTo M_2 (M_2 14 (ix y3_2)) (M_2 15 (ix y3_2))) (fun r_3 M_4 => (if 0 ≤ r_3.toInt then (if r_3.toInt ≤ v2.toInt then some (r_3, M_4)
   else some (v2, M_4))
   else some ((nI 0), M_4)))))
def f_X10_byLaw_B2 (v1 : Int32) (v2 : Int32) (ag2 : Mem → Int32 → Option (Int32 × Mem)) (M2 : Mem) (y3_2 : Int32) : Option (Int32 × Mem) :=
  (if (M2 0 15).toInt ≤ y3_2.toInt then some ((nI 0), M2)
   else gd y3_2 16 ((if (M2 13 (ix y3_2)).toInt = v1.toInt then gd y3_2 16 (gd y3_2 16 (cb (f_X10_comesTo M2 (M2 15 (ix y3_2)) (M2 16 (ix y3_2))) (fun r_1 M_2 => (if r_1.toInt = 1 then (f_X10_byLaw_L43 v2 y3_2 M_2)
   else (ag2 M_2 (y3_2 + (nI 1)))))))
   else (ag2 M2 (y3_2 + (nI 1))))))
def f_X10_byLaw (M : Mem) (v1 : Int32) (v2 : Int32) : Option (Int32 × Mem) :=
  (wlp2 (f_X10_byLaw_B2 v1 v2) FU M (nI 0))
def f_X10_isDry (M : Mem) (v1 : Int32) : Option Int32 :=
  gd v1 202 ((if (M 1 (ix v1)).toInt = 1 then gd ((nI 160) + v1) 202 ((if (M 1 (ix ((nI 160) + v1))).toInt = 0 then some (nI 1)
   else some (nI 0)))
   else some (nI 0)))
def f_X10_canStep (M : Mem) (v1 : Int32) (v2 : Int32) (v3 : Int32) : Option Int32 :=
  (f_X10_isDry M v1).bind (fun r_1 => (if r_1.toInt = 0 then some (nI 0)
   else (f_X10_isDry M v2).bind (fun r_2 => (if r_2.toInt = 0 then some (nI 0)
   else (f_X10_apart M v1 v2).bind (fun r_3 => (if (v3 * v3).toInt < r_3.toInt then some (nI 0)
   else some (nI 1)))))))
def f_X10_isStone (M : Mem) (v1 : Int32) : Option Int32 :=
  (f_X10_in v1 (nI 0) (nI 39)).bind (fun r_1 => (if r_1.toInt = 0 then some (nI 0)
   else gd v1 202 ((if (M 1 (ix v1)).toInt = 1 then some (nI 1)
   else some (nI 0)))))
def f_X10_listsStones_L60 (v1 : Int32) (M5 : Mem) (y3_5 : Int32) : Option (Int32 × Mem) :=
  (if y3_5.toInt = v1.toInt then some ((nI 1), M5)
   else some ((nI 0), M5))
def f_X10_listsStones_L42 (ag5 : Mem → Int32 → Int32 → Option (Int32 × Mem)) (M5 : Mem) (y3_5 : Int32) (y4_5 : Int32) : Option (Int32 × Mem) :=
  gd y3_5 7 (bnd (mset M5 36 (ix y3_5) y4_5) (fun M_2 => (ag5 M_2 (y3_5 + (nI 1)) (y4_5 + (nI 1)))))
def f_X10_listsStones_B5 (v1 : Int32) (v2 : Int32) (ag5 : Mem → Int32 → Int32 → Option (Int32 × Mem)) (M5 : Mem) (y3_5 : Int32) (y4_5 : Int32) : Option (Int32 × Mem) :=
  (if 40 ≤ y4_5.toInt then (f_X10_listsStones_L60 v1 M5 y3_5)
   else (if v1.toInt ≤ y3_5.toInt then (f_X10_listsStones_L60 v1 M5 y3_5)
   else (f_X10_isStone M5 y4_5).bind (fun r_1 => (if r_1.toInt = 0 then (ag5 M5 y3_5 (y4_5 + (nI 1)))
   else (if v2.toInt = 0 then (f_X10_listsStones_L42 ag5 M5 y3_5 y4_5)
   else (f_X10_isDry M5 y4_5).bind (fun r_3 => (if r_3.toInt = 0 then (ag5 M5 y3_5 (y4_5 + (nI 1)))
   else (f_X10_listsStones_L42 ag5 M5 y3_5 y4_5))))))))
def f_X10_listsStones (M : Mem) (v1 : Int32) (v2 : Int32) : Option (Int32 × Mem) :=
  (wlp3 (f_X10_listsStones_B5 v1 v2) FU M (nI 0) (nI 0))
def f_X10_octet (M : Mem) (v1 : Int32) : Option Int32 :=
  gd v1 260 (some ((M 5 (ix v1)) &&& (nI 255)))
def f_X10_size (v0 : Int32) : Option Int32 :=
  (if 0 ≤ v0.toInt then some v0
   else some (-v0))
def f_X10_chalkOff_B4 (M : Mem) (v1 : Int32) (ag4 : Int32 → Int32 → Option Int32) (y2_4 : Int32) (y3_4 : Int32) : Option Int32 :=
  (if v1.toInt ≤ y3_4.toInt then some y2_4
   else gd y3_4 7 (gd (M 37 (ix y3_4)) 7 (bnd (M 36 (ix (M 37 (ix y3_4)))) (fun x_1 => gd ((nI 40) + x_1) 202 ((f_X10_octet M ((nI 2) * y3_4)).bind (fun r_2 => (f_X10_size ((M 1 (ix ((nI 40) + x_1))) - r_2)).bind (fun r_3 => gd ((nI 80) + x_1) 202 ((f_X10_octet M (((nI 2) * y3_4) + (nI 1))).bind (fun r_4 => (f_X10_size ((M 1 (ix ((nI 80) + x_1))) - r_4)).bind (fun r_5 => bnd ((y2_4 + r_3) + r_5) (fun x_6 => (ag4 x_6 (y3_4 + (nI 1))))))))))))))
def f_X10_chalkOff (M : Mem) (v1 : Int32) : Option Int32 :=
  (wlp2 (f_X10_chalkOff_B4 M v1) FU (nI 0) (nI 0))
def f_X10_changes (M : Mem) (v1 : Int32) (v2 : Int32) : Option Mem :=
  gd v1 7 (bnd (M 37 (ix v1)) (fun x_1 => gd v2 7 (gd v1 7 (bnd (mset M 37 (ix v1) (M 37 (ix v2))) (fun M_2 => gd v2 7 (bnd (mset M_2 37 (ix v2) x_1) (fun M_3 => some M_3)))))))
def f_X10_nextRow_B87  (ag87 : Mem → Int32 → Int32 → Option (Int32 × Mem)) (M87 : Mem) (y5_87 : Int32) (y6_87 : Int32) : Option (Int32 × Mem) :=
  (if y6_87.toInt ≤ y5_87.toInt then some ((nI 1), M87)
   else (f_X10_changes M87 y5_87 y6_87).bind (fun M_2 => (ag87 M_2 (y5_87 + (nI 1)) (y6_87 + (-1)))))
def f_X10_nextRow_L70 (M : Mem) (v1 : Int32) (y3_4 : Int32) (y4_45 : Int32) : Option (Int32 × Mem) :=
  (f_X10_changes M y3_4 y4_45).bind (fun M_1 => (wlp3 f_X10_nextRow_B87 FU M_1 (y3_4 + (nI 1)) (v1 - (nI 1))))
def f_X10_nextRow_B45 (M : Mem) (v1 : Int32) (y3_4 : Int32) (ag45 : Int32 → Option (Int32 × Mem)) (y4_45 : Int32) : Option (Int32 × Mem) :=
  gd y4_45 7 (gd y3_4 7 ((if (M 37 (ix y3_4)).toInt ≤ (M 37 (ix y4_45)).toInt then (f_X10_nextRow_L70 M v1 y3_4 y4_45)
   else (ag45 (y4_45 - (nI 1))))))
def f_X10_nextRow_L33 (M : Mem) (v1 : Int32) (v2 : Int32) (y3_4 : Int32) : Option (Int32 × Mem) :=
  (if v2.toInt ≤ y3_4.toInt then (wlp1 (f_X10_nextRow_B45 M v1 y3_4) FU (v1 - (nI 1)))
   else some ((nI 0), M))
def f_X10_nextRow_B4 (M : Mem) (v1 : Int32) (v2 : Int32) (ag4 : Int32 → Option (Int32 × Mem)) (y3_4 : Int32) : Option (Int32 × Mem) :=
  (if y3_4.toInt < v2.toInt then (f_X10_nextRow_L33 M v1 v2 y3_4)
   else gd y3_4 7 (gd (y3_4 + (nI 1)) 7 ((if (M 37 (ix y3_4)).toInt ≤ (M 37 (ix (y3_4 + (nI 1)))).toInt then (f_X10_nextRow_L33 M v1 v2 y3_4)
   else (ag4 (y3_4 - (nI 1)))))))
def f_X10_nextRow (M : Mem) (v1 : Int32) (v2 : Int32) : Option (Int32 × Mem) :=
  (wlp1 (f_X10_nextRow_B4 M v1 v2) FU (v1 - (nI 2)))
def f_X10_chalk_L176 (v2 : Int32) (M110 : Mem) (y3_110 : Int32) : Option (Int32 × Mem) :=
  (if v2.toInt = 100 then some (y3_110, M110)
   else gd v2 7 (some ((M110 38 (ix v2)), M110)))
def f_X10_chalk_L165 (v1 : Int32) (ag110 : Mem → Int32 → Int32 → Option (Int32 × Mem)) (N165 : Mem) (z3_165 : Int32) : Option (Int32 × Mem) :=
  cb (f_X10_nextRow N165 v1 (nI 0)) (fun r_7 M_8 => (ag110 M_8 z3_165 r_7))
def f_X10_chalk_B134 (v1 : Int32) (ag110 : Mem → Int32 → Int32 → Option (Int32 × Mem)) (r_6 : Int32) (ag134 : Mem → Int32 → Option (Int32 × Mem)) (M134 : Mem) (y6_134 : Int32) : Option (Int32 × Mem) :=
  (if v1.toInt ≤ y6_134.toInt then (f_X10_chalk_L165 v1 ag110 M134 r_6)
   else gd y6_134 7 (gd (M134 37 (ix y6_134)) 7 (gd y6_134 7 (bnd (mset M134 38 (ix y6_134) (M134 36 (ix (M134 37 (ix y6_134))))) (fun M_9 => (ag134 M_9 (y6_134 + (nI 1))))))))
def f_X10_chalk_B110 (v1 : Int32) (v2 : Int32) (ag110 : Mem → Int32 → Int32 → Option (Int32 × Mem)) (M110 : Mem) (y3_110 : Int32) (y4_110 : Int32) : Option (Int32 × Mem) :=
  (if y4_110.toInt = 0 then (f_X10_chalk_L176 v2 M110 y3_110)
   else (f_X10_chalkOff M110 v1).bind (fun r_6 => (if y3_110.toInt ≤ r_6.toInt then (f_X10_chalk_L165 v1 ag110 M110 y3_110)
   else (wlp2 (f_X10_chalk_B134 v1 ag110 r_6) FU M110 (nI 0)))))
def f_X10_chalk_L98 (v1 : Int32) (v2 : Int32) (M_4 : Mem) : Option (Int32 × Mem) :=
  (f_X10_beginsRows M_4 v1).bind (fun M_5 => (wlp3 (f_X10_chalk_B110 v1 v2) FU M_5 (nI 1000000) (nI 1)))
def f_X10_chalk_B58 (v1 : Int32) (v2 : Int32) (M_4 : Mem) (ag58 : Int32 → Option (Int32 × Mem)) (y3_58 : Int32) : Option (Int32 × Mem) :=
  (if v1.toInt ≤ y3_58.toInt then (f_X10_chalk_L98 v1 v2 M_4)
   else (f_X10_octet M_4 ((nI 2) * y3_58)).bind (fun r_10 => (if 39 < r_10.toInt then some ((-3), M_4)
   else (f_X10_octet M_4 (((nI 2) * y3_58) + (nI 1))).bind (fun r_11 => (if r_11.toInt ≤ 20 then (ag58 (y3_58 + (nI 1)))
   else some ((-3), M_4))))))
def f_X10_chalk_L27 (M : Mem) (v1 : Int32) (v2 : Int32) : Option (Int32 × Mem) :=
  (if ((nI 2) * v1).toInt ≤ (M 0 6).toInt then bnd (mset M 0 6 (nI 0)) (fun M_2 => cb (f_X10_listsStones M_2 v1 (nI 0)) (fun r_3 M_4 => (if r_3.toInt = 0 then some ((-2), M_4)
   else (wlp1 (f_X10_chalk_B58 v1 v2 M_4) FU (nI 0)))))
   else some ((-1), M))
def f_X10_chalk (M : Mem) (v1 : Int32) (v2 : Int32) : Option (Int32 × Mem) :=
  (f_X10_in v1 (nI 1) (nI 7)).bind (fun r_1 => (if r_1.toInt = 0 then some ((-1), M)
   else (if v2.toInt = 100 then (f_X10_chalk_L27 M v1 v2)
   else (f_X10_in v2 (nI 0) (v1 - (nI 1))).bind (fun r_12 => (if r_12.toInt = 0 then some ((-1), M)
   else (f_X10_chalk_L27 M v1 v2))))))
def f_X10_check_L61 (M_2 : Mem) (ag28 : Int32 → Option (Int32 × Mem)) (y2_28 : Int32) (r_3 : Int32) (t0_61 : Int32) : Option (Int32 × Mem) :=
  (if r_3.toInt = t0_61.toInt then (ag28 (y2_28 + (nI 1)))
   else some (y2_28, M_2))
def f_X10_check_B28 (v1 : Int32) (M_2 : Mem) (ag28 : Int32 → Option (Int32 × Mem)) (y2_28 : Int32) : Option (Int32 × Mem) :=
  (if v1.toInt ≤ y2_28.toInt then some ((-1), M_2)
   else (f_X10_octet M_2 y2_28).bind (fun r_3 => (f_X10_isStone M_2 y2_28).bind (fun r_4 => (if r_4.toInt = 0 then (f_X10_check_L61 M_2 ag28 y2_28 r_3 (nI 255))
   else gd ((nI 40) + y2_28) 202 ((f_X10_check_L61 M_2 ag28 y2_28 r_3 (M_2 1 (ix ((nI 40) + y2_28)))))))))
def f_X10_check (M : Mem) (v1 : Int32) : Option (Int32 × Mem) :=
  (f_X10_in v1 (nI 0) (nI 40)).bind (fun r_1 => (if r_1.toInt = 0 then some ((-2), M)
   else (if v1.toInt ≤ (M 0 6).toInt then bnd (mset M 0 6 (nI 0)) (fun M_2 => (wlp1 (f_X10_check_B28 v1 M_2) FU (nI 0)))
   else some ((-2), M))))
def f_X10_waitTop (M : Mem) : Option Int32 :=
  (if (M 0 13).toInt = 0 then some (-1)
   else gd ((M 0 13) - (nI 1)) 260 (some ((M 7 (ix ((M 0 13) - (nI 1)))) / (nI 1048576))))
def f_X10_notes (M : Mem) (v1 : Int32) (v2 : Int32) : Option Mem :=
  gd (M 0 12) 260 (bnd (mset M 6 (ix (M 0 12)) (((nI 1048576) * v1) + v2)) (fun M_1 => bnd (mset M_1 0 12 ((M_1 0 12) + (nI 1))) (fun M_2 => some M_2)))
def f_X10_closesSums_L37 (ag0 : Mem → Option Mem) (M0 : Mem) : Option Mem :=
  (f_X10_waitTop M0).bind (fun r_2 => (f_X10_notes M0 r_2 (nI 0)).bind (fun M_3 => bnd (mset M_3 0 13 ((M_3 0 13) - (nI 1))) (fun M_4 => (ag0 M_4))))
def f_X10_closesSums_L17 (v1 : Int32) (ag0 : Mem → Option Mem) (M0 : Mem) : Option Mem :=
  (if v1.toInt = 0 then some M0
   else (f_X10_waitTop M0).bind (fun r_5 => (if r_5.toInt = 2 then (f_X10_closesSums_L37 ag0 M0)
   else (f_X10_waitTop M0).bind (fun r_6 => (if r_6.toInt = 3 then (f_X10_closesSums_L37 ag0 M0)
   else some M0)))))
def f_X10_closesSums_B0 (v1 : Int32) (ag0 : Mem → Option Mem) (M0 : Mem) : Option Mem :=
  (f_X10_waitTop M0).bind (fun r_1 => (if r_1.toInt < 4 then (f_X10_closesSums_L17 v1 ag0 M0)
   else (f_X10_waitTop M0).bind (fun r_7 => (if r_7.toInt ≤ 6 then (f_X10_closesSums_L37 ag0 M0)
   else (f_X10_closesSums_L17 v1 ag0 M0)))))
def f_X10_closesSums (M : Mem) (v1 : Int32) : Option Mem :=
  (wlp1 (f_X10_closesSums_B0 v1) FU M)
def f_X10_nearestTo_B4 (M : Mem) (v1 : Int32) (ag4 : Int32 → Int32 → Option Int32) (y2_4 : Int32) (y3_4 : Int32) : Option Int32 :=
  (if 40 ≤ y3_4.toInt then some y2_4
   else (if y3_4.toInt = v1.toInt then (ag4 y2_4 (y3_4 + (nI 1)))
   else (f_X10_isStone M y3_4).bind (fun r_1 => (if r_1.toInt = 0 then (ag4 y2_4 (y3_4 + (nI 1)))
   else (if y2_4.toInt = -1 then (ag4 y3_4 (y3_4 + (nI 1)))
   else (f_X10_apart M v1 y3_4).bind (fun r_2 => (f_X10_apart M v1 y2_4).bind (fun r_3 => (if r_3.toInt ≤ r_2.toInt then (ag4 y2_4 (y3_4 + (nI 1)))
   else (ag4 y3_4 (y3_4 + (nI 1)))))))))))
def f_X10_nearestTo (M : Mem) (v1 : Int32) : Option Int32 :=
  (wlp2 (f_X10_nearestTo_B4 M v1) FU (-1) (nI 0))
def f_X10_closest_L50 (M : Mem) (ag5 : Int32 → Int32 → Option Int32) (y2_5 : Int32) (t0_28 : Int32) : Option Int32 :=
  (f_X10_apart M y2_5 t0_28).bind (fun r_2 => (ag5 r_2 (y2_5 + (nI 1))))
def f_X10_closest_L28 (M : Mem) (ag5 : Int32 → Int32 → Option Int32) (y1_5 : Int32) (y2_5 : Int32) (t0_28 : Int32) : Option Int32 :=
  (if t0_28.toInt = -1 then (ag5 y1_5 (y2_5 + (nI 1)))
   else (if y1_5.toInt = -2 then (f_X10_closest_L50 M ag5 y2_5 t0_28)
   else (f_X10_apart M y2_5 t0_28).bind (fun r_3 => (if y1_5.toInt ≤ r_3.toInt then (ag5 y1_5 (y2_5 + (nI 1)))
   else (f_X10_closest_L50 M ag5 y2_5 t0_28)))))
def f_X10_closest_B5 (M : Mem) (ag5 : Int32 → Int32 → Option Int32) (y1_5 : Int32) (y2_5 : Int32) : Option Int32 :=
  (if 40 ≤ y2_5.toInt then some y1_5
   else (f_X10_isStone M y2_5).bind (fun r_1 => (if r_1.toInt = 0 then (f_X10_closest_L28 M ag5 y1_5 y2_5 (-1))
   else (f_X10_nearestTo M y2_5).bind (fun r_4 => (f_X10_closest_L28 M ag5 y1_5 y2_5 r_4)))))
def f_X10_closest (M : Mem) : Option Int32 :=
  (wlp2 (f_X10_closest_B5 M) FU (-2) (nI 0))
def f_X10_copies_B2 (k : Nat) (len_k : Nat) (k2 : Nat) (len_k2 : Nat) (ag2 : Mem → Int32 → Option Mem) (M2 : Mem) (y2_2 : Int32) : Option Mem :=
  (if 202 ≤ y2_2.toInt then some M2
   else gd y2_2 len_k (gd y2_2 len_k2 (bnd (mset M2 k2 (ix y2_2) (M2 k (ix y2_2))) (fun M_1 => (ag2 M_1 (y2_2 + (nI 1)))))))
def f_X10_copies (k : Nat) (len_k : Nat) (k2 : Nat) (len_k2 : Nat) (M : Mem) : Option Mem :=
  (wlp2 (f_X10_copies_B2 k len_k k2 len_k2) FU M (nI 0))
def f_X10_sumOf_B4 (M : Mem) (v1 : Int32) (ag4 : Int32 → Int32 → Option Int32) (y2_4 : Int32) (y3_4 : Int32) : Option Int32 :=
  (if 40 ≤ y3_4.toInt then some y2_4
   else (f_X10_isStone M y3_4).bind (fun r_1 => (if r_1.toInt = 0 then (ag4 (y2_4 + (nI 0)) (y3_4 + (nI 1)))
   else gd (v1 + y3_4) 202 (bnd (y2_4 + (M 1 (ix (v1 + y3_4)))) (fun x_2 => (ag4 x_2 (y3_4 + (nI 1))))))))
def f_X10_sumOf (M : Mem) (v1 : Int32) : Option Int32 :=
  (wlp2 (f_X10_sumOf_B4 M v1) FU (nI 0) (nI 0))
def f_X10_has (v0 : Int32) (v1 : Int32) : Option Int32 :=
  (if ((shr v0 v1) &&& (nI 1)).toInt = 1 then some (nI 1)
   else some (nI 0))
def f_X10_isPerson (M : Mem) (v1 : Int32) : Option Int32 :=
  (f_X10_in v1 (nI 0) (nI 7)).bind (fun r_1 => (if r_1.toInt = 0 then some (nI 0)
   else (f_X10_has (M 0 4) v1).bind (fun r_2 => (if r_2.toInt = 0 then some (nI 0)
   else some (nI 1)))))
def f_X10_count (M : Mem) (v1 : Int32) : Option Int32 :=
  (if v1.toInt = 0 then some (M 1 200)
   else (if v1.toInt = 1 then (f_X10_sumOf M (nI 0)).bind (fun r_1 => some r_1)
   else (if v1.toInt = 2 then (f_X10_sumOf M (nI 160)).bind (fun r_2 => some r_2)
   else (if v1.toInt = 3 then some (M 0 4)
   else (if v1.toInt = 4 then some (M 0 15)
   else (if v1.toInt = 5 then some (M 0 6)
   else (if v1.toInt = 6 then some (M 1 201)
   else (f_X10_isPerson M (v1 - (nI 10))).bind (fun r_3 => (if r_3.toInt = 0 then some (-1)
   else gd (v1 - (nI 10)) 8 (some (M 4 (ix (v1 - (nI 10))))))))))))))
def f_X10_isByBank_L28 (M : Mem) (v1 : Int32) (v3 : Int32) (t0_28 : Int32) : Option Int32 :=
  (f_X10_isDry M v1).bind (fun r_1 => (if r_1.toInt = 0 then some (nI 0)
   else (if v3.toInt < t0_28.toInt then some (nI 0)
   else some (nI 1))))
def f_X10_isByBank (M : Mem) (v1 : Int32) (v2 : Int32) (v3 : Int32) : Option Int32 :=
  (if v2.toInt = 0 then gd ((nI 80) + v1) 202 ((f_X10_isByBank_L28 M v1 v3 ((nI 21) - (M 1 (ix ((nI 80) + v1))))))
   else gd ((nI 80) + v1) 202 ((f_X10_isByBank_L28 M v1 v3 (M 1 (ix ((nI 80) + v1))))))
def f_X10_laysSteps_B87 (k : Nat) (len_k : Nat) (v3 : Int32) (ag68 : Mem → Int32 → Int32 → Option Mem) (y5_68 : Int32) (x_1 : Int32) (ag87 : Mem → Int32 → Int32 → Option Mem) (M87 : Mem) (y4_87 : Int32) (y7_87 : Int32) : Option Mem :=
  (if 40 ≤ y7_87.toInt then (ag68 M87 y4_87 (y5_68 + (nI 1)))
   else gd y7_87 len_k ((if (M87 k (ix y7_87)).toInt = -1 then (f_X10_canStep M87 x_1 y7_87 v3).bind (fun r_2 => (if r_2.toInt = 0 then (ag87 M87 y4_87 (y7_87 + (nI 1)))
   else gd x_1 len_k (gd y7_87 len_k (bnd (mset M87 k (ix y7_87) ((M87 k (ix x_1)) + (nI 1))) (fun M_3 => gd y4_87 40 (bnd (mset M_3 25 (ix y4_87) y7_87) (fun M_4 => (ag87 M_4 (y4_87 + (nI 1)) (y7_87 + (nI 1))))))))))
   else (ag87 M87 y4_87 (y7_87 + (nI 1))))))
def f_X10_laysSteps_B68 (k : Nat) (len_k : Nat) (v3 : Int32) (ag68 : Mem → Int32 → Int32 → Option Mem) (M68 : Mem) (y4_68 : Int32) (y5_68 : Int32) : Option Mem :=
  (if y4_68.toInt ≤ y5_68.toInt then some M68
   else gd y5_68 40 (bnd (M68 25 (ix y5_68)) (fun x_1 => (wlp3 (f_X10_laysSteps_B87 k len_k v3 ag68 y5_68 x_1) FU M68 y4_68 (nI 0)))))
def f_X10_laysSteps_L65 (k : Nat) (len_k : Nat) (v3 : Int32) (M6 : Mem) (y4_6 : Int32) : Option Mem :=
  (wlp3 (f_X10_laysSteps_B68 k len_k v3) FU M6 y4_6 (nI 0))
def f_X10_laysSteps_L32 (k : Nat) (len_k : Nat) (ag6 : Mem → Int32 → Int32 → Option Mem) (M6 : Mem) (y4_6 : Int32) (y5_6 : Int32) (t0_32 : Int32) : Option Mem :=
  gd y5_6 len_k (bnd (mset M6 k (ix y5_6) t0_32) (fun M_6 => gd y5_6 len_k ((if (M_6 k (ix y5_6)).toInt = -1 then (ag6 M_6 y4_6 (y5_6 + (nI 1)))
   else gd y4_6 40 (bnd (mset M_6 25 (ix y4_6) y5_6) (fun M_7 => (ag6 M_7 (y4_6 + (nI 1)) (y5_6 + (nI 1)))))))))
def f_X10_laysSteps_B6 (k : Nat) (len_k : Nat) (v2 : Int32) (v3 : Int32) (ag6 : Mem → Int32 → Int32 → Option Mem) (M6 : Mem) (y4_6 : Int32) (y5_6 : Int32) : Option Mem :=
  (if 40 ≤ y5_6.toInt then (f_X10_laysSteps_L65 k len_k v3 M6 y4_6)
   else (f_X10_isByBank M6 y5_6 v2 v3).bind (fun r_5 => (if r_5.toInt = 0 then (f_X10_laysSteps_L32 k len_k ag6 M6 y4_6 y5_6 (-1))
   else (f_X10_laysSteps_L32 k len_k ag6 M6 y4_6 y5_6 (nI 1)))))
def f_X10_laysSteps (k : Nat) (len_k : Nat) (M : Mem) (v2 : Int32) (v3 : Int32) : Option Mem :=
  (wlp3 (f_X10_laysSteps_B6 k len_k v2 v3) FU M (nI 0) (nI 0))
def f_X10_crossing_L68 (M_1 : Mem) (ag22 : Int32 → Int32 → Option (Int32 × Mem)) (y3_22 : Int32) : Option (Int32 × Mem) :=
  gd y3_22 40 (bnd ((M_1 23 (ix y3_22)) + (nI 1)) (fun x_3 => (ag22 x_3 (y3_22 + (nI 1)))))
def f_X10_crossing_B22 (v1 : Int32) (M_1 : Mem) (ag22 : Int32 → Int32 → Option (Int32 × Mem)) (y2_22 : Int32) (y3_22 : Int32) : Option (Int32 × Mem) :=
  (if 40 ≤ y3_22.toInt then some (y2_22, M_1)
   else gd y3_22 40 ((if (M_1 23 (ix y3_22)).toInt = -1 then (ag22 y2_22 (y3_22 + (nI 1)))
   else (f_X10_isByBank M_1 y3_22 (nI 0) v1).bind (fun r_2 => (if r_2.toInt = 0 then (ag22 y2_22 (y3_22 + (nI 1)))
   else (if y2_22.toInt = -1 then (f_X10_crossing_L68 M_1 ag22 y3_22)
   else gd y3_22 40 ((if y2_22.toInt ≤ ((M_1 23 (ix y3_22)) + (nI 1)).toInt then (ag22 y2_22 (y3_22 + (nI 1)))
   else (f_X10_crossing_L68 M_1 ag22 y3_22)))))))))
def f_X10_crossing (M : Mem) (v1 : Int32) : Option (Int32 × Mem) :=
  (if v1.toInt < 21 then (f_X10_laysSteps 23 40 M (nI 1) v1).bind (fun M_1 => (wlp2 (f_X10_crossing_B22 v1 M_1) FU (-1) (nI 0)))
   else some ((nI 1), M))
def f_X10_laysRows_B67 (v1 : Int32) (y2_37 : Int32) (ag45 : Mem → Int32 → Option Mem) (y3_45 : Int32) (ag67 : Mem → Int32 → Option Mem) (M67 : Mem) (y4_67 : Int32) : Option Mem :=
  (if 40 ≤ y4_67.toInt then (ag45 M67 (y3_45 + (nI 1)))
   else gd y4_67 40 ((if (M67 24 (ix y4_67)).toInt = (y2_37 - (nI 1)).toInt then (f_X10_canStep M67 y3_45 y4_67 v1).bind (fun r_1 => (if r_1.toInt = 0 then (ag67 M67 (y4_67 + (nI 1)))
   else gd y3_45 40 (gd y4_67 40 ((f_X10_min (nI 1000000000) ((M67 26 (ix y3_45)) + (M67 26 (ix y4_67)))).bind (fun r_2 => gd y3_45 40 (bnd (mset M67 26 (ix y3_45) r_2) (fun M_3 => (ag67 M_3 (y4_67 + (nI 1))))))))))
   else (ag67 M67 (y4_67 + (nI 1))))))
def f_X10_laysRows_B45 (v1 : Int32) (ag37 : Mem → Int32 → Option Mem) (y2_37 : Int32) (ag45 : Mem → Int32 → Option Mem) (M45 : Mem) (y3_45 : Int32) : Option Mem :=
  (if 40 ≤ y3_45.toInt then (ag37 M45 (y2_37 + (nI 1)))
   else gd y3_45 40 ((if (M45 24 (ix y3_45)).toInt = y2_37.toInt then (wlp2 (f_X10_laysRows_B67 v1 y2_37 ag45 y3_45) FU M45 (nI 0))
   else (ag45 M45 (y3_45 + (nI 1))))))
def f_X10_laysRows_B37 (v1 : Int32) (ag37 : Mem → Int32 → Option Mem) (M37 : Mem) (y2_37 : Int32) : Option Mem :=
  (if 40 < y2_37.toInt then some M37
   else (wlp2 (f_X10_laysRows_B45 v1 ag37 y2_37) FU M37 (nI 0)))
def f_X10_laysRows_L35 (v1 : Int32) (M2 : Mem) : Option Mem :=
  (wlp2 (f_X10_laysRows_B37 v1) FU M2 (nI 2))
def f_X10_laysRows_L28 (ag2 : Mem → Int32 → Option Mem) (M2 : Mem) (y2_2 : Int32) (t0_28 : Int32) : Option Mem :=
  gd y2_2 40 (bnd (mset M2 26 (ix y2_2) t0_28) (fun M_4 => (ag2 M_4 (y2_2 + (nI 1)))))
def f_X10_laysRows_B2 (v1 : Int32) (ag2 : Mem → Int32 → Option Mem) (M2 : Mem) (y2_2 : Int32) : Option Mem :=
  (if 40 ≤ y2_2.toInt then (f_X10_laysRows_L35 v1 M2)
   else gd y2_2 40 ((if (M2 24 (ix y2_2)).toInt = 1 then (f_X10_laysRows_L28 ag2 M2 y2_2 (nI 1))
   else (f_X10_laysRows_L28 ag2 M2 y2_2 (nI 0)))))
def f_X10_laysRows (M : Mem) (v1 : Int32) : Option Mem :=
  (wlp2 (f_X10_laysRows_B2 v1) FU M (nI 0))
def f_X10_cross_B189 (x_3 : Int32) (r_4 : Int32) (M_7 : Mem) (ag180 : Int32 → Int32 → Option (Int32 × Mem)) (y5_180 : Int32) (y6_180 : Int32) (ag189 : Int32 → Option (Int32 × Mem)) (y7_189 : Int32) : Option (Int32 × Mem) :=
  gd y7_189 40 ((if (M_7 24 (ix y7_189)).toInt = ((r_4 - (nI 1)) - y6_180).toInt then (if y6_180.toInt = 0 then (f_X10_isByBank M_7 y7_189 (nI 1) x_3).bind (fun r_9 => (if r_9.toInt = 0 then (ag189 (y7_189 + (nI 1)))
   else (ag180 y7_189 (y6_180 + (nI 1)))))
   else (f_X10_canStep M_7 y5_180 y7_189 x_3).bind (fun r_8 => (if r_8.toInt = 0 then (ag189 (y7_189 + (nI 1)))
   else (ag180 y7_189 (y6_180 + (nI 1))))))
   else (ag189 (y7_189 + (nI 1)))))
def f_X10_cross_B180 (v2 : Int32) (x_3 : Int32) (r_4 : Int32) (M_7 : Mem) (ag180 : Int32 → Int32 → Option (Int32 × Mem)) (y5_180 : Int32) (y6_180 : Int32) : Option (Int32 × Mem) :=
  (if v2.toInt < y6_180.toInt then some (y5_180, M_7)
   else (wlp1 (f_X10_cross_B189 x_3 r_4 M_7 ag180 y5_180 y6_180) FU (nI 0)))
def f_X10_cross_B115 (x_3 : Int32) (r_4 : Int32) (M_7 : Mem) (ag115 : Int32 → Int32 → Option (Int32 × Mem)) (y5_115 : Int32) (y6_115 : Int32) : Option (Int32 × Mem) :=
  (if 40 ≤ y6_115.toInt then some (y5_115, M_7)
   else (f_X10_isByBank M_7 y6_115 (nI 1) x_3).bind (fun r_10 => (if r_10.toInt = 0 then (ag115 y5_115 (y6_115 + (nI 1)))
   else gd y6_115 40 ((if (M_7 24 (ix y6_115)).toInt = (r_4 - (nI 1)).toInt then gd y6_115 40 ((f_X10_min (nI 1000000000) (y5_115 + (M_7 26 (ix y6_115)))).bind (fun r_11 => (ag115 r_11 (y6_115 + (nI 1)))))
   else (ag115 y5_115 (y6_115 + (nI 1))))))))
def f_X10_cross_L80 (v2 : Int32) (x_3 : Int32) (r_4 : Int32) (M_5 : Mem) : Option (Int32 × Mem) :=
  (if r_4.toInt = 1 then some ((nI 1), M_5)
   else (f_X10_laysSteps 24 40 M_5 (nI 0) x_3).bind (fun M_6 => (f_X10_laysRows M_6 x_3).bind (fun M_7 => (if v2.toInt = 101 then (wlp2 (f_X10_cross_B115 x_3 r_4 M_7) FU (nI 0) (nI 0))
   else (wlp2 (f_X10_cross_B180 v2 x_3 r_4 M_7) FU (-1) (nI 0))))))
def f_X10_cross_L31 (M : Mem) (v1 : Int32) (v2 : Int32) : Option (Int32 × Mem) :=
  gd v1 8 (bnd (M 4 (ix v1)) (fun x_3 => cb (f_X10_crossing M x_3) (fun r_4 M_5 => (if r_4.toInt = -1 then some ((-2), M_5)
   else (if v2.toInt = 100 then some (r_4, M_5)
   else (if 100 ≤ v2.toInt then (f_X10_cross_L80 v2 x_3 r_4 M_5)
   else (if v2.toInt < (r_4 - (nI 1)).toInt then (f_X10_cross_L80 v2 x_3 r_4 M_5)
   else some ((-4), M_5))))))))
def f_X10_cross (M : Mem) (v1 : Int32) (v2 : Int32) : Option (Int32 × Mem) :=
  (f_X10_isPerson M v1).bind (fun r_1 => (if r_1.toInt = 0 then some ((-1), M)
   else (f_X10_in v2 (nI 0) (nI 39)).bind (fun r_2 => (if r_2.toInt = 0 then (f_X10_in v2 (nI 100) (nI 101)).bind (fun r_12 => (if r_12.toInt = 0 then some ((-1), M)
   else (f_X10_cross_L31 M v1 v2)))
   else (f_X10_cross_L31 M v1 v2)))))
def f_X10_dryCost_B182 (v1 : Int32) (M60 : Mem) (ag182 : Int32 → Int32 → Option (Int32 × Mem)) (y3_182 : Int32) (y4_182 : Int32) : Option (Int32 × Mem) :=
  (if 40 ≤ y4_182.toInt then some (y3_182, M60)
   else (f_X10_isByBank M60 y4_182 (nI 0) v1).bind (fun r_1 => (if r_1.toInt = 0 then (ag182 y3_182 (y4_182 + (nI 1)))
   else gd y4_182 40 ((f_X10_min y3_182 ((M60 27 (ix y4_182)) + (nI 1))).bind (fun r_2 => (ag182 r_2 (y4_182 + (nI 1))))))))
def f_X10_dryCost_L175 (v1 : Int32) (M60 : Mem) : Option (Int32 × Mem) :=
  (wlp2 (f_X10_dryCost_B182 v1 M60) FU (nI 1000000) (nI 0))
def f_X10_dryCost_B77 (v1 : Int32) (ag68 : Mem → Int32 → Int32 → Option (Int32 × Mem)) (y3_68 : Int32) (ag77 : Mem → Int32 → Int32 → Option (Int32 × Mem)) (M77 : Mem) (y2_77 : Int32) (y4_77 : Int32) : Option (Int32 × Mem) :=
  (if 40 ≤ y4_77.toInt then (ag68 M77 y2_77 (y3_68 + (nI 1)))
   else gd y3_68 40 ((if (M77 27 (ix y3_68)).toInt = 1000000 then (ag77 M77 y2_77 (y4_77 + (nI 1)))
   else (f_X10_canStep M77 y3_68 y4_77 v1).bind (fun r_3 => (if r_3.toInt = 0 then (ag77 M77 y2_77 (y4_77 + (nI 1)))
   else gd y3_68 40 (gd ((nI 120) + y4_77) 202 (bnd (((M77 27 (ix y3_68)) + ((nI 100) * (M77 1 (ix ((nI 120) + y4_77))))) + (nI 1)) (fun x_4 => gd y4_77 40 ((if x_4.toInt < (M77 27 (ix y4_77)).toInt then gd y4_77 40 (bnd (mset M77 27 (ix y4_77) x_4) (fun M_5 => (ag77 M_5 (nI 1) (y4_77 + (nI 1)))))
   else (ag77 M77 y2_77 (y4_77 + (nI 1)))))))))))))
def f_X10_dryCost_B68 (v1 : Int32) (ag60 : Mem → Int32 → Option (Int32 × Mem)) (ag68 : Mem → Int32 → Int32 → Option (Int32 × Mem)) (M68 : Mem) (y2_68 : Int32) (y3_68 : Int32) : Option (Int32 × Mem) :=
  (if 40 ≤ y3_68.toInt then (ag60 M68 y2_68)
   else (wlp3 (f_X10_dryCost_B77 v1 ag68 y3_68) FU M68 y2_68 (nI 0)))
def f_X10_dryCost_B60 (v1 : Int32) (ag60 : Mem → Int32 → Option (Int32 × Mem)) (M60 : Mem) (y2_60 : Int32) : Option (Int32 × Mem) :=
  (if y2_60.toInt = 0 then (f_X10_dryCost_L175 v1 M60)
   else (wlp3 (f_X10_dryCost_B68 v1 ag60) FU M60 (nI 0) (nI 0)))
def f_X10_dryCost_L58 (v1 : Int32) (M10 : Mem) : Option (Int32 × Mem) :=
  (wlp2 (f_X10_dryCost_B60 v1) FU M10 (nI 1))
def f_X10_dryCost_L51 (ag10 : Mem → Int32 → Option (Int32 × Mem)) (M10 : Mem) (y2_10 : Int32) (t0_51 : Int32) : Option (Int32 × Mem) :=
  gd y2_10 40 (bnd (mset M10 27 (ix y2_10) t0_51) (fun M_7 => (ag10 M_7 (y2_10 + (nI 1)))))
def f_X10_dryCost_B10 (v1 : Int32) (ag10 : Mem → Int32 → Option (Int32 × Mem)) (M10 : Mem) (y2_10 : Int32) : Option (Int32 × Mem) :=
  (if 40 ≤ y2_10.toInt then (f_X10_dryCost_L58 v1 M10)
   else (f_X10_isByBank M10 y2_10 (nI 1) v1).bind (fun r_6 => (if r_6.toInt = 0 then (f_X10_dryCost_L51 ag10 M10 y2_10 (nI 1000000))
   else gd ((nI 120) + y2_10) 202 ((f_X10_dryCost_L51 ag10 M10 y2_10 (((nI 100) * (M10 1 (ix ((nI 120) + y2_10)))) + (nI 1)))))))
def f_X10_dryCost (M : Mem) (v1 : Int32) : Option (Int32 × Mem) :=
  (if v1.toInt < 21 then (wlp2 (f_X10_dryCost_B10 v1) FU M (nI 0))
   else some ((nI 1), M))
def f_X10_driest (M : Mem) (v1 : Int32) (v2 : Int32) : Option (Int32 × Mem) :=
  (f_X10_isPerson M v1).bind (fun r_1 => (if r_1.toInt = 0 then some ((-1), M)
   else (f_X10_in v2 (nI 0) (nI 1)).bind (fun r_2 => (if r_2.toInt = 0 then some ((-1), M)
   else gd v1 8 (cb (f_X10_dryCost M (M 4 (ix v1))) (fun r_3 M_4 => (if r_3.toInt < 1000000 then (if v2.toInt = 0 then some ((r_3 / (nI 100)), M_4)
   else some ((rm r_3 (nI 100)), M_4))
   else some ((-2), M_4))))))))
def f_X10_endsPiece_B0  (ag0 : Mem → Option Mem) (M0 : Mem) : Option Mem :=
  (f_X10_waitTop M0).bind (fun r_1 => (if r_1.toInt = 10 then (f_X10_notes M0 (nI 10) (nI 0)).bind (fun M_2 => bnd (mset M_2 0 13 ((M_2 0 13) - (nI 1))) (fun M_3 => bnd (mset M_3 0 11 ((M_3 0 11) - (nI 1))) (fun M_4 => (ag0 M_4))))
   else some M0))
def f_X10_endsPiece (M : Mem) : Option Mem :=
  (wlp1 f_X10_endsPiece_B0 FU M)
def f_X10_here (M : Mem) : Option Int32 :=
  (if (M 0 8).toInt ≤ (M 0 7).toInt then some (-1)
   else gd (M 0 7) 260 (some ((M 5 (ix (M 0 7))) &&& (nI 255))))
def f_X10_wrongAt (M : Mem) (v1 : Int32) (v2 : Int32) : Option (Int32 × Mem) :=
  bnd (mset M 0 9 (((-1000) * v1) - v2)) (fun M_1 => some ((nI 0), M_1))
def f_X10_endsRound_L215 (z1_73 : Int32) (x_4 : Int32) (M134 : Mem) : Option (Int32 × Mem) :=
  gd (M134 0 50) 2 (bnd (mset M134 0 49 ((M134 35 (ix (M134 0 50))) + (x_4 * z1_73))) (fun M_5 => some ((nI 1), M_5)))
def f_X10_endsRound_B134 (z1_73 : Int32) (x_4 : Int32) (ag134 : Mem → Int32 → Option (Int32 × Mem)) (M134 : Mem) (y3_134 : Int32) : Option (Int32 × Mem) :=
  (if (x_4 * z1_73).toInt ≤ y3_134.toInt then (f_X10_endsRound_L215 z1_73 x_4 M134)
   else gd (M134 0 50) 2 (gd (M134 0 50) 2 (gd (((M134 35 (ix (M134 0 50))) + y3_134) - x_4) 60 (gd ((M134 35 (ix (M134 0 50))) + y3_134) 60 (bnd (mset M134 32 (ix ((M134 35 (ix (M134 0 50))) + y3_134)) (M134 32 (ix (((M134 35 (ix (M134 0 50))) + y3_134) - x_4)))) (fun M_6 => gd (M_6 0 50) 2 (gd (M_6 0 50) 2 (gd (((M_6 35 (ix (M_6 0 50))) + y3_134) - x_4) 60 (gd ((M_6 35 (ix (M_6 0 50))) + y3_134) 60 (bnd (mset M_6 33 (ix ((M_6 35 (ix (M_6 0 50))) + y3_134)) (M_6 33 (ix (((M_6 35 (ix (M_6 0 50))) + y3_134) - x_4)))) (fun M_7 => (ag134 M_7 (y3_134 + (nI 1))))))))))))))
def f_X10_endsRound_L73 (N73 : Mem) (z1_73 : Int32) : Option (Int32 × Mem) :=
  bnd (mset N73 0 50 ((N73 0 50) - (nI 1))) (fun M_3 => gd (M_3 0 50) 2 (bnd ((M_3 0 49) - (M_3 35 (ix (M_3 0 50)))) (fun x_4 => gd (M_3 0 50) 2 ((if ((M_3 35 (ix (M_3 0 50))) + (x_4 * z1_73)).toInt ≤ 60 then (wlp2 (f_X10_endsRound_B134 z1_73 x_4) FU M_3 x_4)
   else gd (M_3 0 50) 2 (cb (f_X10_wrongAt M_3 (nI 6) (M_3 34 (ix (M_3 0 50)))) (fun r_8 M_9 => gb r_8 (some (r_8, M_9)))))))))
def f_X10_endsRound (M : Mem) : Option (Int32 × Mem) :=
  bnd (mset M 0 7 ((M 0 7) + (nI 1))) (fun M_1 => (f_X10_here M_1).bind (fun r_2 => (if r_2.toInt = 120 then bnd (mset M_1 0 7 ((M_1 0 7) + (nI 1))) (fun M_10 => (f_X10_here M_10).bind (fun r_11 => (f_X10_in r_11 (nI 50) (nI 57)).bind (fun r_12 => (if r_12.toInt = 0 then cb (f_X10_wrongAt M_10 (nI 1) (M_10 0 7)) (fun r_15 M_16 => gb r_15 (some (r_15, M_16)))
   else (f_X10_here M_10).bind (fun r_13 => bnd (mset M_10 0 7 ((M_10 0 7) + (nI 1))) (fun M_14 => (f_X10_endsRound_L73 M_14 (r_13 - (nI 48)))))))))
   else (f_X10_endsRound_L73 M_1 (nI 1)))))
def f_X10_factOf (v0 : Int32) : Option Int32 :=
  (if v0.toInt = 101 then some (nI 4)
   else (if v0.toInt = 103 then some (nI 7)
   else (if v0.toInt = 105 then some (nI 0)
   else (if v0.toInt = 110 then some (nI 5)
   else (if v0.toInt = 114 then some (nI 6)
   else (if v0.toInt = 115 then some (nI 3)
   else (if v0.toInt = 120 then some (nI 1)
   else (if v0.toInt = 121 then some (nI 2)
   else some (-1)))))))))
def f_X10_types_B2 (v1 : Int32) (ag2 : Mem → Int32 → Option Mem) (M2 : Mem) (y2_2 : Int32) : Option Mem :=
  (if y2_2.toInt < 0 then some M2
   else gd (M2 0 6) 260 (bnd (mset M2 5 (ix (M2 0 6)) (vp_nar .byte (i2b (shr v1 ((nI 8) * y2_2))))) (fun M_1 => bnd (mset M_1 0 6 ((M_1 0 6) + (nI 1))) (fun M_2 => (ag2 M_2 (y2_2 + (-1)))))))
def f_X10_types (M : Mem) (v1 : Int32) : Option Mem :=
  (wlp2 (f_X10_types_B2 v1) FU M (nI 3))
def f_X10_feed (M : Mem) (v1 : Int32) (v2 : Int32) (v3 : Int32) (v4 : Int32) (v5 : Int32) : Option (Int32 × Mem) :=
  (if ((M 0 6) + (nI 20)).toInt ≤ 260 then (f_X10_types M v1).bind (fun M_1 => (f_X10_types M_1 v2).bind (fun M_2 => (f_X10_types M_2 v3).bind (fun M_3 => (f_X10_types M_3 v4).bind (fun M_4 => (f_X10_types M_4 v5).bind (fun M_5 => some ((M_5 0 6), M_5))))))
   else some ((-1), M))
def f_X10_nearTo_B4 (M : Mem) (v1 : Int32) (ag4 : Int32 → Int32 → Option Int32) (y2_4 : Int32) (y3_4 : Int32) : Option Int32 :=
  (if 40 ≤ y3_4.toInt then some y2_4
   else (if y3_4.toInt = v1.toInt then (ag4 y2_4 (y3_4 + (nI 1)))
   else gd y3_4 202 ((if (M 1 (ix y3_4)).toInt = 1 then (f_X10_apart M v1 y3_4).bind (fun r_1 => (if 4 < r_1.toInt then (ag4 y2_4 (y3_4 + (nI 1)))
   else (ag4 (y2_4 + (nI 1)) (y3_4 + (nI 1)))))
   else (ag4 y2_4 (y3_4 + (nI 1)))))))
def f_X10_nearTo (M : Mem) (v1 : Int32) : Option Int32 :=
  (wlp2 (f_X10_nearTo_B4 M v1) FU (nI 0) (nI 0))
def f_X10_feels (M : Mem) (v1 : Int32) (v2 : Int32) : Option Mem :=
  bnd (mset M 18 0 v1) (fun M_1 => gd ((nI 40) + v1) 202 (bnd (mset M_1 18 1 (M_1 1 (ix ((nI 40) + v1)))) (fun M_2 => gd ((nI 80) + v1) 202 (bnd (mset M_2 18 2 (M_2 1 (ix ((nI 80) + v1)))) (fun M_3 => gd ((nI 120) + v1) 202 (bnd (mset M_3 18 3 (M_3 1 (ix ((nI 120) + v1)))) (fun M_4 => gd ((nI 160) + v1) 202 (bnd (mset M_4 18 4 (M_4 1 (ix ((nI 160) + v1)))) (fun M_5 => (f_X10_nearTo M_5 v1).bind (fun r_6 => bnd (mset M_5 18 5 r_6) (fun M_7 => bnd (mset M_7 18 6 v2) (fun M_8 => bnd (mset M_8 18 7 (rm (M_8 1 200) (nI 100))) (fun M_9 => some M_9)))))))))))))
def f_X10_holdsAny_B2 (v1 : Int32) (ag2 : Mem → Int32 → Option (Int32 × Mem)) (M2 : Mem) (y2_2 : Int32) : Option (Int32 × Mem) :=
  (if (M2 0 15).toInt ≤ y2_2.toInt then some ((nI 0), M2)
   else gd y2_2 16 ((if (M2 13 (ix y2_2)).toInt = v1.toInt then gd y2_2 16 (gd y2_2 16 (cb (f_X10_comesTo M2 (M2 15 (ix y2_2)) (M2 16 (ix y2_2))) (fun r_1 M_2 => (if r_1.toInt = 1 then some ((nI 1), M_2)
   else (ag2 M_2 (y2_2 + (nI 1)))))))
   else (ag2 M2 (y2_2 + (nI 1))))))
def f_X10_holdsAny (M : Mem) (v1 : Int32) : Option (Int32 × Mem) :=
  (wlp2 (f_X10_holdsAny_B2 v1) FU M (nI 0))
def f_X10_moves_L209 (v1 : Int32) (M_17 : Mem) (t0_209 : Int32) : Option Mem :=
  gd ((nI 160) + v1) 202 (bnd (mset M_17 1 (ix ((nI 160) + v1)) t0_209) (fun M_18 => some M_18))
def f_X10_moves_L180 (v1 : Int32) (x_2 : Int32) (N180 : Mem) : Option Mem :=
  (f_X10_feels N180 v1 x_2).bind (fun M_15 => cb (f_X10_holdsAny M_15 (nI 120)) (fun r_16 M_17 => (if r_16.toInt = 0 then (f_X10_moves_L209 v1 M_17 (nI 0))
   else (f_X10_moves_L209 v1 M_17 (nI 1)))))
def f_X10_moves (M : Mem) (v1 : Int32) : Option Mem :=
  bnd (mset M 1 201 (rm (((nI 25173) * (M 1 201)) + (nI 13849)) (nI 65536))) (fun M_1 => bnd (rm (M_1 1 201) (nI 10)) (fun x_2 => (f_X10_feels M_1 v1 x_2).bind (fun M_3 => gd ((nI 40) + v1) 202 (cb (f_X10_byLaw M_3 (nI 117) (nI 9)) (fun r_4 M_5 => cb (f_X10_byLaw M_5 (nI 100) (nI 9)) (fun r_6 M_7 => (f_X10_bounded (((M_3 1 (ix ((nI 40) + v1))) + r_4) - r_6) (nI 0) (nI 39)).bind (fun r_8 => gd ((nI 80) + v1) 202 (cb (f_X10_byLaw M_7 (nI 111) (nI 9)) (fun r_9 M_10 => cb (f_X10_byLaw M_10 (nI 98) (nI 9)) (fun r_11 M_12 => (f_X10_bounded (((M_7 1 (ix ((nI 80) + v1))) + r_9) - r_11) (nI 1) (nI 20)).bind (fun r_13 => (f_X10_stoneAt M_12 r_8 r_13).bind (fun r_14 => (if r_14.toInt = -1 then gd ((nI 40) + v1) 202 (bnd (mset M_12 1 (ix ((nI 40) + v1)) r_8) (fun M_20 => gd ((nI 80) + v1) 202 (bnd (mset M_20 1 (ix ((nI 80) + v1)) r_13) (fun M_21 => bnd (mset M_21 0 34 ((M_21 0 34) + (nI 1))) (fun M_22 => (f_X10_moves_L180 v1 x_2 M_22))))))
   else (if r_14.toInt = v1.toInt then (f_X10_moves_L180 v1 x_2 M_12)
   else bnd (mset M_12 0 35 ((M_12 0 35) + (nI 1))) (fun M_19 => (f_X10_moves_L180 v1 x_2 M_19))))))))))))))))
def f_X10_nightGoes_L27 (M2 : Mem) : Option Mem :=
  bnd (mset M2 1 200 ((M2 1 200) + (nI 1))) (fun M_1 => some M_1)
def f_X10_nightGoes_B2  (ag2 : Mem → Int32 → Option Mem) (M2 : Mem) (y1_2 : Int32) : Option Mem :=
  (if 40 ≤ y1_2.toInt then (f_X10_nightGoes_L27 M2)
   else (f_X10_isStone M2 y1_2).bind (fun r_2 => (if r_2.toInt = 0 then (ag2 M2 (y1_2 + (nI 1)))
   else (f_X10_moves M2 y1_2).bind (fun M_3 => (ag2 M_3 (y1_2 + (nI 1)))))))
def f_X10_nightGoes (M : Mem) : Option Mem :=
  (wlp2 f_X10_nightGoes_B2 FU M (nI 0))
def f_X10_nightsGo_B12 (v1 : Int32) (ag12 : Mem → Int32 → Option Mem) (M12 : Mem) (y2_12 : Int32) : Option Mem :=
  (if v1.toInt ≤ y2_12.toInt then some M12
   else (if 9999 ≤ (M12 1 200).toInt then some M12
   else (f_X10_nightGoes M12).bind (fun M_3 => (ag12 M_3 (y2_12 + (nI 1))))))
def f_X10_nightsGo (M : Mem) (v1 : Int32) : Option Mem :=
  bnd (mset M 0 34 (nI 0)) (fun M_1 => bnd (mset M_1 0 35 (nI 0)) (fun M_2 => (wlp2 (f_X10_nightsGo_B12 v1) FU M_2 (nI 0))))
def f_X10_firstNight_L85 (M43 : Mem) (y2_43 : Int32) (y3_43 : Int32) : Option (Int32 × Mem) :=
  (f_X10_copies 2 202 1 202 M43).bind (fun M_5 => (if y3_43.toInt = 0 then some ((-2), M_5)
   else some (y2_43, M_5)))
def f_X10_firstNight_B43 (v1 : Int32) (ag43 : Mem → Int32 → Int32 → Option (Int32 × Mem)) (M43 : Mem) (y2_43 : Int32) (y3_43 : Int32) : Option (Int32 × Mem) :=
  (if y3_43.toInt = 0 then (if 60 ≤ y2_43.toInt then (f_X10_firstNight_L85 M43 y2_43 y3_43)
   else (f_X10_nightsGo M43 (nI 1)).bind (fun M_6 => gd v1 8 (cb (f_X10_crossing M_6 (M_6 4 (ix v1))) (fun r_7 M_8 => (if r_7.toInt = -1 then (ag43 M_8 (y2_43 + (nI 1)) (nI 0))
   else (ag43 M_8 (y2_43 + (nI 1)) (nI 1)))))))
   else (f_X10_firstNight_L85 M43 y2_43 y3_43))
def f_X10_firstNight_L42 (v1 : Int32) (M_4 : Mem) (t0_42 : Int32) : Option (Int32 × Mem) :=
  (wlp3 (f_X10_firstNight_B43 v1) FU M_4 (nI 0) t0_42)
def f_X10_firstNight (M : Mem) (v1 : Int32) : Option (Int32 × Mem) :=
  (f_X10_isPerson M v1).bind (fun r_1 => (if r_1.toInt = 0 then some ((-1), M)
   else (f_X10_copies 1 202 2 202 M).bind (fun M_2 => gd v1 8 (cb (f_X10_crossing M_2 (M_2 4 (ix v1))) (fun r_3 M_4 => (if r_3.toInt = -1 then (f_X10_firstNight_L42 v1 M_4 (nI 0))
   else (f_X10_firstNight_L42 v1 M_4 (nI 1))))))))
def f_X10_goesAcross_B149  (ag149 : Mem → Int32 → Option (Int32 × Mem)) (M149 : Mem) (y2_149 : Int32) : Option (Int32 × Mem) :=
  (if y2_149.toInt = 80 then some ((nI 1), M149)
   else gd y2_149 82 (bnd (M149 29 (ix y2_149)) (fun x_3 => gd (((nI 82) * x_3) + y2_149) 6724 (gd (((nI 82) * x_3) + y2_149) 6724 (bnd (mset M149 28 (ix (((nI 82) * x_3) + y2_149)) (vp_nar .byte (i2b ((M149 28 (ix (((nI 82) * x_3) + y2_149))) - (nI 1))))) (fun M_4 => gd (((nI 82) * y2_149) + x_3) 6724 (gd (((nI 82) * y2_149) + x_3) 6724 (bnd (mset M_4 28 (ix (((nI 82) * y2_149) + x_3)) (vp_nar .byte (i2b ((M_4 28 (ix (((nI 82) * y2_149) + x_3))) + (nI 1))))) (fun M_5 => (ag149 M_5 x_3))))))))))
def f_X10_goesAcross_L133 (M42 : Mem) : Option (Int32 × Mem) :=
  (if (M42 29 81).toInt = -1 then some ((nI 0), M42)
   else (wlp2 f_X10_goesAcross_B149 FU M42 (nI 81)))
def f_X10_goesAcross_B60 (ag42 : Mem → Int32 → Int32 → Option (Int32 × Mem)) (y2_42 : Int32) (ag60 : Mem → Int32 → Int32 → Option (Int32 × Mem)) (M60 : Mem) (y1_60 : Int32) (y3_60 : Int32) : Option (Int32 × Mem) :=
  (if 82 ≤ y3_60.toInt then (ag42 M60 y1_60 (y2_42 + (nI 1)))
   else gd y3_60 82 ((if (M60 29 (ix y3_60)).toInt = -1 then gd y2_42 82 (gd (((nI 82) * (M60 30 (ix y2_42))) + y3_60) 6724 ((if (M60 28 (ix (((nI 82) * (M60 30 (ix y2_42))) + y3_60))).toInt = 0 then (ag60 M60 y1_60 (y3_60 + (nI 1)))
   else gd y2_42 82 (gd y3_60 82 (bnd (mset M60 29 (ix y3_60) (M60 30 (ix y2_42))) (fun M_6 => gd y1_60 82 (bnd (mset M_6 30 (ix y1_60) y3_60) (fun M_7 => (ag60 M_7 (y1_60 + (nI 1)) (y3_60 + (nI 1)))))))))))
   else (ag60 M60 y1_60 (y3_60 + (nI 1))))))
def f_X10_goesAcross_B42  (ag42 : Mem → Int32 → Int32 → Option (Int32 × Mem)) (M42 : Mem) (y1_42 : Int32) (y2_42 : Int32) : Option (Int32 × Mem) :=
  (if y1_42.toInt ≤ y2_42.toInt then (f_X10_goesAcross_L133 M42)
   else (if (M42 29 81).toInt = -1 then (wlp3 (f_X10_goesAcross_B60 ag42 y2_42) FU M42 y1_42 (nI 0))
   else (f_X10_goesAcross_L133 M42)))
def f_X10_goesAcross_L21 (M2 : Mem) : Option (Int32 × Mem) :=
  bnd (mset M2 30 0 (nI 80)) (fun M_1 => bnd (mset M_1 29 80 (nI 80)) (fun M_2 => (wlp3 f_X10_goesAcross_B42 FU M_2 (nI 1) (nI 0))))
def f_X10_goesAcross_B2  (ag2 : Mem → Int32 → Option (Int32 × Mem)) (M2 : Mem) (y1_2 : Int32) : Option (Int32 × Mem) :=
  (if 82 ≤ y1_2.toInt then (f_X10_goesAcross_L21 M2)
   else gd y1_2 82 (bnd (mset M2 29 (ix y1_2) (-1)) (fun M_8 => (ag2 M_8 (y1_2 + (nI 1))))))
def f_X10_goesAcross (M : Mem) : Option (Int32 × Mem) :=
  (wlp2 f_X10_goesAcross_B2 FU M (nI 0))
def f_X10_hasOpenSum_B2 (M : Mem) (ag2 : Int32 → Option Int32) (y2_2 : Int32) : Option Int32 :=
  (if (M 0 13).toInt ≤ y2_2.toInt then some (nI 0)
   else gd y2_2 260 ((if ((M 7 (ix y2_2)) / (nI 1048576)).toInt = 14 then some (nI 1)
   else (ag2 (y2_2 + (nI 1))))))
def f_X10_hasOpenSum (M : Mem) (v1 : Int32) : Option Int32 :=
  (wlp1 (f_X10_hasOpenSum_B2 M) FU v1)
def f_X10_laysRoom_B105 (v1 : Int32) (ag24 : Mem → Int32 → Option Mem) (y2_24 : Int32) (ag105 : Mem → Int32 → Option Mem) (M105 : Mem) (y3_105 : Int32) : Option Mem :=
  (if 40 ≤ y3_105.toInt then (ag24 M105 (y2_24 + (nI 1)))
   else (if y3_105.toInt = y2_24.toInt then (ag105 M105 (y3_105 + (nI 1)))
   else (f_X10_canStep M105 y2_24 y3_105 v1).bind (fun r_5 => (if r_5.toInt = 0 then (ag105 M105 (y3_105 + (nI 1)))
   else gd (((nI 82) * ((nI 40) + y2_24)) + y3_105) 6724 (bnd (mset M105 28 (ix (((nI 82) * ((nI 40) + y2_24)) + y3_105)) (vp_nar .byte (nI 1))) (fun M_6 => (ag105 M_6 (y3_105 + (nI 1)))))))))
def f_X10_laysRoom_L103 (v1 : Int32) (ag24 : Mem → Int32 → Option Mem) (y2_24 : Int32) (N103 : Mem) : Option Mem :=
  (wlp2 (f_X10_laysRoom_B105 v1 ag24 y2_24) FU N103 (nI 0))
def f_X10_laysRoom_L77 (v1 : Int32) (ag24 : Mem → Int32 → Option Mem) (y2_24 : Int32) (N77 : Mem) : Option Mem :=
  (f_X10_isByBank N77 y2_24 (nI 0) v1).bind (fun r_4 => (if r_4.toInt = 0 then (f_X10_laysRoom_L103 v1 ag24 y2_24 N77)
   else gd (((nI 82) * ((nI 40) + y2_24)) + (nI 81)) 6724 (bnd (mset N77 28 (ix (((nI 82) * ((nI 40) + y2_24)) + (nI 81))) (vp_nar .byte (nI 1))) (fun M_7 => (f_X10_laysRoom_L103 v1 ag24 y2_24 M_7)))))
def f_X10_laysRoom_B24 (v1 : Int32) (ag24 : Mem → Int32 → Option Mem) (M24 : Mem) (y2_24 : Int32) : Option Mem :=
  (if 40 ≤ y2_24.toInt then some M24
   else (f_X10_isDry M24 y2_24).bind (fun r_1 => (if r_1.toInt = 0 then (ag24 M24 (y2_24 + (nI 1)))
   else gd ((((nI 82) * y2_24) + (nI 40)) + y2_24) 6724 (bnd (mset M24 28 (ix ((((nI 82) * y2_24) + (nI 40)) + y2_24)) (vp_nar .byte (nI 1))) (fun M_2 => (f_X10_isByBank M_2 y2_24 (nI 1) v1).bind (fun r_3 => (if r_3.toInt = 0 then (f_X10_laysRoom_L77 v1 ag24 y2_24 M_2)
   else gd ((nI 6560) + y2_24) 6724 (bnd (mset M_2 28 (ix ((nI 6560) + y2_24)) (vp_nar .byte (nI 1))) (fun M_8 => (f_X10_laysRoom_L77 v1 ag24 y2_24 M_8))))))))))
def f_X10_laysRoom_L22 (v1 : Int32) (M2 : Mem) : Option Mem :=
  (wlp2 (f_X10_laysRoom_B24 v1) FU M2 (nI 0))
def f_X10_laysRoom_B2 (v1 : Int32) (ag2 : Mem → Int32 → Option Mem) (M2 : Mem) (y2_2 : Int32) : Option Mem :=
  (if 6724 ≤ y2_2.toInt then (f_X10_laysRoom_L22 v1 M2)
   else gd y2_2 6724 (bnd (mset M2 28 (ix y2_2) (vp_nar .byte (nI 0))) (fun M_9 => (ag2 M_9 (y2_2 + (nI 1))))))
def f_X10_laysRoom (M : Mem) (v1 : Int32) : Option Mem :=
  (wlp2 (f_X10_laysRoom_B2 v1) FU M (nI 0))
def f_X10_hold_B36  (ag36 : Mem → Int32 → Option (Int32 × Mem)) (M36 : Mem) (y2_36 : Int32) : Option (Int32 × Mem) :=
  cb (f_X10_goesAcross M36) (fun r_3 M_4 => (if r_3.toInt = 0 then some (y2_36, M_4)
   else (ag36 M_4 (y2_36 + (nI 1)))))
def f_X10_hold (M : Mem) (v1 : Int32) : Option (Int32 × Mem) :=
  (f_X10_isPerson M v1).bind (fun r_1 => (if r_1.toInt = 0 then some ((-1), M)
   else gd v1 8 ((if (M 4 (ix v1)).toInt < 21 then gd v1 8 ((f_X10_laysRoom M (M 4 (ix v1))).bind (fun M_2 => (wlp2 f_X10_hold_B36 FU M_2 (nI 0))))
   else some ((-2), M)))))
def f_X10_howFar_B31 (M_3 : Mem) (ag31 : Int32 → Int32 → Option (Int32 × Mem)) (y2_31 : Int32) (y3_31 : Int32) : Option (Int32 × Mem) :=
  (if 40 ≤ y3_31.toInt then some (y2_31, M_3)
   else gd y3_31 40 ((if (M_3 23 (ix y3_31)).toInt = -1 then (ag31 y2_31 (y3_31 + (nI 1)))
   else gd ((nI 80) + y3_31) 202 ((f_X10_max y2_31 (M_3 1 (ix ((nI 80) + y3_31)))).bind (fun r_4 => (ag31 r_4 (y3_31 + (nI 1))))))))
def f_X10_howFar (M : Mem) (v1 : Int32) : Option (Int32 × Mem) :=
  (f_X10_isPerson M v1).bind (fun r_1 => (if r_1.toInt = 0 then some ((-1), M)
   else gd v1 8 (cb (f_X10_crossing M (M 4 (ix v1))) (fun r_2 M_3 => (if r_2.toInt = -1 then (wlp2 (f_X10_howFar_B31 M_3) FU (nI 0) (nI 0))
   else some ((nI 21), M_3))))))
def f_X10_isDigit (M : Mem) : Option Int32 :=
  (f_X10_here M).bind (fun r_1 => (if r_1.toInt < 48 then some (nI 0)
   else (f_X10_here M).bind (fun r_2 => (if 57 < r_2.toInt then some (nI 0)
   else some (nI 1)))))
def f_X10_laysIslands_B82 (v1 : Int32) (y2_25 : Int32) (ag72 : Mem → Int32 → Int32 → Option (Int32 × Mem)) (y5_72 : Int32) (ag82 : Mem → Int32 → Int32 → Option (Int32 × Mem)) (M82 : Mem) (y4_82 : Int32) (y6_82 : Int32) : Option (Int32 × Mem) :=
  (if 40 ≤ y6_82.toInt then (ag72 M82 y4_82 (y5_72 + (nI 1)))
   else gd y6_82 40 ((if (M82 31 (ix y6_82)).toInt = -1 then gd y5_72 40 ((f_X10_canStep M82 (M82 25 (ix y5_72)) y6_82 v1).bind (fun r_4 => (if r_4.toInt = 0 then (ag82 M82 y4_82 (y6_82 + (nI 1)))
   else gd y6_82 40 (bnd (mset M82 31 (ix y6_82) y2_25) (fun M_5 => gd y4_82 40 (bnd (mset M_5 25 (ix y4_82) y6_82) (fun M_6 => (ag82 M_6 (y4_82 + (nI 1)) (y6_82 + (nI 1))))))))))
   else (ag82 M82 y4_82 (y6_82 + (nI 1))))))
def f_X10_laysIslands_B72 (v1 : Int32) (ag25 : Mem → Int32 → Int32 → Option (Int32 × Mem)) (y2_25 : Int32) (y3_25 : Int32) (ag72 : Mem → Int32 → Int32 → Option (Int32 × Mem)) (M72 : Mem) (y4_72 : Int32) (y5_72 : Int32) : Option (Int32 × Mem) :=
  (if y4_72.toInt ≤ y5_72.toInt then (ag25 M72 (y2_25 + (nI 1)) (y3_25 + (nI 1)))
   else (wlp3 (f_X10_laysIslands_B82 v1 y2_25 ag72 y5_72) FU M72 y4_72 (nI 0)))
def f_X10_laysIslands_B25 (v1 : Int32) (ag25 : Mem → Int32 → Int32 → Option (Int32 × Mem)) (M25 : Mem) (y2_25 : Int32) (y3_25 : Int32) : Option (Int32 × Mem) :=
  (if 40 ≤ y3_25.toInt then some (y2_25, M25)
   else (f_X10_isDry M25 y3_25).bind (fun r_1 => (if r_1.toInt = 0 then (ag25 M25 y2_25 (y3_25 + (nI 1)))
   else gd y3_25 40 ((if (M25 31 (ix y3_25)).toInt = -1 then bnd (mset M25 25 0 y3_25) (fun M_2 => gd y3_25 40 (bnd (mset M_2 31 (ix y3_25) y2_25) (fun M_3 => (wlp3 (f_X10_laysIslands_B72 v1 ag25 y2_25 y3_25) FU M_3 (nI 1) (nI 0)))))
   else (ag25 M25 y2_25 (y3_25 + (nI 1))))))))
def f_X10_laysIslands_L23 (v1 : Int32) (M4 : Mem) : Option (Int32 × Mem) :=
  (wlp3 (f_X10_laysIslands_B25 v1) FU M4 (nI 0) (nI 0))
def f_X10_laysIslands_B4 (v1 : Int32) (ag4 : Mem → Int32 → Option (Int32 × Mem)) (M4 : Mem) (y3_4 : Int32) : Option (Int32 × Mem) :=
  (if 40 ≤ y3_4.toInt then (f_X10_laysIslands_L23 v1 M4)
   else gd y3_4 40 (bnd (mset M4 31 (ix y3_4) (-1)) (fun M_7 => (ag4 M_7 (y3_4 + (nI 1))))))
def f_X10_laysIslands (M : Mem) (v1 : Int32) : Option (Int32 × Mem) :=
  (wlp2 (f_X10_laysIslands_B4 v1) FU M (nI 0))
def f_X10_islands_B46 (v2 : Int32) (M_3 : Mem) (ag46 : Int32 → Int32 → Option (Int32 × Mem)) (y4_46 : Int32) (y5_46 : Int32) : Option (Int32 × Mem) :=
  (if 40 ≤ y5_46.toInt then some (y4_46, M_3)
   else gd v2 40 ((if (M_3 31 (ix v2)).toInt = -1 then (ag46 y4_46 (y5_46 + (nI 1)))
   else gd y5_46 40 (gd v2 40 ((if (M_3 31 (ix y5_46)).toInt = (M_3 31 (ix v2)).toInt then (ag46 (y4_46 + (nI 1)) (y5_46 + (nI 1)))
   else (ag46 y4_46 (y5_46 + (nI 1)))))))))
def f_X10_islands_L26 (M : Mem) (v1 : Int32) (v2 : Int32) : Option (Int32 × Mem) :=
  cb (f_X10_laysIslands M v1) (fun r_2 M_3 => (if v2.toInt = 100 then some (r_2, M_3)
   else (wlp2 (f_X10_islands_B46 v2 M_3) FU (nI 0) (nI 0))))
def f_X10_islands (M : Mem) (v1 : Int32) (v2 : Int32) : Option (Int32 × Mem) :=
  (f_X10_in v1 (nI 1) (nI 30)).bind (fun r_1 => (if r_1.toInt = 0 then some ((-1), M)
   else (if v2.toInt = 100 then (f_X10_islands_L26 M v1 v2)
   else (f_X10_isStone M v2).bind (fun r_4 => (if r_4.toInt = 0 then some ((-1), M)
   else (f_X10_islands_L26 M v1 v2))))))
def f_X10_jumps (M : Mem) (v1 : Int32) : Option Mem :=
  gd (M 0 13) 260 (bnd (mset M 7 (ix (M 0 13)) (((nI 1048576) * v1) + (M 0 12))) (fun M_1 => bnd (mset M_1 0 13 ((M_1 0 13) + (nI 1))) (fun M_2 => (f_X10_notes M_2 v1 (nI 0)).bind (fun M_3 => bnd (mset M_3 0 7 ((M_3 0 7) + (nI 1))) (fun M_4 => some M_4)))))
def f_X10_keep (M : Mem) : Option (Int32 × Mem) :=
  bnd (mset M 0 54 (nI 1)) (fun M_1 => (f_X10_copies 1 202 3 202 M_1).bind (fun M_2 => some ((M_2 1 200), M_2)))
def f_X10_key_L130 (v2 : Int32) (M49 : Mem) (y4_49 : Int32) (y5_49 : Int32) : Option (Int32 × Mem) :=
  (if v2.toInt = 0 then some (y4_49, M49)
   else some (y5_49, M49))
def f_X10_key_L92 (ag49 : Mem → Int32 → Int32 → Int32 → Option (Int32 × Mem)) (y4_49 : Int32) (y5_49 : Int32) (y6_49 : Int32) (M_9 : Mem) (t0_92 : Int32) : Option (Int32 × Mem) :=
  gd ((nI 160) + y6_49) 202 (bnd (mset M_9 1 (ix ((nI 160) + y6_49)) (nI 0)) (fun M_10 => (if t0_92.toInt = 0 then (ag49 M_10 y4_49 y5_49 (y6_49 + (-1)))
   else (ag49 M_10 (y4_49 + (nI 1)) y6_49 (y6_49 + (-1))))))
def f_X10_key_B49 (v2 : Int32) (x_3 : Int32) (ag49 : Mem → Int32 → Int32 → Int32 → Option (Int32 × Mem)) (M49 : Mem) (y4_49 : Int32) (y5_49 : Int32) (y6_49 : Int32) : Option (Int32 × Mem) :=
  (if y6_49.toInt < 0 then (f_X10_key_L130 v2 M49 y4_49 y5_49)
   else (f_X10_isDry M49 y6_49).bind (fun r_6 => (if r_6.toInt = 0 then (ag49 M49 y4_49 y5_49 (y6_49 + (-1)))
   else gd ((nI 160) + y6_49) 202 (bnd (mset M49 1 (ix ((nI 160) + y6_49)) (nI 1)) (fun M_7 => cb (f_X10_crossing M_7 x_3) (fun r_8 M_9 => (if r_8.toInt = -1 then (f_X10_key_L92 ag49 y4_49 y5_49 y6_49 M_9 (nI 1))
   else (f_X10_key_L92 ag49 y4_49 y5_49 y6_49 M_9 (nI 0)))))))))
def f_X10_key (M : Mem) (v1 : Int32) (v2 : Int32) : Option (Int32 × Mem) :=
  (f_X10_isPerson M v1).bind (fun r_1 => (if r_1.toInt = 0 then some ((-1), M)
   else (f_X10_in v2 (nI 0) (nI 1)).bind (fun r_2 => (if r_2.toInt = 0 then some ((-1), M)
   else gd v1 8 (bnd (M 4 (ix v1)) (fun x_3 => cb (f_X10_crossing M x_3) (fun r_4 M_5 => (if r_4.toInt = -1 then some ((-3), M_5)
   else (wlp4 (f_X10_key_B49 v2 x_3) FU M_5 (nI 0) (-2) (nI 39))))))))))
def f_X10_lands_L22 (ag0 : Mem → Option Mem) (M0 : Mem) : Option Mem :=
  gd ((M0 0 13) - (nI 1)) 260 (bnd (rm (M0 7 (ix ((M0 0 13) - (nI 1)))) (nI 1048576)) (fun x_2 => gd x_2 260 (gd x_2 260 (bnd (mset M0 6 (ix x_2) (((nI 1048576) * ((M0 6 (ix x_2)) / (nI 1048576))) + (M0 0 12))) (fun M_3 => bnd (mset M_3 0 13 ((M_3 0 13) - (nI 1))) (fun M_4 => (ag0 M_4)))))))
def f_X10_lands_B0 (v1 : Int32) (ag0 : Mem → Option Mem) (M0 : Mem) : Option Mem :=
  (f_X10_waitTop M0).bind (fun r_1 => (if r_1.toInt = 11 then (f_X10_lands_L22 ag0 M0)
   else (if v1.toInt = 0 then some M0
   else (f_X10_waitTop M0).bind (fun r_5 => (if r_5.toInt = 12 then (f_X10_lands_L22 ag0 M0)
   else some M0)))))
def f_X10_lands (M : Mem) (v1 : Int32) : Option Mem :=
  (wlp1 (f_X10_lands_B0 v1) FU M)
def f_X10_opens (M : Mem) (v1 : Int32) : Option (Int32 × Mem) :=
  (if (M 0 11).toInt = 6 then cb (f_X10_wrongAt M (nI 5) (M 0 7)) (fun r_5 M_6 => gb r_5 (some (r_5, M_6)))
   else bnd (mset M 0 11 ((M 0 11) + (nI 1))) (fun M_1 => gd (M_1 0 13) 260 (bnd (mset M_1 7 (ix (M_1 0 13)) ((nI 1048576) * v1)) (fun M_2 => bnd (mset M_2 0 13 ((M_2 0 13) + (nI 1))) (fun M_3 => bnd (mset M_3 0 7 ((M_3 0 7) + (nI 1))) (fun M_4 => some ((nI 1), M_4)))))))
def f_X10_readsNumber_L27 (M10 : Mem) : Option (Int32 × Mem) :=
  cb (f_X10_wrongAt M10 (nI 2) (M10 0 7)) (fun r_4 M_5 => gb r_4 (some (r_4, M_5)))
def f_X10_readsNumber_B10 (x_1 : Int32) (ag10 : Mem → Option (Int32 × Mem)) (M10 : Mem) : Option (Int32 × Mem) :=
  (f_X10_isDigit M10).bind (fun r_3 => (if r_3.toInt = 0 then some ((nI 1), M10)
   else (if (M10 0 7).toInt = (x_1 + (nI 5)).toInt then (f_X10_readsNumber_L27 M10)
   else (f_X10_here M10).bind (fun r_6 => bnd (mset M10 0 10 ((((nI 10) * (M10 0 10)) + r_6) - (nI 48))) (fun M_7 => bnd (mset M_7 0 7 ((M_7 0 7) + (nI 1))) (fun M_8 => (ag10 M_8)))))))
def f_X10_readsNumber (M : Mem) : Option (Int32 × Mem) :=
  bnd (M 0 7) (fun x_1 => bnd (mset M 0 10 (nI 0)) (fun M_2 => (wlp1 (f_X10_readsNumber_B10 x_1) FU M_2)))
def f_X10_readsFactor_L20 (M0 : Mem) : Option (Int32 × Mem) :=
  (f_X10_isDigit M0).bind (fun r_2 => (if r_2.toInt = 0 then (f_X10_here M0).bind (fun r_3 => (f_X10_factOf r_3).bind (fun r_4 => (if r_4.toInt = -1 then cb (f_X10_wrongAt M0 (nI 1) (M0 0 7)) (fun r_7 M_8 => gb r_7 (some (r_7, M_8)))
   else (f_X10_notes M0 (nI 1) r_4).bind (fun M_5 => bnd (mset M_5 0 7 ((M_5 0 7) + (nI 1))) (fun M_6 => some ((nI 1), M_6))))))
   else cb (f_X10_readsNumber M0) (fun r_9 M_10 => (if r_9.toInt = 0 then some ((nI 0), M_10)
   else (f_X10_notes M_10 (nI 0) (M_10 0 10)).bind (fun M_11 => some ((nI 1), M_11))))))
def f_X10_readsFactor_B0  (ag0 : Mem → Option (Int32 × Mem)) (M0 : Mem) : Option (Int32 × Mem) :=
  (f_X10_here M0).bind (fun r_1 => (if r_1.toInt = 91 then cb (f_X10_opens M0 (nI 14)) (fun r_12 M_13 => (if r_12.toInt = 0 then some ((nI 0), M_13)
   else (ag0 M_13)))
   else (f_X10_readsFactor_L20 M0)))
def f_X10_readsFactor (M : Mem) : Option (Int32 × Mem) :=
  (wlp1 f_X10_readsFactor_B0 FU M)
def f_X10_sumSign (v0 : Int32) : Option Int32 :=
  (if v0.toInt = 43 then some (nI 2)
   else (if v0.toInt = 45 then some (nI 3)
   else (if v0.toInt = 42 then some (nI 4)
   else (if v0.toInt = 47 then some (nI 5)
   else (if v0.toInt = 37 then some (nI 6)
   else some (-1))))))
def f_X10_readsSum_L138 (x_1 : Int32) (M14 : Mem) : Option (Int32 × Mem) :=
  (f_X10_hasOpenSum M14 x_1).bind (fun r_7 => (if r_7.toInt = 0 then (f_X10_closesSums M14 (nI 1)).bind (fun M_8 => some ((nI 1), M_8))
   else cb (f_X10_wrongAt M14 (nI 1) (M14 0 7)) (fun r_9 M_10 => gb r_9 (some (r_9, M_10)))))
def f_X10_readsSum_L38 (ag14 : Mem → Option (Int32 × Mem)) (M14 : Mem) (r_5 : Int32) (t0_38 : Int32) : Option (Int32 × Mem) :=
  (f_X10_closesSums M14 t0_38).bind (fun M_16 => gd (M_16 0 13) 260 (bnd (mset M_16 7 (ix (M_16 0 13)) ((nI 1048576) * r_5)) (fun M_17 => bnd (mset M_17 0 13 ((M_17 0 13) + (nI 1))) (fun M_18 => bnd (mset M_18 0 7 ((M_18 0 7) + (nI 1))) (fun M_19 => cb (f_X10_readsFactor M_19) (fun r_20 M_21 => (if r_20.toInt = 0 then some ((nI 0), M_21)
   else (ag14 M_21))))))))
def f_X10_readsSum_B14 (x_1 : Int32) (ag14 : Mem → Option (Int32 × Mem)) (M14 : Mem) : Option (Int32 × Mem) :=
  (f_X10_here M14).bind (fun r_4 => (f_X10_sumSign r_4).bind (fun r_5 => (if r_5.toInt = -1 then (f_X10_here M14).bind (fun r_6 => (if r_6.toInt = 93 then (f_X10_hasOpenSum M14 x_1).bind (fun r_11 => (if r_11.toInt = 0 then (f_X10_readsSum_L138 x_1 M14)
   else (f_X10_closesSums M14 (nI 1)).bind (fun M_12 => bnd (mset M_12 0 13 ((M_12 0 13) - (nI 1))) (fun M_13 => bnd (mset M_13 0 11 ((M_13 0 11) - (nI 1))) (fun M_14 => bnd (mset M_14 0 7 ((M_14 0 7) + (nI 1))) (fun M_15 => (ag14 M_15)))))))
   else (f_X10_readsSum_L138 x_1 M14)))
   else (if 4 ≤ r_5.toInt then (f_X10_readsSum_L38 ag14 M14 r_5 (nI 0))
   else (f_X10_readsSum_L38 ag14 M14 r_5 (nI 1))))))
def f_X10_readsSum (M : Mem) : Option (Int32 × Mem) :=
  bnd (M 0 13) (fun x_1 => cb (f_X10_readsFactor M) (fun r_2 M_3 => (if r_2.toInt = 0 then some ((nI 0), M_3)
   else (wlp1 (f_X10_readsSum_B14 x_1) FU M_3))))
def f_X10_readsCompared_L52 (M_2 : Mem) (t0_52 : Int32) : Option (Int32 × Mem) :=
  (if t0_52.toInt = -1 then cb (f_X10_wrongAt M_2 (nI 1) (M_2 0 7)) (fun r_9 M_10 => gb r_9 (some (r_9, M_10)))
   else bnd (mset M_2 0 7 ((M_2 0 7) + (nI 1))) (fun M_4 => cb (f_X10_readsSum M_4) (fun r_5 M_6 => (if r_5.toInt = 0 then some ((nI 0), M_6)
   else (f_X10_notes M_6 t0_52 (nI 0)).bind (fun M_7 => (f_X10_endsPiece M_7).bind (fun M_8 => some ((nI 1), M_8)))))))
def f_X10_readsCompared (M : Mem) : Option (Int32 × Mem) :=
  cb (f_X10_readsSum M) (fun r_1 M_2 => (if r_1.toInt = 0 then some ((nI 0), M_2)
   else (f_X10_here M_2).bind (fun r_3 => (if r_3.toInt = 60 then (f_X10_readsCompared_L52 M_2 (nI 7))
   else (f_X10_here M_2).bind (fun r_11 => (if r_11.toInt = 62 then (f_X10_readsCompared_L52 M_2 (nI 8))
   else (f_X10_here M_2).bind (fun r_12 => (if r_12.toInt = 61 then (f_X10_readsCompared_L52 M_2 (nI 9))
   else (f_X10_readsCompared_L52 M_2 (-1))))))))))
def f_X10_readsCondition_L75 (ag40 : Mem → Option (Int32 × Mem)) (M40 : Mem) (t0_75 : Int32) : Option (Int32 × Mem) :=
  cb (f_X10_opens M40 t0_75) (fun r_8 M_9 => (if r_8.toInt = 0 then some ((nI 0), M_9)
   else (ag40 M_9)))
def f_X10_readsCondition_L58 (ag40 : Mem → Option (Int32 × Mem)) (M40 : Mem) : Option (Int32 × Mem) :=
  (f_X10_here M40).bind (fun r_7 => (if r_7.toInt = 33 then (f_X10_readsCondition_L75 ag40 M40 (nI 10))
   else (f_X10_readsCondition_L75 ag40 M40 (nI 13))))
def f_X10_readsCondition_L215 (ag40 : Mem → Option (Int32 × Mem)) (M_16 : Mem) (t0_215 : Int32) : Option (Int32 × Mem) :=
  (f_X10_jumps M_16 t0_215).bind (fun M_18 => (ag40 M_18))
def f_X10_readsCondition_L195 (ag40 : Mem → Option (Int32 × Mem)) (M92 : Mem) (t0_195 : Int32) : Option (Int32 × Mem) :=
  (f_X10_lands M92 t0_195).bind (fun M_16 => (f_X10_here M_16).bind (fun r_17 => (if r_17.toInt = 38 then (f_X10_readsCondition_L215 ag40 M_16 (nI 11))
   else (f_X10_readsCondition_L215 ag40 M_16 (nI 12)))))
def f_X10_readsCondition_L180 (ag40 : Mem → Option (Int32 × Mem)) (M92 : Mem) : Option (Int32 × Mem) :=
  (f_X10_here M92).bind (fun r_15 => (if r_15.toInt = 124 then (f_X10_readsCondition_L195 ag40 M92 (nI 1))
   else (f_X10_readsCondition_L195 ag40 M92 (nI 0))))
def f_X10_readsCondition_L170 (M92 : Mem) : Option (Int32 × Mem) :=
  cb (f_X10_wrongAt M92 (nI 1) (M92 0 7)) (fun r_20 M_21 => gb r_20 (some (r_20, M_21)))
def f_X10_readsCondition_L152 (ag40 : Mem → Option (Int32 × Mem)) (M92 : Mem) : Option (Int32 × Mem) :=
  (f_X10_here M92).bind (fun r_14 => (if r_14.toInt = 38 then (f_X10_readsCondition_L180 ag40 M92)
   else (f_X10_here M92).bind (fun r_19 => (if r_19.toInt = 124 then (f_X10_readsCondition_L180 ag40 M92)
   else (f_X10_readsCondition_L170 M92)))))
def f_X10_readsCondition_B92 (ag40 : Mem → Option (Int32 × Mem)) (ag92 : Mem → Option (Int32 × Mem)) (M92 : Mem) : Option (Int32 × Mem) :=
  (f_X10_here M92).bind (fun r_13 => (if r_13.toInt = 41 then (f_X10_lands M92 (nI 1)).bind (fun M_22 => bnd (mset M_22 0 13 ((M_22 0 13) - (nI 1))) (fun M_23 => bnd (mset M_23 0 11 ((M_23 0 11) - (nI 1))) (fun M_24 => bnd (mset M_24 0 7 ((M_24 0 7) + (nI 1))) (fun M_25 => (if (M_25 0 13).toInt = 0 then some ((nI 1), M_25)
   else (f_X10_endsPiece M_25).bind (fun M_26 => (ag92 M_26)))))))
   else (f_X10_readsCondition_L152 ag40 M92)))
def f_X10_readsCondition_B40  (ag40 : Mem → Option (Int32 × Mem)) (M40 : Mem) : Option (Int32 × Mem) :=
  (f_X10_here M40).bind (fun r_6 => (if r_6.toInt = 33 then (f_X10_readsCondition_L58 ag40 M40)
   else (f_X10_here M40).bind (fun r_10 => (if r_10.toInt = 40 then (f_X10_readsCondition_L58 ag40 M40)
   else cb (f_X10_readsCompared M40) (fun r_11 M_12 => (if r_11.toInt = 0 then some ((nI 0), M_12)
   else (wlp1 (f_X10_readsCondition_B92 ag40) FU M_12)))))))
def f_X10_readsCondition (M : Mem) : Option (Int32 × Mem) :=
  (f_X10_here M).bind (fun r_1 => (if r_1.toInt = 40 then bnd (mset M 0 11 (nI 0)) (fun M_2 => bnd (mset M_2 0 13 (nI 0)) (fun M_3 => cb (f_X10_opens M_3 (nI 13)) (fun r_4 M_5 => (if r_4.toInt = 0 then some ((nI 0), M_5)
   else (wlp1 f_X10_readsCondition_B40 FU M_5)))))
   else cb (f_X10_wrongAt M (nI 1) (M 0 7)) (fun r_27 M_28 => gb r_27 (some (r_27, M_28)))))
def f_X10_readsRule_L122 (N122 : Mem) : Option (Int32 × Mem) :=
  gd (N122 0 14) 16 (bnd (mset N122 10 (ix (N122 0 14)) (N122 0 12)) (fun M_7 => cb (f_X10_readsCondition M_7) (fun r_8 M_9 => (if r_8.toInt = 0 then some ((nI 0), M_9)
   else gd (M_9 0 14) 16 (bnd (mset M_9 11 (ix (M_9 0 14)) (M_9 0 12)) (fun M_10 => bnd (mset M_10 0 14 ((M_10 0 14) + (nI 1))) (fun M_11 => some ((nI 1), M_11))))))))
def f_X10_readsRule_L45 (M : Mem) (r_1 : Int32) : Option (Int32 × Mem) :=
  (if (M 0 14).toInt = 16 then cb (f_X10_wrongAt M (nI 4) (M 0 7)) (fun r_14 M_15 => gb r_14 (some (r_14, M_15)))
   else gd (M 0 14) 16 (bnd (mset M 8 (ix (M 0 14)) r_1) (fun M_2 => bnd (mset M_2 0 7 ((M_2 0 7) + (nI 1))) (fun M_3 => gd (M_3 0 14) 16 (bnd (mset M_3 9 (ix (M_3 0 14)) (M_3 0 12)) (fun M_4 => bnd (mset M_4 0 11 (nI 0)) (fun M_5 => bnd (mset M_5 0 13 (nI 0)) (fun M_6 => (if r_1.toInt = 120 then (f_X10_readsRule_L122 M_6)
   else cb (f_X10_readsSum M_6) (fun r_12 M_13 => (if r_12.toInt = 0 then some ((nI 0), M_13)
   else (f_X10_readsRule_L122 M_13))))))))))))
def f_X10_readsRule (M : Mem) : Option (Int32 × Mem) :=
  (f_X10_here M).bind (fun r_1 => (if r_1.toInt = 117 then (f_X10_readsRule_L45 M r_1)
   else (if r_1.toInt = 100 then (f_X10_readsRule_L45 M r_1)
   else (if r_1.toInt = 111 then (f_X10_readsRule_L45 M r_1)
   else (if r_1.toInt = 98 then (f_X10_readsRule_L45 M r_1)
   else (if r_1.toInt = 120 then (f_X10_readsRule_L45 M r_1)
   else cb (f_X10_wrongAt M (nI 1) (M 0 7)) (fun r_16 M_17 => gb r_16 (some (r_16, M_17)))))))))
def f_X10_takesSign (M : Mem) (v1 : Int32) : Option (Int32 × Mem) :=
  (f_X10_here M).bind (fun r_1 => (if r_1.toInt = v1.toInt then bnd (mset M 0 7 ((M 0 7) + (nI 1))) (fun M_2 => some ((nI 1), M_2))
   else cb (f_X10_wrongAt M (nI 1) (M 0 7)) (fun r_3 M_4 => gb r_3 (some (r_3, M_4)))))
def f_X10_law_B123  (ag123 : Mem → Int32 → Option (Int32 × Mem)) (M123 : Mem) (y3_123 : Int32) : Option (Int32 × Mem) :=
  (if (M123 0 14).toInt ≤ y3_123.toInt then some ((M123 0 14), M123)
   else gd y3_123 16 (gd y3_123 16 (bnd (mset M123 13 (ix y3_123) (M123 8 (ix y3_123))) (fun M_7 => gd y3_123 16 (gd y3_123 16 (bnd (mset M_7 14 (ix y3_123) (M_7 9 (ix y3_123))) (fun M_8 => gd y3_123 16 (gd y3_123 16 (bnd (mset M_8 15 (ix y3_123) (M_8 10 (ix y3_123))) (fun M_9 => gd y3_123 16 (gd y3_123 16 (bnd (mset M_9 16 (ix y3_123) (M_9 11 (ix y3_123))) (fun M_10 => (ag123 M_10 (y3_123 + (nI 1))))))))))))))))
def f_X10_law_L121 (M95 : Mem) : Option (Int32 × Mem) :=
  (wlp2 f_X10_law_B123 FU M95 (nI 0))
def f_X10_law_B95  (ag95 : Mem → Int32 → Option (Int32 × Mem)) (M95 : Mem) (y3_95 : Int32) : Option (Int32 × Mem) :=
  (if (M95 0 12).toInt ≤ y3_95.toInt then (f_X10_law_L121 M95)
   else gd y3_95 260 (gd y3_95 260 (bnd (mset M95 12 (ix y3_95) (M95 6 (ix y3_95))) (fun M_11 => (ag95 M_11 (y3_95 + (nI 1)))))))
def f_X10_law_L71 (M31 : Mem) (y2_31 : Int32) : Option (Int32 × Mem) :=
  bnd (mset M31 0 6 (nI 0)) (fun M_5 => (if y2_31.toInt = 0 then some ((M_5 0 9), M_5)
   else bnd (mset M_5 0 15 (M_5 0 14)) (fun M_6 => (wlp2 f_X10_law_B95 FU M_6 (nI 0)))))
def f_X10_law_B31  (ag31 : Mem → Int32 → Option (Int32 × Mem)) (M31 : Mem) (y2_31 : Int32) : Option (Int32 × Mem) :=
  (if y2_31.toInt = 0 then (f_X10_law_L71 M31 y2_31)
   else (if (M31 0 8).toInt ≤ (M31 0 7).toInt then (f_X10_law_L71 M31 y2_31)
   else cb (f_X10_takesSign M31 (nI 59)) (fun r_12 M_13 => (if r_12.toInt = 0 then (ag31 M_13 (nI 0))
   else cb (f_X10_readsRule M_13) (fun r_14 M_15 => (if r_14.toInt = 0 then (ag31 M_15 (nI 0))
   else (ag31 M_15 (nI 1))))))))
def f_X10_law (M : Mem) (v1 : Int32) : Option (Int32 × Mem) :=
  (f_X10_in v1 (nI 1) (nI 240)).bind (fun r_1 => (if r_1.toInt = 0 then some ((-1), M)
   else (if v1.toInt ≤ (M 0 6).toInt then (f_X10_beginsText M v1).bind (fun M_2 => cb (f_X10_readsRule M_2) (fun r_3 M_4 => (wlp2 f_X10_law_B31 FU M_4 r_3)))
   else some ((-1), M))))
def f_X10_laysStone (M : Mem) (v1 : Int32) (v2 : Int32) (v3 : Int32) (v4 : Int32) (v5 : Int32) : Option Mem :=
  gd v1 202 (bnd (mset M 1 (ix v1) (nI 1)) (fun M_1 => gd ((nI 40) + v1) 202 (bnd (mset M_1 1 (ix ((nI 40) + v1)) v2) (fun M_2 => gd ((nI 80) + v1) 202 (bnd (mset M_2 1 (ix ((nI 80) + v1)) v3) (fun M_3 => gd ((nI 120) + v1) 202 (bnd (mset M_3 1 (ix ((nI 120) + v1)) v4) (fun M_4 => gd ((nI 160) + v1) 202 (bnd (mset M_4 1 (ix ((nI 160) + v1)) v5) (fun M_5 => some M_5))))))))))
def f_X10_leastStride_B2  (ag2 : Mem → Int32 → Option (Int32 × Mem)) (M2 : Mem) (y1_2 : Int32) : Option (Int32 × Mem) :=
  (if 30 < y1_2.toInt then some ((-2), M2)
   else cb (f_X10_crossing M2 y1_2) (fun r_1 M_2 => (if r_1.toInt = -1 then (ag2 M_2 (y1_2 + (nI 1)))
   else some (y1_2, M_2))))
def f_X10_leastStride (M : Mem) : Option (Int32 × Mem) :=
  (wlp2 f_X10_leastStride_B2 FU M (nI 1))
def f_X10_letters_L157 (v2 : Int32) (M_3 : Mem) (y3_68 : Int32) (y4_68 : Int32) : Option (Int32 × Mem) :=
  (if v2.toInt = 0 then some (y4_68, M_3)
   else some (y3_68, M_3))
def f_X10_letters_L125 (ag68 : Int32 → Int32 → Int32 → Option (Int32 × Mem)) (y3_68 : Int32) (y4_68 : Int32) (y5_68 : Int32) (y6_82 : Int32) : Option (Int32 × Mem) :=
  (f_X10_size y6_82).bind (fun r_4 => (if r_4.toInt < y4_68.toInt then (f_X10_size y6_82).bind (fun r_5 => (ag68 y5_68 r_5 (y5_68 + (nI 2))))
   else (ag68 y3_68 y4_68 (y5_68 + (nI 2)))))
def f_X10_letters_B82 (v1 : Int32) (M_3 : Mem) (ag68 : Int32 → Int32 → Int32 → Option (Int32 × Mem)) (y3_68 : Int32) (y4_68 : Int32) (y5_68 : Int32) (ag82 : Int32 → Int32 → Option (Int32 × Mem)) (y6_82 : Int32) (y7_82 : Int32) : Option (Int32 × Mem) :=
  (if v1.toInt ≤ y7_82.toInt then (f_X10_letters_L125 ag68 y3_68 y4_68 y5_68 y6_82)
   else (f_X10_has y5_68 y7_82).bind (fun r_6 => (if r_6.toInt = 0 then (f_X10_octet M_3 y7_82).bind (fun r_7 => bnd (y6_82 + (-r_7)) (fun x_8 => (ag82 x_8 (y7_82 + (nI 1)))))
   else (f_X10_octet M_3 y7_82).bind (fun r_9 => bnd (y6_82 + r_9) (fun x_10 => (ag82 x_10 (y7_82 + (nI 1))))))))
def f_X10_letters_B68 (v1 : Int32) (v2 : Int32) (M_3 : Mem) (ag68 : Int32 → Int32 → Int32 → Option (Int32 × Mem)) (y3_68 : Int32) (y4_68 : Int32) (y5_68 : Int32) : Option (Int32 × Mem) :=
  (if (shl (nI 1) v1).toInt ≤ y5_68.toInt then (f_X10_letters_L157 v2 M_3 y3_68 y4_68)
   else (wlp2 (f_X10_letters_B82 v1 M_3 ag68 y3_68 y4_68 y5_68) FU (nI 0) (nI 0)))
def f_X10_letters_L58 (v1 : Int32) (v2 : Int32) (M_3 : Mem) : Option (Int32 × Mem) :=
  (wlp3 (f_X10_letters_B68 v1 v2 M_3) FU (nI 0) (nI 1000000) (nI 1))
def f_X10_letters_B36 (v1 : Int32) (v2 : Int32) (M_3 : Mem) (ag36 : Int32 → Option (Int32 × Mem)) (y3_36 : Int32) : Option (Int32 × Mem) :=
  (if v1.toInt ≤ y3_36.toInt then (f_X10_letters_L58 v1 v2 M_3)
   else (f_X10_octet M_3 y3_36).bind (fun r_11 => (if r_11.toInt = 0 then some ((-2), M_3)
   else (ag36 (y3_36 + (nI 1))))))
def f_X10_letters (M : Mem) (v1 : Int32) (v2 : Int32) : Option (Int32 × Mem) :=
  (f_X10_in v1 (nI 1) (nI 8)).bind (fun r_1 => (if r_1.toInt = 0 then some ((-1), M)
   else (f_X10_in v2 (nI 0) (nI 1)).bind (fun r_2 => (if r_2.toInt = 0 then some ((-1), M)
   else (if v1.toInt ≤ (M 0 6).toInt then bnd (mset M 0 6 (nI 0)) (fun M_3 => (wlp1 (f_X10_letters_B36 v1 v2 M_3) FU (nI 0)))
   else some ((-1), M))))))
def f_X10_market_B4  (ag4 : Mem → Int32 → Int32 → Option (Int32 × Mem)) (M4 : Mem) (y1_4 : Int32) (y2_4 : Int32) : Option (Int32 × Mem) :=
  (if 8 ≤ y2_4.toInt then some (y1_4, M4)
   else (f_X10_isPerson M4 y2_4).bind (fun r_1 => (if r_1.toInt = 0 then (ag4 M4 y1_4 (y2_4 + (nI 1)))
   else gd y2_4 8 (cb (f_X10_crossing M4 (M4 4 (ix y2_4))) (fun r_2 M_3 => (if r_2.toInt = -1 then (ag4 M_3 y1_4 (y2_4 + (nI 1)))
   else bnd (y1_4 ||| (shl (nI 1) y2_4)) (fun x_4 => (ag4 M_3 x_4 (y2_4 + (nI 1))))))))))
def f_X10_market (M : Mem) : Option (Int32 × Mem) :=
  (wlp3 f_X10_market_B4 FU M (nI 0) (nI 0))
def f_X10_meet_L150 (v3 : Int32) (M_5 : Mem) (y4_68 : Int32) (y5_68 : Int32) : Option (Int32 × Mem) :=
  (if v3.toInt = 0 then some (y5_68, M_5)
   else some (y4_68, M_5))
def f_X10_meet_B68 (v3 : Int32) (M_5 : Mem) (ag68 : Int32 → Int32 → Int32 → Option (Int32 × Mem)) (y4_68 : Int32) (y5_68 : Int32) (y6_68 : Int32) : Option (Int32 × Mem) :=
  (if 40 ≤ y6_68.toInt then (f_X10_meet_L150 v3 M_5 y4_68 y5_68)
   else gd y6_68 40 ((if (M_5 23 (ix y6_68)).toInt = -1 then (ag68 y4_68 y5_68 (y6_68 + (nI 1)))
   else gd y6_68 40 ((if (M_5 24 (ix y6_68)).toInt = -1 then (ag68 y4_68 y5_68 (y6_68 + (nI 1)))
   else gd y6_68 40 (gd y6_68 40 ((f_X10_max (M_5 23 (ix y6_68)) (M_5 24 (ix y6_68))).bind (fun r_6 => (if y4_68.toInt = -2 then (ag68 y6_68 r_6 (y6_68 + (nI 1)))
   else (if r_6.toInt < y5_68.toInt then (ag68 y6_68 r_6 (y6_68 + (nI 1)))
   else (ag68 y4_68 y5_68 (y6_68 + (nI 1)))))))))))))
def f_X10_meet (M : Mem) (v1 : Int32) (v2 : Int32) (v3 : Int32) : Option (Int32 × Mem) :=
  (f_X10_isPerson M v1).bind (fun r_1 => (if r_1.toInt = 0 then some ((-1), M)
   else (f_X10_isPerson M v2).bind (fun r_2 => (if r_2.toInt = 0 then some ((-1), M)
   else (f_X10_in v3 (nI 0) (nI 1)).bind (fun r_3 => (if r_3.toInt = 0 then some ((-1), M)
   else gd v1 8 ((f_X10_laysSteps 23 40 M (nI 1) (M 4 (ix v1))).bind (fun M_4 => gd v2 8 ((f_X10_laysSteps 24 40 M_4 (nI 0) (M_4 4 (ix v2))).bind (fun M_5 => (wlp3 (f_X10_meet_B68 v3 M_5) FU (-2) (-2) (nI 0))))))))))))
def f_X10_mostInLine_L89 (ag20 : Int32 → Int32 → Option Int32) (y1_20 : Int32) (y3_20 : Int32) (y4_50 : Int32) : Option Int32 :=
  (f_X10_max y1_20 y4_50).bind (fun r_5 => (ag20 r_5 (y3_20 + (nI 1))))
def f_X10_mostInLine_B50 (M : Mem) (y2_12 : Int32) (ag20 : Int32 → Int32 → Option Int32) (y1_20 : Int32) (y3_20 : Int32) (ag50 : Int32 → Int32 → Option Int32) (y4_50 : Int32) (y5_50 : Int32) : Option Int32 :=
  (if 40 ≤ y5_50.toInt then (f_X10_mostInLine_L89 ag20 y1_20 y3_20 y4_50)
   else (f_X10_isStone M y5_50).bind (fun r_6 => (if r_6.toInt = 0 then (ag50 y4_50 (y5_50 + (nI 1)))
   else (f_X10_areInLine M y2_12 y3_20 y5_50).bind (fun r_7 => (if r_7.toInt = 0 then (ag50 y4_50 (y5_50 + (nI 1)))
   else (ag50 (y4_50 + (nI 1)) (y5_50 + (nI 1))))))))
def f_X10_mostInLine_B20 (M : Mem) (ag12 : Int32 → Int32 → Option Int32) (y2_12 : Int32) (ag20 : Int32 → Int32 → Option Int32) (y1_20 : Int32) (y3_20 : Int32) : Option Int32 :=
  (if y2_12.toInt ≤ y3_20.toInt then (ag12 y1_20 (y2_12 + (nI 1)))
   else (f_X10_isStone M y2_12).bind (fun r_3 => (if r_3.toInt = 0 then (ag20 y1_20 (y3_20 + (nI 1)))
   else (f_X10_isStone M y3_20).bind (fun r_4 => (if r_4.toInt = 0 then (ag20 y1_20 (y3_20 + (nI 1)))
   else (wlp2 (f_X10_mostInLine_B50 M y2_12 ag20 y1_20 y3_20) FU (nI 0) (nI 0)))))))
def f_X10_mostInLine_B12 (M : Mem) (ag12 : Int32 → Int32 → Option Int32) (y1_12 : Int32) (y2_12 : Int32) : Option Int32 :=
  (if 40 ≤ y2_12.toInt then some y1_12
   else (wlp2 (f_X10_mostInLine_B20 M ag12 y2_12) FU y1_12 (nI 0)))
def f_X10_mostInLine (M : Mem) : Option Int32 :=
  (f_X10_sumOf M (nI 0)).bind (fun r_1 => (f_X10_min (nI 2) r_1).bind (fun r_2 => (wlp2 (f_X10_mostInLine_B12 M) FU r_2 (nI 0))))
def f_X10_nights (M : Mem) (v1 : Int32) : Option (Int32 × Mem) :=
  (f_X10_in v1 (nI 1) (nI 60)).bind (fun r_1 => (if r_1.toInt = 0 then some ((-1), M)
   else (f_X10_nightsGo M v1).bind (fun M_2 => some ((M_2 0 34), M_2))))
def f_X10_readsAmount_L44 (M27 : Mem) : Option (Int32 × Mem) :=
  cb (f_X10_wrongAt M27 (nI 2) (M27 0 7)) (fun r_5 M_6 => gb r_5 (some (r_5, M_6)))
def f_X10_readsAmount_B27 (x_1 : Int32) (ag27 : Mem → Option (Int32 × Mem)) (M27 : Mem) : Option (Int32 × Mem) :=
  (f_X10_isDigit M27).bind (fun r_4 => (if r_4.toInt = 0 then some ((nI 1), M27)
   else (if (M27 0 7).toInt = (x_1 + (nI 2)).toInt then (f_X10_readsAmount_L44 M27)
   else (f_X10_here M27).bind (fun r_7 => bnd (mset M27 0 10 ((((nI 10) * (M27 0 10)) + r_7) - (nI 48))) (fun M_8 => bnd (mset M_8 0 7 ((M_8 0 7) + (nI 1))) (fun M_9 => (ag27 M_9)))))))
def f_X10_readsAmount (M : Mem) : Option (Int32 × Mem) :=
  bnd (M 0 7) (fun x_1 => (f_X10_isDigit M).bind (fun r_2 => (if r_2.toInt = 0 then cb (f_X10_wrongAt M (nI 1) (M 0 7)) (fun r_10 M_11 => gb r_10 (some (r_10, M_11)))
   else bnd (mset M 0 10 (nI 0)) (fun M_3 => (wlp1 (f_X10_readsAmount_B27 x_1) FU M_3)))))
def f_X10_readsBetween (M : Mem) (v1 : Int32) (v2 : Int32) : Option (Int32 × Mem) :=
  bnd (M 0 7) (fun x_1 => cb (f_X10_readsAmount M) (fun r_2 M_3 => (if r_2.toInt = 0 then some ((nI 0), M_3)
   else (f_X10_in (M_3 0 10) v1 v2).bind (fun r_4 => (if r_4.toInt = 0 then cb (f_X10_wrongAt M_3 (nI 3) x_1) (fun r_5 M_6 => (if r_5.toInt = 0 then some ((nI 0), M_6)
   else some ((nI 1), M_6)))
   else some ((nI 1), M_3))))))
def f_X10_readsLine_L271 (N271 : Mem) : Option (Int32 × Mem) :=
  bnd (mset N271 0 33 ((N271 0 33) + (nI 1))) (fun M_15 => some ((nI 1), M_15))
def f_X10_readsLine_L242 (N242 : Mem) : Option (Int32 × Mem) :=
  (f_X10_here N242).bind (fun r_14 => (if r_14.toInt = 117 then bnd (mset N242 0 7 ((N242 0 7) + (nI 1))) (fun M_16 => gd (M_16 0 33) 40 (bnd (mset M_16 22 (ix (M_16 0 33)) (nI 1)) (fun M_17 => (f_X10_readsLine_L271 M_17))))
   else (f_X10_readsLine_L271 N242)))
def f_X10_readsLine_L160 (M_10 : Mem) : Option (Int32 × Mem) :=
  gd (M_10 0 33) 40 (bnd (mset M_10 21 (ix (M_10 0 33)) (nI 0)) (fun M_11 => gd (M_11 0 33) 40 (bnd (mset M_11 22 (ix (M_11 0 33)) (nI 0)) (fun M_12 => (f_X10_here M_12).bind (fun r_13 => (if r_13.toInt = 115 then bnd (mset M_12 0 7 ((M_12 0 7) + (nI 1))) (fun M_18 => (f_X10_isDigit M_18).bind (fun r_19 => (if r_19.toInt = 0 then cb (f_X10_wrongAt M_18 (nI 1) (M_18 0 7)) (fun r_23 M_24 => gb r_23 (some (r_23, M_24)))
   else (f_X10_here M_18).bind (fun r_20 => gd (M_18 0 33) 40 (bnd (mset M_18 21 (ix (M_18 0 33)) (r_20 - (nI 48))) (fun M_21 => bnd (mset M_21 0 7 ((M_21 0 7) + (nI 1))) (fun M_22 => (f_X10_readsLine_L242 M_22))))))))
   else (f_X10_readsLine_L242 M_12)))))))
def f_X10_readsLine_L146 (x_1 : Int32) (M_10 : Mem) : Option (Int32 × Mem) :=
  cb (f_X10_wrongAt M_10 (nI 6) x_1) (fun r_25 M_26 => gb r_25 (some (r_25, M_26)))
def f_X10_readsLine_B102 (x_1 : Int32) (M_10 : Mem) (ag102 : Int32 → Option (Int32 × Mem)) (y2_102 : Int32) : Option (Int32 × Mem) :=
  (if (M_10 0 33).toInt ≤ y2_102.toInt then (f_X10_readsLine_L160 M_10)
   else gd y2_102 40 (gd (M_10 0 33) 40 ((if (M_10 19 (ix y2_102)).toInt = (M_10 19 (ix (M_10 0 33))).toInt then gd y2_102 40 (gd (M_10 0 33) 40 ((if (M_10 20 (ix y2_102)).toInt = (M_10 20 (ix (M_10 0 33))).toInt then (f_X10_readsLine_L146 x_1 M_10)
   else (ag102 (y2_102 + (nI 1))))))
   else (ag102 (y2_102 + (nI 1)))))))
def f_X10_readsLine (M : Mem) : Option (Int32 × Mem) :=
  bnd (M 0 7) (fun x_1 => (f_X10_isDigit M).bind (fun r_2 => (if r_2.toInt = 0 then cb (f_X10_wrongAt M (nI 1) (M 0 7)) (fun r_29 M_30 => gb r_29 (some (r_29, M_30)))
   else (if (M 0 33).toInt = 40 then cb (f_X10_wrongAt M (nI 4) (M 0 7)) (fun r_27 M_28 => gb r_27 (some (r_27, M_28)))
   else cb (f_X10_readsBetween M (nI 0) (nI 39)) (fun r_3 M_4 => (if r_3.toInt = 0 then some ((nI 0), M_4)
   else gd (M_4 0 33) 40 (bnd (mset M_4 19 (ix (M_4 0 33)) (M_4 0 10)) (fun M_5 => cb (f_X10_takesSign M_5 (nI 44)) (fun r_6 M_7 => (if r_6.toInt = 0 then some ((nI 0), M_7)
   else cb (f_X10_readsBetween M_7 (nI 1) (nI 20)) (fun r_8 M_9 => (if r_8.toInt = 0 then some ((nI 0), M_9)
   else gd (M_9 0 33) 40 (bnd (mset M_9 20 (ix (M_9 0 33)) (M_9 0 10)) (fun M_10 => (wlp1 (f_X10_readsLine_B102 x_1 M_10) FU (nI 0))))))))))))))))
def f_X10_notebook_B115  (ag115 : Mem → Int32 → Option (Int32 × Mem)) (M115 : Mem) (y3_115 : Int32) : Option (Int32 × Mem) :=
  (if (M115 0 33).toInt ≤ y3_115.toInt then some ((M115 0 33), M115)
   else gd y3_115 40 (gd y3_115 40 (gd y3_115 40 (gd y3_115 40 ((f_X10_laysStone M115 y3_115 (M115 19 (ix y3_115)) (M115 20 (ix y3_115)) (M115 21 (ix y3_115)) (M115 22 (ix y3_115))).bind (fun M_7 => (ag115 M_7 (y3_115 + (nI 1)))))))))
def f_X10_notebook_L113 (M92 : Mem) : Option (Int32 × Mem) :=
  (wlp2 f_X10_notebook_B115 FU M92 (nI 0))
def f_X10_notebook_B92  (ag92 : Mem → Int32 → Option (Int32 × Mem)) (M92 : Mem) (y3_92 : Int32) : Option (Int32 × Mem) :=
  (if 40 ≤ y3_92.toInt then (f_X10_notebook_L113 M92)
   else gd y3_92 202 (bnd (mset M92 1 (ix y3_92) (nI 0)) (fun M_8 => (ag92 M_8 (y3_92 + (nI 1))))))
def f_X10_notebook_L76 (M36 : Mem) (y2_36 : Int32) : Option (Int32 × Mem) :=
  bnd (mset M36 0 6 (nI 0)) (fun M_6 => (if y2_36.toInt = 0 then some ((M_6 0 9), M_6)
   else (wlp2 f_X10_notebook_B92 FU M_6 (nI 0))))
def f_X10_notebook_B36  (ag36 : Mem → Int32 → Option (Int32 × Mem)) (M36 : Mem) (y2_36 : Int32) : Option (Int32 × Mem) :=
  (if y2_36.toInt = 0 then (f_X10_notebook_L76 M36 y2_36)
   else (if (M36 0 8).toInt ≤ (M36 0 7).toInt then (f_X10_notebook_L76 M36 y2_36)
   else cb (f_X10_takesSign M36 (nI 59)) (fun r_9 M_10 => (if r_9.toInt = 0 then (ag36 M_10 (nI 0))
   else cb (f_X10_readsLine M_10) (fun r_11 M_12 => (if r_11.toInt = 0 then (ag36 M_12 (nI 0))
   else (ag36 M_12 (nI 1))))))))
def f_X10_notebook (M : Mem) (v1 : Int32) : Option (Int32 × Mem) :=
  (f_X10_in v1 (nI 1) (nI 200)).bind (fun r_1 => (if r_1.toInt = 0 then some ((-1), M)
   else (if v1.toInt ≤ (M 0 6).toInt then (f_X10_beginsText M v1).bind (fun M_2 => bnd (mset M_2 0 33 (nI 0)) (fun M_3 => cb (f_X10_readsLine M_3) (fun r_4 M_5 => (wlp2 f_X10_notebook_B36 FU M_5 r_4))))
   else some ((-1), M))))
def f_X10_wouldDo_L149 (y4_30 : Int32) (y5_30 : Int32) : Option Int32 :=
  (if y4_30.toInt = 0 then some (nI 0)
   else (if y5_30.toInt = 0 then some (nI 0)
   else some (nI 1)))
def f_X10_wouldDo_L118 (M : Mem) (ag30 : Int32 → Int32 → Int32 → Option Int32) (y5_30 : Int32) (y6_30 : Int32) (t0_118 : Int32) : Option Int32 :=
  (if y5_30.toInt = 0 then gd y6_30 40 ((if (M 24 (ix y6_30)).toInt = -1 then (ag30 t0_118 (nI 0) (y6_30 + (nI 1)))
   else (ag30 t0_118 (nI 1) (y6_30 + (nI 1)))))
   else (ag30 t0_118 (nI 1) (y6_30 + (nI 1))))
def f_X10_wouldDo_L113 (M : Mem) (ag30 : Int32 → Int32 → Int32 → Option Int32) (y5_30 : Int32) (y6_30 : Int32) : Option Int32 :=
  (f_X10_wouldDo_L118 M ag30 y5_30 y6_30 (nI 1))
def f_X10_wouldDo_B30 (M : Mem) (v1 : Int32) (v2 : Int32) (v3 : Int32) (ag30 : Int32 → Int32 → Int32 → Option Int32) (y4_30 : Int32) (y5_30 : Int32) (y6_30 : Int32) : Option Int32 :=
  (if 40 ≤ y6_30.toInt then (f_X10_wouldDo_L149 y4_30 y5_30)
   else (f_X10_isDry M y6_30).bind (fun r_1 => (if r_1.toInt = 0 then (ag30 y4_30 y5_30 (y6_30 + (nI 1)))
   else gd ((nI 40) + y6_30) 202 (bnd ((M 1 (ix ((nI 40) + y6_30))) - v1) (fun x_2 => gd ((nI 80) + y6_30) 202 (bnd ((M 1 (ix ((nI 80) + y6_30))) - v2) (fun x_3 => (if ((x_2 * x_2) + (x_3 * x_3)).toInt ≤ (v3 * v3).toInt then (if y4_30.toInt = 0 then gd y6_30 40 ((if (M 23 (ix y6_30)).toInt = -1 then (f_X10_wouldDo_L118 M ag30 y5_30 y6_30 (nI 0))
   else (f_X10_wouldDo_L113 M ag30 y5_30 y6_30)))
   else (f_X10_wouldDo_L113 M ag30 y5_30 y6_30))
   else (ag30 y4_30 y5_30 (y6_30 + (nI 1)))))))))))
def f_X10_wouldDo_L25 (M : Mem) (v1 : Int32) (v2 : Int32) (v3 : Int32) (t0_10 : Int32) (t0_25 : Int32) : Option Int32 :=
  (wlp3 (f_X10_wouldDo_B30 M v1 v2 v3) FU t0_10 t0_25 (nI 0))
def f_X10_wouldDo_L10 (M : Mem) (v1 : Int32) (v2 : Int32) (v3 : Int32) (t0_10 : Int32) : Option Int32 :=
  (if v3.toInt < ((nI 21) - v2).toInt then (f_X10_wouldDo_L25 M v1 v2 v3 t0_10 (nI 0))
   else (f_X10_wouldDo_L25 M v1 v2 v3 t0_10 (nI 1)))
def f_X10_wouldDo (M : Mem) (v1 : Int32) (v2 : Int32) (v3 : Int32) : Option Int32 :=
  (if v3.toInt < v2.toInt then (f_X10_wouldDo_L10 M v1 v2 v3 (nI 0))
   else (f_X10_wouldDo_L10 M v1 v2 v3 (nI 1)))
def f_X10_oneMore_L92 (v2 : Int32) (M_6 : Mem) (y4_51 : Int32) (y5_61 : Int32) : Option (Int32 × Mem) :=
  (if v2.toInt = 0 then some (y5_61, M_6)
   else some (y4_51, M_6))
def f_X10_oneMore_B61 (v2 : Int32) (x_3 : Int32) (M_6 : Mem) (ag51 : Int32 → Option (Int32 × Mem)) (y4_51 : Int32) (ag61 : Int32 → Option (Int32 × Mem)) (y5_61 : Int32) : Option (Int32 × Mem) :=
  (if 40 ≤ y5_61.toInt then (ag51 (y4_51 + (nI 1)))
   else (f_X10_stoneAt M_6 y5_61 y4_51).bind (fun r_7 => (if r_7.toInt = -1 then (f_X10_wouldDo M_6 y5_61 y4_51 x_3).bind (fun r_8 => (if r_8.toInt = 0 then (ag61 (y5_61 + (nI 1)))
   else (f_X10_oneMore_L92 v2 M_6 y4_51 y5_61)))
   else (ag61 (y5_61 + (nI 1))))))
def f_X10_oneMore_B51 (v2 : Int32) (x_3 : Int32) (M_6 : Mem) (ag51 : Int32 → Option (Int32 × Mem)) (y4_51 : Int32) : Option (Int32 × Mem) :=
  (if 20 < y4_51.toInt then some ((-2), M_6)
   else (wlp1 (f_X10_oneMore_B61 v2 x_3 M_6 ag51 y4_51) FU (nI 0)))
def f_X10_oneMore (M : Mem) (v1 : Int32) (v2 : Int32) : Option (Int32 × Mem) :=
  (f_X10_isPerson M v1).bind (fun r_1 => (if r_1.toInt = 0 then some ((-1), M)
   else (f_X10_in v2 (nI 0) (nI 1)).bind (fun r_2 => (if r_2.toInt = 0 then some ((-1), M)
   else gd v1 8 (bnd (M 4 (ix v1)) (fun x_3 => cb (f_X10_crossing M x_3) (fun r_4 M_5 => (if r_4.toInt = -1 then (f_X10_laysSteps 24 40 M_5 (nI 0) x_3).bind (fun M_6 => (wlp1 (f_X10_oneMore_B51 v2 x_3 M_6) FU (nI 1)))
   else some ((-3), M_5)))))))))
def f_X10_pairsOf_B4 (M : Mem) (ag4 : Int32 → Int32 → Option Int32) (y1_4 : Int32) (y2_4 : Int32) : Option Int32 :=
  (if 40 ≤ y2_4.toInt then some y1_4
   else (f_X10_isStone M y2_4).bind (fun r_1 => (if r_1.toInt = 0 then (ag4 y1_4 (y2_4 + (nI 1)))
   else (f_X10_nearestTo M y2_4).bind (fun r_2 => (if r_2.toInt ≤ y2_4.toInt then (ag4 y1_4 (y2_4 + (nI 1)))
   else (f_X10_nearestTo M r_2).bind (fun r_3 => (if r_3.toInt = y2_4.toInt then (ag4 (y1_4 + (nI 1)) (y2_4 + (nI 1)))
   else (ag4 y1_4 (y2_4 + (nI 1))))))))))
def f_X10_pairsOf (M : Mem) : Option Int32 :=
  (wlp2 (f_X10_pairsOf_B4 M) FU (nI 0) (nI 0))
def f_X10_person (M : Mem) (v1 : Int32) (v2 : Int32) : Option (Int32 × Mem) :=
  (f_X10_in v1 (nI 0) (nI 7)).bind (fun r_1 => (if r_1.toInt = 0 then some ((nI 0), M)
   else (f_X10_in v2 (nI 1) (nI 30)).bind (fun r_2 => (if r_2.toInt = 0 then some ((nI 0), M)
   else bnd (mset M 0 4 ((M 0 4) ||| (shl (nI 1) v1))) (fun M_3 => gd v1 8 (bnd (mset M_3 4 (ix v1) v2) (fun M_4 => some ((nI 1), M_4))))))))
def f_X10_readsHops_L204 (x_1 : Int32) (M12 : Mem) (y2_12 : Int32) (y3_12 : Int32) : Option (Int32 × Mem) :=
  (if (M12 0 49).toInt = 60 then cb (f_X10_wrongAt M12 (nI 6) x_1) (fun r_5 M_6 => gb r_5 (some (r_5, M_6)))
   else gd (M12 0 49) 60 (bnd (mset M12 32 (ix (M12 0 49)) y2_12) (fun M_2 => gd (M_2 0 49) 60 (bnd (mset M_2 33 (ix (M_2 0 49)) y3_12) (fun M_3 => bnd (mset M_3 0 49 ((M_3 0 49) + (nI 1))) (fun M_4 => some ((nI 1), M_4)))))))
def f_X10_readsHops_L156 (ag12 : Mem → Int32 → Int32 → Int32 → Option (Int32 × Mem)) (y3_12 : Int32) (N92 : Mem) (x_11 : Int32) (t0_156 : Int32) : Option (Int32 × Mem) :=
  bnd (y3_12 + t0_156) (fun x_12 => (f_X10_here N92).bind (fun r_13 => (if r_13.toInt = 117 then (ag12 N92 x_11 x_12 (nI 1))
   else (f_X10_here N92).bind (fun r_14 => (if r_14.toInt = 100 then (ag12 N92 x_11 x_12 (nI 1))
   else (f_X10_here N92).bind (fun r_15 => (if r_15.toInt = 111 then (ag12 N92 x_11 x_12 (nI 1))
   else (f_X10_here N92).bind (fun r_16 => (if r_16.toInt = 98 then (ag12 N92 x_11 x_12 (nI 1))
   else (ag12 N92 x_11 x_12 (nI 0)))))))))))
def f_X10_readsHops_L123 (ag12 : Mem → Int32 → Int32 → Int32 → Option (Int32 × Mem)) (y2_12 : Int32) (y3_12 : Int32) (r_7 : Int32) (N92 : Mem) (t0_123 : Int32) : Option (Int32 × Mem) :=
  bnd (y2_12 + t0_123) (fun x_11 => (if r_7.toInt = 111 then (f_X10_readsHops_L156 ag12 y3_12 N92 x_11 (N92 0 10))
   else (if r_7.toInt = 98 then (f_X10_readsHops_L156 ag12 y3_12 N92 x_11 (-(N92 0 10)))
   else (f_X10_readsHops_L156 ag12 y3_12 N92 x_11 (nI 0)))))
def f_X10_readsHops_L92 (ag12 : Mem → Int32 → Int32 → Int32 → Option (Int32 × Mem)) (y2_12 : Int32) (y3_12 : Int32) (r_7 : Int32) (N92 : Mem) : Option (Int32 × Mem) :=
  (if r_7.toInt = 117 then (f_X10_readsHops_L123 ag12 y2_12 y3_12 r_7 N92 (N92 0 10))
   else (if r_7.toInt = 100 then (f_X10_readsHops_L123 ag12 y2_12 y3_12 r_7 N92 (-(N92 0 10)))
   else (f_X10_readsHops_L123 ag12 y2_12 y3_12 r_7 N92 (nI 0))))
def f_X10_readsHops_L61 (ag12 : Mem → Int32 → Int32 → Int32 → Option (Int32 × Mem)) (M12 : Mem) (y2_12 : Int32) (y3_12 : Int32) (r_7 : Int32) : Option (Int32 × Mem) :=
  bnd (mset M12 0 7 ((M12 0 7) + (nI 1))) (fun M_8 => bnd (mset M_8 0 10 (nI 1)) (fun M_9 => (f_X10_isDigit M_9).bind (fun r_10 => (if r_10.toInt = 0 then (f_X10_readsHops_L92 ag12 y2_12 y3_12 r_7 M_9)
   else cb (f_X10_readsAmount M_9) (fun r_17 M_18 => (if r_17.toInt = 0 then some ((nI 0), M_18)
   else (f_X10_readsHops_L92 ag12 y2_12 y3_12 r_7 M_18)))))))
def f_X10_readsHops_L51 (M12 : Mem) : Option (Int32 × Mem) :=
  cb (f_X10_wrongAt M12 (nI 1) (M12 0 7)) (fun r_19 M_20 => gb r_19 (some (r_19, M_20)))
def f_X10_readsHops_B12 (x_1 : Int32) (ag12 : Mem → Int32 → Int32 → Int32 → Option (Int32 × Mem)) (M12 : Mem) (y2_12 : Int32) (y3_12 : Int32) (y4_12 : Int32) : Option (Int32 × Mem) :=
  (if y4_12.toInt = 0 then (f_X10_readsHops_L204 x_1 M12 y2_12 y3_12)
   else (f_X10_here M12).bind (fun r_7 => (if r_7.toInt = 117 then (f_X10_readsHops_L61 ag12 M12 y2_12 y3_12 r_7)
   else (if r_7.toInt = 100 then (f_X10_readsHops_L61 ag12 M12 y2_12 y3_12 r_7)
   else (if r_7.toInt = 111 then (f_X10_readsHops_L61 ag12 M12 y2_12 y3_12 r_7)
   else (if r_7.toInt = 98 then (f_X10_readsHops_L61 ag12 M12 y2_12 y3_12 r_7)
   else (f_X10_readsHops_L51 M12)))))))
def f_X10_readsHops (M : Mem) : Option (Int32 × Mem) :=
  bnd (M 0 7) (fun x_1 => (wlp4 (f_X10_readsHops_B12 x_1) FU M (nI 0) (nI 0) (nI 1)))
def f_X10_readsWalk_L139 (ag2 : Mem → Int32 → Option (Int32 × Mem)) (M91 : Mem) (t0_139 : Int32) : Option (Int32 × Mem) :=
  (if t0_139.toInt = 0 then (ag2 M91 t0_139)
   else cb (f_X10_takesSign M91 (nI 44)) (fun r_5 M_6 => (if r_5.toInt = 0 then some ((nI 0), M_6)
   else (ag2 M_6 t0_139))))
def f_X10_readsWalk_L134 (ag2 : Mem → Int32 → Option (Int32 × Mem)) (M91 : Mem) : Option (Int32 × Mem) :=
  (f_X10_readsWalk_L139 ag2 M91 (nI 1))
def f_X10_readsWalk_L116 (ag2 : Mem → Int32 → Option (Int32 × Mem)) (M91 : Mem) : Option (Int32 × Mem) :=
  (if (M91 0 7).toInt < (M91 0 8).toInt then (f_X10_readsWalk_L134 ag2 M91)
   else (if (M91 0 50).toInt ≤ 0 then (f_X10_readsWalk_L139 ag2 M91 (nI 0))
   else (f_X10_readsWalk_L134 ag2 M91)))
def f_X10_readsWalk_B91 (ag2 : Mem → Int32 → Option (Int32 × Mem)) (ag91 : Mem → Option (Int32 × Mem)) (M91 : Mem) : Option (Int32 × Mem) :=
  (f_X10_here M91).bind (fun r_4 => (if r_4.toInt = 41 then (if (M91 0 50).toInt ≤ 0 then (f_X10_readsWalk_L116 ag2 M91)
   else cb (f_X10_endsRound M91) (fun r_7 M_8 => (if r_7.toInt = 0 then some ((nI 0), M_8)
   else (ag91 M_8))))
   else (f_X10_readsWalk_L116 ag2 M91)))
def f_X10_readsWalk_L82 (ag2 : Mem → Int32 → Option (Int32 × Mem)) (M6 : Mem) : Option (Int32 × Mem) :=
  cb (f_X10_readsHops M6) (fun r_2 M_3 => (if r_2.toInt = 0 then some ((nI 0), M_3)
   else (wlp1 (f_X10_readsWalk_B91 ag2) FU M_3)))
def f_X10_readsWalk_L23 (M6 : Mem) : Option (Int32 × Mem) :=
  cb (f_X10_wrongAt M6 (nI 5) (M6 0 7)) (fun r_9 M_10 => gb r_9 (some (r_9, M_10)))
def f_X10_readsWalk_B6 (ag2 : Mem → Int32 → Option (Int32 × Mem)) (ag6 : Mem → Option (Int32 × Mem)) (M6 : Mem) : Option (Int32 × Mem) :=
  (f_X10_here M6).bind (fun r_1 => (if r_1.toInt = 40 then (if (M6 0 50).toInt = 2 then (f_X10_readsWalk_L23 M6)
   else gd (M6 0 50) 2 (bnd (mset M6 34 (ix (M6 0 50)) (M6 0 7)) (fun M_11 => gd (M_11 0 50) 2 (bnd (mset M_11 35 (ix (M_11 0 50)) (M_11 0 49)) (fun M_12 => bnd (mset M_12 0 50 ((M_12 0 50) + (nI 1))) (fun M_13 => bnd (mset M_13 0 7 ((M_13 0 7) + (nI 1))) (fun M_14 => (ag6 M_14))))))))
   else (f_X10_readsWalk_L82 ag2 M6)))
def f_X10_readsWalk_B2  (ag2 : Mem → Int32 → Option (Int32 × Mem)) (M2 : Mem) (y1_2 : Int32) : Option (Int32 × Mem) :=
  (if y1_2.toInt = 0 then some ((nI 1), M2)
   else (wlp1 (f_X10_readsWalk_B6 ag2) FU M2))
def f_X10_readsWalk (M : Mem) : Option (Int32 × Mem) :=
  (wlp2 f_X10_readsWalk_B2 FU M (nI 1))
def f_X10_seed (M : Mem) (v1 : Int32) : Option (Int32 × Mem) :=
  (f_X10_in v1 (nI 0) (nI 65535)).bind (fun r_1 => (if r_1.toInt = 0 then some ((nI 0), M)
   else bnd (mset M 1 201 v1) (fun M_2 => some ((nI 1), M_2))))
def f_X10_yardRow_L55 (ag4 : Int32 → Int32 → Option Int32) (y1_4 : Int32) (y2_4 : Int32) (y3_12 : Int32) : Option Int32 :=
  (f_X10_max y1_4 y3_12).bind (fun r_2 => (ag4 r_2 (y2_4 + (nI 1))))
def f_X10_yardRow_B12 (M : Mem) (ag4 : Int32 → Int32 → Option Int32) (y1_4 : Int32) (y2_4 : Int32) (ag12 : Int32 → Option Int32) (y3_12 : Int32) : Option Int32 :=
  (f_X10_isStone M y2_4).bind (fun r_1 => (if r_1.toInt = 0 then (f_X10_yardRow_L55 ag4 y1_4 y2_4 y3_12)
   else gd ((nI 40) + y2_4) 202 (gd ((nI 80) + y2_4) 202 ((f_X10_stoneAt M (M 1 (ix ((nI 40) + y2_4))) ((M 1 (ix ((nI 80) + y2_4))) + y3_12)).bind (fun r_3 => (if r_3.toInt = -1 then (f_X10_yardRow_L55 ag4 y1_4 y2_4 y3_12)
   else (ag12 (y3_12 + (nI 1)))))))))
def f_X10_yardRow_B4 (M : Mem) (ag4 : Int32 → Int32 → Option Int32) (y1_4 : Int32) (y2_4 : Int32) : Option Int32 :=
  (if 40 ≤ y2_4.toInt then some y1_4
   else (wlp1 (f_X10_yardRow_B12 M ag4 y1_4 y2_4) FU (nI 0)))
def f_X10_yardRow (M : Mem) : Option Int32 :=
  (wlp2 (f_X10_yardRow_B4 M) FU (nI 0) (nI 0))
def f_X10_shape (M : Mem) (v1 : Int32) : Option Int32 :=
  (if v1.toInt = 0 then (f_X10_mostInLine M).bind (fun r_1 => some r_1)
   else (if v1.toInt = 1 then (f_X10_yardRow M).bind (fun r_2 => some r_2)
   else (if v1.toInt = 2 then (f_X10_pairsOf M).bind (fun r_3 => some r_3)
   else (if v1.toInt = 3 then (f_X10_closest M).bind (fun r_4 => some r_4)
   else some (-1)))))
def f_X10_stone_L65 (M : Mem) (v1 : Int32) (v2 : Int32) (v3 : Int32) (v4 : Int32) : Option (Int32 × Mem) :=
  (f_X10_laysStone M v1 v2 v3 v4 (nI 0)).bind (fun M_6 => some ((nI 1), M_6))
def f_X10_stone (M : Mem) (v1 : Int32) (v2 : Int32) (v3 : Int32) (v4 : Int32) : Option (Int32 × Mem) :=
  (f_X10_in v1 (nI 0) (nI 39)).bind (fun r_1 => (if r_1.toInt = 0 then some ((nI 0), M)
   else (f_X10_in v2 (nI 0) (nI 39)).bind (fun r_2 => (if r_2.toInt = 0 then some ((nI 0), M)
   else (f_X10_in v3 (nI 1) (nI 20)).bind (fun r_3 => (if r_3.toInt = 0 then some ((nI 0), M)
   else (f_X10_in v4 (nI 0) (nI 9)).bind (fun r_4 => (if r_4.toInt = 0 then some ((nI 0), M)
   else (f_X10_stoneAt M v2 v3).bind (fun r_5 => (if r_5.toInt = -1 then (f_X10_stone_L65 M v1 v2 v3 v4)
   else (if r_5.toInt = v1.toInt then (f_X10_stone_L65 M v1 v2 v3 v4)
   else some ((nI 0), M))))))))))))
def f_X10_stoneIs (M : Mem) (v1 : Int32) (v2 : Int32) : Option Int32 :=
  (f_X10_isStone M v1).bind (fun r_1 => (if r_1.toInt = 0 then some (-1)
   else (if v2.toInt = 0 then gd ((nI 40) + v1) 202 (some (M 1 (ix ((nI 40) + v1))))
   else (if v2.toInt = 1 then gd ((nI 80) + v1) 202 (some (M 1 (ix ((nI 80) + v1))))
   else (if v2.toInt = 2 then gd ((nI 120) + v1) 202 (some (M 1 (ix ((nI 120) + v1))))
   else (if v2.toInt = 3 then gd ((nI 160) + v1) 202 (some (M 1 (ix ((nI 160) + v1))))
   else (if v2.toInt = 4 then (f_X10_nearTo M v1).bind (fun r_2 => some r_2)
   else some (-1))))))))
def f_X10_take (M : Mem) (v1 : Int32) : Option (Int32 × Mem) :=
  (f_X10_isStone M v1).bind (fun r_1 => (if r_1.toInt = 0 then some ((nI 0), M)
   else gd v1 202 (bnd (mset M 1 (ix v1) (nI 0)) (fun M_2 => some ((nI 1), M_2)))))
def f_X10_thrown_L92 (v1 : Int32) (ag35 : Mem → Int32 → Int32 → Option (Int32 × Mem)) (M35 : Mem) (y2_35 : Int32) (y4_45 : Int32) : Option (Int32 × Mem) :=
  (f_X10_min y2_35 y4_45).bind (fun r_5 => cb (f_X10_nextRow M35 v1 (nI 1)) (fun r_6 M_7 => (ag35 M_7 r_5 r_6)))
def f_X10_thrown_B45 (v1 : Int32) (ag35 : Mem → Int32 → Int32 → Option (Int32 × Mem)) (M35 : Mem) (y2_35 : Int32) (ag45 : Int32 → Int32 → Option (Int32 × Mem)) (y4_45 : Int32) (y5_45 : Int32) : Option (Int32 × Mem) :=
  (if v1.toInt ≤ y5_45.toInt then (f_X10_thrown_L92 v1 ag35 M35 y2_35 y4_45)
   else gd (y5_45 - (nI 1)) 7 (gd (M35 37 (ix (y5_45 - (nI 1)))) 7 (gd y5_45 7 (gd (M35 37 (ix y5_45)) 7 ((f_X10_apart M35 (M35 36 (ix (M35 37 (ix (y5_45 - (nI 1)))))) (M35 36 (ix (M35 37 (ix y5_45))))).bind (fun r_8 => bnd (y4_45 + r_8) (fun x_9 => (ag45 x_9 (y5_45 + (nI 1))))))))))
def f_X10_thrown_B35 (v1 : Int32) (ag35 : Mem → Int32 → Int32 → Option (Int32 × Mem)) (M35 : Mem) (y2_35 : Int32) (y3_35 : Int32) : Option (Int32 × Mem) :=
  (if y3_35.toInt = 0 then some (y2_35, M35)
   else (wlp2 (f_X10_thrown_B45 v1 ag35 M35 y2_35) FU (nI 0) (nI 1)))
def f_X10_thrown (M : Mem) (v1 : Int32) : Option (Int32 × Mem) :=
  (f_X10_in v1 (nI 1) (nI 6)).bind (fun r_1 => (if r_1.toInt = 0 then some ((-1), M)
   else cb (f_X10_listsStones M v1 (nI 1)) (fun r_2 M_3 => (if r_2.toInt = 0 then some ((-2), M_3)
   else (f_X10_beginsRows M_3 v1).bind (fun M_4 => (wlp3 (f_X10_thrown_B35 v1) FU M_4 (nI 1000000) (nI 1)))))))
def f_X10_tried_L180 (M_5 : Mem) (z4_180 : Int32) : Option (Int32 × Mem) :=
  (f_X10_copies 2 202 1 202 M_5).bind (fun M_6 => some (z4_180, M_6))
def f_X10_tried_L178 (M_5 : Mem) (t0_178 : Int32) : Option (Int32 × Mem) :=
  (f_X10_tried_L180 M_5 t0_178)
def f_X10_tried_L46 (M : Mem) (v1 : Int32) (v2 : Int32) : Option (Int32 × Mem) :=
  (f_X10_sumOf M (nI 40)).bind (fun r_3 => (f_X10_copies 1 202 2 202 M).bind (fun M_4 => (f_X10_nightsGo M_4 v1).bind (fun M_5 => (if v2.toInt = 0 then bnd (M_5 0 34) (fun x_7 => (f_X10_tried_L180 M_5 x_7))
   else (if v2.toInt = 1 then bnd (M_5 0 35) (fun x_8 => (f_X10_tried_L180 M_5 x_8))
   else (if v2.toInt = 2 then (f_X10_sumOf M_5 (nI 160)).bind (fun r_9 => (f_X10_tried_L180 M_5 r_9))
   else (if v2.toInt = 3 then (f_X10_sumOf M_5 (nI 40)).bind (fun r_10 => bnd (r_10 - r_3) (fun x_11 => (f_X10_tried_L180 M_5 x_11)))
   else (if 200 ≤ v2.toInt then gd (((nI 80) + v2) - (nI 200)) 202 ((f_X10_tried_L178 M_5 (M_5 1 (ix (((nI 80) + v2) - (nI 200))))))
   else gd (((nI 40) + v2) - (nI 100)) 202 ((f_X10_tried_L178 M_5 (M_5 1 (ix (((nI 40) + v2) - (nI 100))))))))))))))
def f_X10_tried (M : Mem) (v1 : Int32) (v2 : Int32) : Option (Int32 × Mem) :=
  (f_X10_in v1 (nI 1) (nI 60)).bind (fun r_1 => (if r_1.toInt = 0 then some ((-100000), M)
   else (f_X10_in v2 (nI 0) (nI 3)).bind (fun r_2 => (if r_2.toInt = 0 then (f_X10_isStone M (v2 - (nI 100))).bind (fun r_12 => (if r_12.toInt = 0 then (f_X10_isStone M (v2 - (nI 200))).bind (fun r_13 => (if r_13.toInt = 0 then some ((-100000), M)
   else (f_X10_tried_L46 M v1 v2)))
   else (f_X10_tried_L46 M v1 v2)))
   else (f_X10_tried_L46 M v1 v2)))))
def f_X10_under_L28 (M : Mem) (v1 : Int32) (t0_28 : Int32) : Option (Int32 × Mem) :=
  gd ((nI 160) + v1) 202 (bnd (mset M 1 (ix ((nI 160) + v1)) t0_28) (fun M_2 => some ((nI 1), M_2)))
def f_X10_under (M : Mem) (v1 : Int32) (v2 : Int32) : Option (Int32 × Mem) :=
  (f_X10_isStone M v1).bind (fun r_1 => (if r_1.toInt = 0 then some ((nI 0), M)
   else (if v2.toInt = 0 then (f_X10_under_L28 M v1 (nI 0))
   else (f_X10_under_L28 M v1 (nI 1)))))
def f_X10_undo (M : Mem) : Option (Int32 × Mem) :=
  (if (M 0 54).toInt = 0 then some ((nI 0), M)
   else (f_X10_copies 3 202 1 202 M).bind (fun M_1 => some ((nI 1), M_1)))
def f_X10_walk_L297 (v4 : Int32) (M_10 : Mem) (y6_99 : Int32) (y7_99 : Int32) (y8_99 : Int32) : Option (Int32 × Mem) :=
  (if v4.toInt = 0 then some (y6_99, M_10)
   else (if v4.toInt = 1 then some (y8_99, M_10)
   else (if v4.toInt = 2 then some (y7_99, M_10)
   else (if y8_99.toInt = 21 then some ((nI 1), M_10)
   else some ((nI 0), M_10)))))
def f_X10_walk_L267 (ag99 : Int32 → Int32 → Int32 → Int32 → Int32 → Option (Int32 × Mem)) (y6_99 : Int32) (y7_99 : Int32) (y8_99 : Int32) (y10_99 : Int32) (x_11 : Int32) (r_12 : Int32) (t0_267 : Int32) : Option (Int32 × Mem) :=
  (if t0_267.toInt = 0 then (ag99 y6_99 y7_99 y8_99 t0_267 (y10_99 + (nI 1)))
   else (ag99 (y6_99 + (nI 1)) x_11 r_12 t0_267 (y10_99 + (nI 1))))
def f_X10_walk_L266 (ag99 : Int32 → Int32 → Int32 → Int32 → Int32 → Option (Int32 × Mem)) (y6_99 : Int32) (y7_99 : Int32) (y8_99 : Int32) (y10_99 : Int32) (x_11 : Int32) (r_12 : Int32) : Option (Int32 × Mem) :=
  (f_X10_walk_L267 ag99 y6_99 y7_99 y8_99 y10_99 x_11 r_12 (nI 0))
def f_X10_walk_L237 (v1 : Int32) (M_10 : Mem) (ag99 : Int32 → Int32 → Int32 → Int32 → Int32 → Option (Int32 × Mem)) (y6_99 : Int32) (y7_99 : Int32) (y8_99 : Int32) (y10_99 : Int32) (x_11 : Int32) (r_12 : Int32) (x_13 : Int32) (t0_237 : Int32) : Option (Int32 × Mem) :=
  gd v1 8 (gd v1 8 ((if ((M_10 4 (ix v1)) * (M_10 4 (ix v1))).toInt < x_13.toInt then (f_X10_walk_L266 ag99 y6_99 y7_99 y8_99 y10_99 x_11 r_12)
   else (if t0_237.toInt = 0 then (f_X10_walk_L266 ag99 y6_99 y7_99 y8_99 y10_99 x_11 r_12)
   else (f_X10_walk_L267 ag99 y6_99 y7_99 y8_99 y10_99 x_11 r_12 (nI 1))))))
def f_X10_walk_L225 (v1 : Int32) (M_10 : Mem) (ag99 : Int32 → Int32 → Int32 → Int32 → Int32 → Option (Int32 × Mem)) (y6_99 : Int32) (y7_99 : Int32) (y8_99 : Int32) (y10_99 : Int32) (x_11 : Int32) (r_12 : Int32) (x_13 : Int32) : Option (Int32 × Mem) :=
  (f_X10_walk_L237 v1 M_10 ag99 y6_99 y7_99 y8_99 y10_99 x_11 r_12 x_13 (nI 0))
def f_X10_walk_B99 (v1 : Int32) (v4 : Int32) (M_10 : Mem) (ag99 : Int32 → Int32 → Int32 → Int32 → Int32 → Option (Int32 × Mem)) (y6_99 : Int32) (y7_99 : Int32) (y8_99 : Int32) (y9_99 : Int32) (y10_99 : Int32) : Option (Int32 × Mem) :=
  (if (M_10 0 49).toInt ≤ y10_99.toInt then (f_X10_walk_L297 v4 M_10 y6_99 y7_99 y8_99)
   else (if y9_99.toInt = 0 then (f_X10_walk_L297 v4 M_10 y6_99 y7_99 y8_99)
   else (if 21 ≤ y8_99.toInt then (f_X10_walk_L297 v4 M_10 y6_99 y7_99 y8_99)
   else gd y10_99 60 (bnd (y7_99 + (M_10 32 (ix y10_99))) (fun x_11 => gd y10_99 60 ((f_X10_bounded (y8_99 + (M_10 33 (ix y10_99))) (nI 0) (nI 21)).bind (fun r_12 => gd y10_99 60 (gd y10_99 60 (gd y10_99 60 (gd y10_99 60 (bnd (((M_10 32 (ix y10_99)) * (M_10 32 (ix y10_99))) + ((M_10 33 (ix y10_99)) * (M_10 33 (ix y10_99)))) (fun x_13 => (f_X10_in r_12 (nI 1) (nI 20)).bind (fun r_14 => (if r_14.toInt = 0 then (f_X10_in x_11 (nI 0) (nI 39)).bind (fun r_15 => (f_X10_walk_L237 v1 M_10 ag99 y6_99 y7_99 y8_99 y10_99 x_11 r_12 x_13 r_15))
   else (f_X10_stoneAt M_10 x_11 r_12).bind (fun r_16 => (if r_16.toInt = -1 then (f_X10_walk_L225 v1 M_10 ag99 y6_99 y7_99 y8_99 y10_99 x_11 r_12 x_13)
   else (f_X10_stoneAt M_10 x_11 r_12).bind (fun r_17 => (f_X10_isDry M_10 r_17).bind (fun r_18 => (if r_18.toInt = 0 then (f_X10_walk_L225 v1 M_10 ag99 y6_99 y7_99 y8_99 y10_99 x_11 r_12 x_13)
   else (f_X10_walk_L237 v1 M_10 ag99 y6_99 y7_99 y8_99 y10_99 x_11 r_12 x_13 (nI 1)))))))))))))))))))))
def f_X10_walk (M : Mem) (v1 : Int32) (v2 : Int32) (v3 : Int32) (v4 : Int32) : Option (Int32 × Mem) :=
  (f_X10_isPerson M v1).bind (fun r_1 => (if r_1.toInt = 0 then some ((-1), M)
   else (f_X10_in v2 (nI 0) (nI 39)).bind (fun r_2 => (if r_2.toInt = 0 then some ((-1), M)
   else (f_X10_in v3 (nI 1) (nI 60)).bind (fun r_3 => (if r_3.toInt = 0 then some ((-1), M)
   else (f_X10_in v4 (nI 0) (nI 3)).bind (fun r_4 => (if r_4.toInt = 0 then some ((-1), M)
   else (if v3.toInt ≤ (M 0 6).toInt then (f_X10_beginsText M v3).bind (fun M_5 => bnd (mset M_5 0 49 (nI 0)) (fun M_6 => bnd (mset M_6 0 50 (nI 0)) (fun M_7 => cb (f_X10_readsWalk M_7) (fun r_8 M_9 => bnd (mset M_9 0 6 (nI 0)) (fun M_10 => (if r_8.toInt = 0 then some ((M_10 0 9), M_10)
   else (wlp5 (f_X10_walk_B99 v1 v4 M_10) FU (nI 0) v2 (nI 0) (nI 1) (nI 0))))))))
   else some ((-1), M))))))))))
