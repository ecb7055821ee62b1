def f_J6_bitCount_0f7a4 (v0 : Int32) : Option Int32 :=
  bnd (v0 - ((ushr v0 (nI 1)) &&& (nI 1431655765))) (fun x_1 => bnd ((x_1 &&& (nI 858993459)) + ((ushr x_1 (nI 2)) &&& (nI 858993459))) (fun x_2 => bnd ((x_2 + (ushr x_2 (nI 4))) &&& (nI 252645135)) (fun x_3 => bnd (x_3 + (ushr x_3 (nI 8))) (fun x_4 => bnd (x_4 + (ushr x_4 (nI 16))) (fun x_5 => some (x_5 &&& (nI 63)))))))
def f_J7_fill_53178_B5 (k : Nat) (len_k : Nat) (v1 : Int32) (x_1 : Int32) (ag5 : Mem → Int32 → Option Mem) (M5 : Mem) (y2_5 : Int32) : Option Mem :=
  (if x_1.toInt ≤ y2_5.toInt then some M5
   else gd y2_5 len_k (bnd (mset M5 k (ix y2_5) v1) (fun M_2 => (ag5 M_2 (y2_5 + (nI 1))))))
def f_J7_fill_53178 (k : Nat) (len_k : Nat) (M : Mem) (v1 : Int32) : Option Mem :=
  bnd (nI len_k) (fun x_1 => (wlp2 (f_J7_fill_53178_B5 k len_k v1 x_1) FU M (nI 0)))
def f_X0_wayWith (M : Mem) (v1 : Int32) (v2 : Int32) (v3 : Int32) : Option Int32 :=
  (if v3.toInt < 0 then some (nI 2147483647)
   else (if 7 ≤ v3.toInt then some (nI 2147483647)
   else (if v2.toInt < 0 then some (nI 2147483647)
   else (if 7 ≤ v2.toInt then some (nI 2147483647)
   else (if 0 ≤ v1.toInt then bnd (v1 ||| (shl (nI 1) v3)) (fun x_1 => (if x_1.toInt = v1.toInt then some (nI 2147483647)
   else (if x_1.toInt < 128 then gd ((v2 * (nI 7)) + v3) 49 (gd x_1 128 (some ((M 41 (ix ((v2 * (nI 7)) + v3))) + (M 42 (ix x_1)))))
   else some (nI 2147483647))))
   else some (nI 2147483647))))))
def f_X0_fewestBehind_B19 (M : Mem) (v1 : Int32) (v2 : Int32) (r_1 : Int32) (ag19 : Int32 → Int32 → Option Int32) (y4_19 : Int32) (y5_19 : Int32) : Option Int32 :=
  (if v1.toInt ≤ y5_19.toInt then some y4_19
   else (if 7 ≤ y5_19.toInt then some y4_19
   else (f_X0_wayWith M v2 r_1 y5_19).bind (fun r_2 => bnd (mn y4_19 r_2) (fun x_3 => (ag19 x_3 (y5_19 + (nI 1)))))))
def f_X0_fewestBehind (M : Mem) (v1 : Int32) (v2 : Int32) : Option Int32 :=
  (f_J6_bitCount_0f7a4 v2).bind (fun r_1 => (if r_1.toInt < v1.toInt then (wlp2 (f_X0_fewestBehind_B19 M v1 v2 r_1) FU (nI 2147483647) (nI 0))
   else some (nI 0)))
def f_X2_nextTold_B6 (b : Nat) (M : Mem) (ag6 : Int32 → Option Int32) (y2_6 : Int32) : Option Int32 :=
  (if 40 ≤ y2_6.toInt then some (-1)
   else gd y2_6 40 ((if (M (b + 4) (ix y2_6)).toInt = 0 then (ag6 (y2_6 + (nI 1)))
   else some y2_6)))
def f_X2_nextTold (b : Nat) (M : Mem) (v1 : Int32) : Option Int32 :=
  bnd (mx v1 (nI 0)) (fun x_1 => (wlp1 (f_X2_nextTold_B6 b M) FU x_1))
def f_X2_isTold (b : Nat) (M : Mem) (v1 : Int32) : Option Int32 :=
  (if v1.toInt < 0 then some (nI 0)
   else (if 40 ≤ v1.toInt then some (nI 0)
   else gd v1 40 ((if (M (b + 4) (ix v1)).toInt = 0 then some (nI 0)
   else some (nI 1)))))
def f_X0_measure_B35 (b : Nat) (v2 : Int32) (v3 : Int32) (x_2 : Int32) (ag35 : Mem → Int32 → Option Mem) (M35 : Mem) (y5_35 : Int32) : Option Mem :=
  (if v2.toInt ≤ y5_35.toInt then some M35
   else (if 7 ≤ y5_35.toInt then some M35
   else gd x_2 40 (gd y5_35 7 (gd x_2 40 (gd y5_35 7 (gd ((y5_35 * (nI 7)) + v3) 49 (bnd (mset M35 41 (ix ((y5_35 * (nI 7)) + v3)) ((ab ((M35 (b + 1) (ix x_2)) - (M35 38 (ix y5_35)))) + (ab ((M35 (b + 2) (ix x_2)) - (M35 39 (ix y5_35)))))) (fun M_3 => (ag35 M_3 (y5_35 + (nI 1)))))))))))
def f_X0_measure (b : Nat) (M : Mem) (v2 : Int32) (v3 : Int32) : Option Mem :=
  (if v3.toInt < 0 then some M
   else (if 7 ≤ v3.toInt then some M
   else gd v3 7 ((f_X2_isTold b M (M 40 (ix v3))).bind (fun r_1 => (if r_1.toInt = 0 then some M
   else gd v3 7 (bnd (M 40 (ix v3)) (fun x_2 => (wlp2 (f_X0_measure_B35 b v2 v3 x_2) FU M (nI 0)))))))))
def f_X0_match_B67 (v2 : Int32) (ag67 : Mem → Int32 → Option Mem) (M67 : Mem) (y4_67 : Int32) : Option Mem :=
  (if y4_67.toInt < 0 then some M67
   else (f_X0_fewestBehind M67 v2 y4_67).bind (fun r_2 => gd y4_67 128 (bnd (mset M67 42 (ix y4_67) r_2) (fun M_3 => (ag67 M_3 (y4_67 + (-1)))))))
def f_X0_match_L54 (v2 : Int32) (M5 : Mem) : Option Mem :=
  bnd ((mn (shl (nI 1) v2) (nI 128)) - (nI 1)) (fun x_1 => (wlp2 (f_X0_match_B67 v2) FU M5 x_1))
def f_X0_match_B5 (b : Nat) (v2 : Int32) (ag5 : Mem → Int32 → Int32 → Option Mem) (M5 : Mem) (y3_5 : Int32) (y4_5 : Int32) : Option Mem :=
  (if v2.toInt ≤ y4_5.toInt then (f_X0_match_L54 v2 M5)
   else (if 7 ≤ y4_5.toInt then (f_X0_match_L54 v2 M5)
   else (f_X2_nextTold b M5 y3_5).bind (fun r_4 => gd y4_5 7 (bnd (mset M5 40 (ix y4_5) r_4) (fun M_5 => gd y4_5 7 (bnd ((M_5 40 (ix y4_5)) + (nI 1)) (fun x_6 => (f_X0_measure b M_5 v2 y4_5).bind (fun M_7 => (ag5 M_7 x_6 (y4_5 + (nI 1)))))))))))
def f_X0_match (b : Nat) (M : Mem) (v2 : Int32) : Option Mem :=
  (wlp3 (f_X0_match_B5 b v2) FU M (nI 0) (nI 0))
def f_X7_byteAt (M : Mem) (v1 : Int32) : Option Int32 :=
  (if v1.toInt < 0 then some (-1)
   else (if (M 19 2).toInt ≤ v1.toInt then some (-1)
   else (if 260 ≤ v1.toInt then some (-1)
   else gd v1 260 (some (M 20 (ix v1))))))
def f_X0_read_B2 (v2 : Int32) (ag2 : Mem → Int32 → Option (Int32 × Mem)) (M2 : Mem) (y3_2 : Int32) : Option (Int32 × Mem) :=
  (if v2.toInt ≤ y3_2.toInt then some ((nI 1), M2)
   else (if 7 ≤ y3_2.toInt then some ((nI 1), M2)
   else (f_X7_byteAt M2 ((nI 2) * y3_2)).bind (fun r_1 => gd y3_2 7 (bnd (mset M2 38 (ix y3_2) r_1) (fun M_2 => (f_X7_byteAt M_2 (((nI 2) * y3_2) + (nI 1))).bind (fun r_3 => gd y3_2 7 (bnd (mset M_2 39 (ix y3_2) r_3) (fun M_4 => gd y3_2 7 ((if 39 < (M_4 38 (ix y3_2)).toInt then some ((nI 0), M_4)
   else gd y3_2 7 ((if (M_4 39 (ix y3_2)).toInt ≤ 20 then (ag2 M_4 (y3_2 + (nI 1)))
   else some ((nI 0), M_4)))))))))))))
def f_X0_read (M : Mem) (v2 : Int32) : Option (Int32 × Mem) :=
  (wlp2 (f_X0_read_B2 v2) FU M (nI 0))
def f_X0_stoneOf_L66 (M : Mem) (ag8 : Int32 → Int32 → Int32 → Option Int32) (y3_8 : Int32) (y5_8 : Int32) (y6_24 : Int32) : Option Int32 :=
  gd y6_24 7 (bnd (M 40 (ix y6_24)) (fun x_2 => bnd (y3_8 ||| (shl (nI 1) y6_24)) (fun x_3 => (ag8 x_3 x_2 (y5_8 + (nI 1))))))
def f_X0_stoneOf_B24 (M : Mem) (v1 : Int32) (ag8 : Int32 → Int32 → Int32 → Option Int32) (y3_8 : Int32) (y4_8 : Int32) (y5_8 : Int32) (ag24 : Int32 → Option Int32) (y6_24 : Int32) : Option Int32 :=
  (if v1.toInt ≤ y6_24.toInt then (ag8 y3_8 y4_8 (y5_8 + (nI 1)))
   else (if 7 ≤ y6_24.toInt then (ag8 y3_8 y4_8 (y5_8 + (nI 1)))
   else (if y3_8.toInt < 0 then (ag24 (y6_24 + (nI 1)))
   else (if 128 ≤ y3_8.toInt then (ag24 (y6_24 + (nI 1)))
   else (f_X0_wayWith M y3_8 y5_8 y6_24).bind (fun r_1 => gd y3_8 128 ((if r_1.toInt = (M 42 (ix y3_8)).toInt then (f_X0_stoneOf_L66 M ag8 y3_8 y5_8 y6_24)
   else (ag24 (y6_24 + (nI 1))))))))))
def f_X0_stoneOf_B8 (M : Mem) (v1 : Int32) (v2 : Int32) (ag8 : Int32 → Int32 → Int32 → Option Int32) (y3_8 : Int32) (y4_8 : Int32) (y5_8 : Int32) : Option Int32 :=
  (if v2.toInt < y5_8.toInt then some y4_8
   else (if 7 ≤ y5_8.toInt then some y4_8
   else (wlp1 (f_X0_stoneOf_B24 M v1 ag8 y3_8 y4_8 y5_8) FU (nI 0))))
def f_X0_stoneOf (M : Mem) (v1 : Int32) (v2 : Int32) : Option Int32 :=
  (wlp3 (f_X0_stoneOf_B8 M v1 v2) FU (nI 0) (-1) (nI 0))
def f_X0_wayInAll (M : Mem) : Option Int32 :=
  some (M 42 0)
def f_X1_reach (M : Mem) (v1 : Int32) (v2 : Int32) : Option Mem :=
  (if v1.toInt < 0 then some M
   else (if 80 ≤ v1.toInt then some M
   else (if (M 30 3).toInt < 0 then some M
   else (if 80 ≤ (M 30 3).toInt then some M
   else gd v1 80 ((if (M 32 (ix v1)).toInt = -1 then gd v1 80 (bnd (mset M 32 (ix v1) v2) (fun M_1 => gd (M_1 30 3) 80 (bnd (mset M_1 33 (ix (M_1 30 3)) v1) (fun M_2 => bnd (mset M_2 30 3 ((M_2 30 3) + (nI 1))) (fun M_3 => some M_3)))))
   else some M))))))
def f_X1_comeOn (M : Mem) (v1 : Int32) : Option Mem :=
  (if v1.toInt < 0 then some M
   else (if v1.toInt < 40 then gd v1 40 ((if (M 31 (ix v1)).toInt = -1 then (f_X1_reach M (v1 + (nI 40)) v1).bind (fun M_2 => some M_2)
   else gd v1 40 ((if 40 ≤ (M 31 (ix v1)).toInt then some M
   else gd v1 40 ((f_X1_reach M ((M 31 (ix v1)) + (nI 40)) v1).bind (fun M_1 => some M_1))))))
   else some M))
def f_X2_isDry (b : Nat) (M : Mem) (v1 : Int32) : Option Int32 :=
  (if v1.toInt < 0 then some (nI 0)
   else (if 40 ≤ v1.toInt then some (nI 0)
   else gd v1 40 ((if (M (b + 4) (ix v1)).toInt = 0 then some (nI 0)
   else gd v1 40 ((if (M (b + 5) (ix v1)).toInt = 0 then some (nI 1)
   else some (nI 0)))))))
def f_X2_canStand (b : Nat) (M : Mem) (v1 : Int32) : Option Int32 :=
  (if v1.toInt = 40 then some (nI 1)
   else (if v1.toInt = 41 then some (nI 1)
   else (f_X2_isDry b M v1).bind (fun r_1 => (if r_1.toInt = 0 then some (nI 0)
   else some (nI 1)))))
def f_X2_heightOf (b : Nat) (M : Mem) (v1 : Int32) : Option Int32 :=
  (if v1.toInt = 41 then some (nI 21)
   else (if v1.toInt < 0 then some (nI 0)
   else (if 40 ≤ v1.toInt then some (nI 0)
   else gd v1 40 (some (M (b + 2) (ix v1))))))
def f_X2_isStepFrom_L22 (b : Nat) (M : Mem) (v1 : Int32) (v3 : Int32) (v4 : Int32) (t0_22 : Int32) : Option Int32 :=
  (f_X2_heightOf b M v1).bind (fun r_1 => bnd (r_1 - v3) (fun x_2 => (if (v4 * v4).toInt < ((t0_22 * t0_22) + (x_2 * x_2)).toInt then some (nI 0)
   else some (nI 1))))
def f_X2_isStepFrom_L21 (b : Nat) (M : Mem) (v1 : Int32) (v3 : Int32) (v4 : Int32) : Option Int32 :=
  (f_X2_isStepFrom_L22 b M v1 v3 v4 (nI 0))
def f_X2_isStepFrom (b : Nat) (M : Mem) (v1 : Int32) (v2 : Int32) (v3 : Int32) (v4 : Int32) : Option Int32 :=
  (if v1.toInt < 0 then (f_X2_isStepFrom_L21 b M v1 v3 v4)
   else (if 40 ≤ v1.toInt then (f_X2_isStepFrom_L21 b M v1 v3 v4)
   else gd v1 40 ((f_X2_isStepFrom_L22 b M v1 v3 v4 ((M (b + 1) (ix v1)) - v2)))))
def f_X2_isStep_L72 (b : Nat) (M : Mem) (v1 : Int32) (v2 : Int32) (v3 : Int32) : Option Int32 :=
  (f_X2_heightOf b M v1).bind (fun r_2 => (f_X2_heightOf b M v2).bind (fun r_3 => (if v3.toInt < (ab (r_2 - r_3)).toInt then some (nI 0)
   else some (nI 1))))
def f_X2_isStep_L60 (b : Nat) (M : Mem) (v1 : Int32) (v2 : Int32) (v3 : Int32) : Option Int32 :=
  (if v2.toInt = 40 then (f_X2_isStep_L72 b M v1 v2 v3)
   else (if v2.toInt = 41 then (f_X2_isStep_L72 b M v1 v2 v3)
   else some (nI 0)))
def f_X2_isStep (b : Nat) (M : Mem) (v1 : Int32) (v2 : Int32) (v3 : Int32) : Option Int32 :=
  (if v1.toInt = v2.toInt then some (nI 0)
   else (f_X2_canStand b M v1).bind (fun r_1 => (if r_1.toInt = 0 then some (nI 0)
   else (if v2.toInt < 0 then (f_X2_isStep_L60 b M v1 v2 v3)
   else (if 40 ≤ v2.toInt then (f_X2_isStep_L60 b M v1 v2 v3)
   else (f_X2_isDry b M v2).bind (fun r_4 => (if r_4.toInt = 0 then some (nI 0)
   else gd v2 40 (gd v2 40 ((f_X2_isStepFrom b M v1 (M (b + 1) (ix v2)) (M (b + 2) (ix v2)) v3).bind (fun r_5 => (if r_5.toInt = 0 then some (nI 0)
   else some (nI 1))))))))))))
def f_X1_leave_L62 (v3 : Int32) (M28 : Mem) : Option (Int32 × Mem) :=
  (f_X1_reach M28 v3 (v3 + (nI 40))).bind (fun M_2 => some ((nI 0), M_2))
def f_X1_leave_B28 (b : Nat) (v2 : Int32) (v3 : Int32) (ag28 : Mem → Int32 → Option (Int32 × Mem)) (M28 : Mem) (y4_28 : Int32) : Option (Int32 × Mem) :=
  (if 40 ≤ y4_28.toInt then (f_X1_leave_L62 v3 M28)
   else (f_X2_isStep b M28 v3 y4_28 v2).bind (fun r_3 => (if r_3.toInt = 0 then (ag28 M28 (y4_28 + (nI 1)))
   else (f_X1_reach M28 y4_28 (v3 + (nI 40))).bind (fun M_4 => (ag28 M_4 (y4_28 + (nI 1)))))))
def f_X1_leave (b : Nat) (M : Mem) (v2 : Int32) (v3 : Int32) : Option (Int32 × Mem) :=
  (if v3.toInt < 0 then some ((nI 0), M)
   else (if v3.toInt < 40 then (f_X2_isStep b M v3 (nI 41) v2).bind (fun r_1 => (if r_1.toInt = 0 then (wlp2 (f_X1_leave_B28 b v2 v3) FU M (nI 0))
   else some ((nI 1), M)))
   else some ((nI 0), M)))
def f_X1_search_B47 (b : Nat) (v2 : Int32) (ag47 : Mem → Int32 → Option (Int32 × Mem)) (M47 : Mem) (y3_47 : Int32) : Option (Int32 × Mem) :=
  (if (M47 30 3).toInt ≤ y3_47.toInt then some ((-1), M47)
   else (if 80 ≤ y3_47.toInt then some ((-1), M47)
   else gd y3_47 80 (bnd (M47 33 (ix y3_47)) (fun x_3 => (if 40 ≤ x_3.toInt then cb (f_X1_leave b M47 v2 (x_3 - (nI 40))) (fun r_4 M_5 => (if r_4.toInt = 0 then (ag47 M_5 (y3_47 + (nI 1)))
   else some (x_3, M_5)))
   else (f_X1_comeOn M47 x_3).bind (fun M_6 => (ag47 M_6 (y3_47 + (nI 1)))))))))
def f_X1_search_L45 (b : Nat) (v2 : Int32) (M15 : Mem) : Option (Int32 × Mem) :=
  (wlp2 (f_X1_search_B47 b v2) FU M15 (nI 0))
def f_X1_search_B15 (b : Nat) (v2 : Int32) (ag15 : Mem → Int32 → Option (Int32 × Mem)) (M15 : Mem) (y3_15 : Int32) : Option (Int32 × Mem) :=
  (if 40 ≤ y3_15.toInt then (f_X1_search_L45 b v2 M15)
   else (f_X2_isStep b M15 (nI 40) y3_15 v2).bind (fun r_7 => (if r_7.toInt = 0 then (ag15 M15 (y3_15 + (nI 1)))
   else (f_X1_reach M15 y3_15 (-2)).bind (fun M_8 => (ag15 M_8 (y3_15 + (nI 1)))))))
def f_X1_search (b : Nat) (M : Mem) (v2 : Int32) : Option (Int32 × Mem) :=
  (f_J7_fill_53178 32 80 M (-1)).bind (fun M_1 => bnd (mset M_1 30 3 (nI 0)) (fun M_2 => (wlp2 (f_X1_search_B15 b v2) FU M_2 (nI 0))))
def f_X1_join_L25 (M : Mem) (v2 : Int32) (t0_25 : Int32) : Option Mem :=
  gd v2 40 (bnd (mset M 31 (ix v2) t0_25) (fun M_1 => some M_1))
def f_X1_join (M : Mem) (v1 : Int32) (v2 : Int32) : Option Mem :=
  (if v2.toInt < 0 then some M
   else (if 40 ≤ v2.toInt then some M
   else (if v2.toInt = v1.toInt then (f_X1_join_L25 M v2 (-1))
   else (f_X1_join_L25 M v2 v1))))
def f_X1_weave_L62 (ag8 : Mem → Int32 → Int32 → Int32 → Option Mem) (y2_8 : Int32) (y4_8 : Int32) (N62 : Mem) : Option Mem :=
  gd y2_8 80 (bnd (N62 32 (ix y2_8)) (fun x_1 => (ag8 N62 x_1 y2_8 (y4_8 + (nI 1)))))
def f_X1_weave_B8  (ag8 : Mem → Int32 → Int32 → Int32 → Option Mem) (M8 : Mem) (y2_8 : Int32) (y3_8 : Int32) (y4_8 : Int32) : Option Mem :=
  (if 80 < y4_8.toInt then some M8
   else (if y2_8.toInt < 0 then some M8
   else (if 80 ≤ y2_8.toInt then some M8
   else (if y2_8.toInt < 40 then gd y2_8 80 ((if (M8 32 (ix y2_8)).toInt = -2 then gd y2_8 40 (bnd (mset M8 31 (ix y2_8) (nI 40)) (fun M_2 => (f_X1_weave_L62 ag8 y2_8 y4_8 M_2)))
   else (f_X1_weave_L62 ag8 y2_8 y4_8 M8)))
   else (f_X1_join M8 (y2_8 - (nI 40)) y3_8).bind (fun M_3 => (f_X1_weave_L62 ag8 y2_8 y4_8 M_3))))))
def f_X1_weave (M : Mem) (v1 : Int32) : Option Mem :=
  (wlp4 f_X1_weave_B8 FU M v1 (nI 41) (nI 0))
def f_X1_fewest_B10 (b : Nat) (v2 : Int32) (ag10 : Mem → Int32 → Option (Int32 × Mem)) (M10 : Mem) (y3_10 : Int32) : Option (Int32 × Mem) :=
  (if 40 ≤ y3_10.toInt then some ((nI 40), M10)
   else cb (f_X1_search b M10 v2) (fun r_2 M_3 => (if r_2.toInt = -1 then some (y3_10, M_3)
   else (f_X1_weave M_3 r_2).bind (fun M_4 => (ag10 M_4 (y3_10 + (nI 1)))))))
def f_X1_fewest (b : Nat) (M : Mem) (v2 : Int32) : Option (Int32 × Mem) :=
  (f_J7_fill_53178 31 40 M (-1)).bind (fun M_1 => (wlp2 (f_X1_fewest_B10 b v2) FU M_1 (nI 0)))
def f_X2_clearStones_B2 (b : Nat) (ag2 : Mem → Int32 → Option Mem) (M2 : Mem) (y1_2 : Int32) : Option Mem :=
  (if 40 ≤ y1_2.toInt then some M2
   else gd y1_2 40 (bnd (mset M2 (b + 4) (ix y1_2) (vp_nar .boolean (nI 0))) (fun M_1 => (ag2 M_1 (y1_2 + (nI 1))))))
def f_X2_clearStones (b : Nat) (M : Mem) : Option Mem :=
  (wlp2 (f_X2_clearStones_B2 b) FU M (nI 0))
def f_X2_copyStones_B2 (b : Nat) (b2 : Nat) (ag2 : Mem → Int32 → Option Mem) (M2 : Mem) (y2_2 : Int32) : Option Mem :=
  (if 40 ≤ y2_2.toInt then some M2
   else gd y2_2 40 (gd y2_2 40 (bnd (mset M2 (b + 1) (ix y2_2) (M2 (b2 + 1) (ix y2_2))) (fun M_1 => gd y2_2 40 (gd y2_2 40 (bnd (mset M_1 (b + 2) (ix y2_2) (M_1 (b2 + 2) (ix y2_2))) (fun M_2 => gd y2_2 40 (gd y2_2 40 (bnd (mset M_2 (b + 3) (ix y2_2) (M_2 (b2 + 3) (ix y2_2))) (fun M_3 => gd y2_2 40 (gd y2_2 40 (bnd (mset M_3 (b + 4) (ix y2_2) (vp_nar .boolean (M_3 (b2 + 4) (ix y2_2)))) (fun M_4 => gd y2_2 40 (gd y2_2 40 (bnd (mset M_4 (b + 5) (ix y2_2) (vp_nar .boolean (M_4 (b2 + 5) (ix y2_2)))) (fun M_5 => (ag2 M_5 (y2_2 + (nI 1)))))))))))))))))))
def f_X2_copyStones (b : Nat) (b2 : Nat) (M : Mem) : Option Mem :=
  (wlp2 (f_X2_copyStones_B2 b b2) FU M (nI 0))
def f_X2_copyAll (b : Nat) (b2 : Nat) (M : Mem) : Option Mem :=
  (f_X2_copyStones b b2 M).bind (fun M_1 => bnd (mset M_1 b 5 (M_1 b2 5)) (fun M_2 => bnd (mset M_2 b 6 (M_2 b2 6)) (fun M_3 => some M_3)))
def f_X2_squares (b : Nat) (M : Mem) (v1 : Int32) (v2 : Int32) : Option Int32 :=
  (f_X2_isTold b M v1).bind (fun r_1 => (if r_1.toInt = 0 then some (nI 0)
   else (f_X2_isTold b M v2).bind (fun r_2 => (if r_2.toInt = 0 then some (nI 0)
   else gd v1 40 (gd v2 40 (bnd ((M (b + 1) (ix v1)) - (M (b + 1) (ix v2))) (fun x_3 => gd v1 40 (gd v2 40 (bnd ((M (b + 2) (ix v1)) - (M (b + 2) (ix v2))) (fun x_4 => some ((x_3 * x_3) + (x_4 * x_4))))))))))))
def f_X2_countClose_B4 (b : Nat) (M : Mem) (v1 : Int32) (ag4 : Int32 → Int32 → Option Int32) (y2_4 : Int32) (y3_4 : Int32) : Option Int32 :=
  (if 40 ≤ y3_4.toInt then some y2_4
   else (if y3_4.toInt = v1.toInt then (ag4 y2_4 (y3_4 + (nI 1)))
   else gd y3_4 40 ((if (M (b + 4) (ix y3_4)).toInt = 0 then (ag4 y2_4 (y3_4 + (nI 1)))
   else (f_X2_squares b M v1 y3_4).bind (fun r_1 => (if 4 < r_1.toInt then (ag4 y2_4 (y3_4 + (nI 1)))
   else (ag4 (y2_4 + (nI 1)) (y3_4 + (nI 1)))))))))
def f_X2_countClose (b : Nat) (M : Mem) (v1 : Int32) : Option Int32 :=
  (wlp2 (f_X2_countClose_B4 b M v1) FU (nI 0) (nI 0))
def f_X2_countSunk_B4 (b : Nat) (M : Mem) (ag4 : Int32 → Int32 → Option Int32) (y1_4 : Int32) (y2_4 : Int32) : Option Int32 :=
  (if 40 ≤ y2_4.toInt then some y1_4
   else gd y2_4 40 ((if (M (b + 4) (ix y2_4)).toInt = 0 then (ag4 (y1_4 + (nI 0)) (y2_4 + (nI 1)))
   else gd y2_4 40 ((if (M (b + 5) (ix y2_4)).toInt = 0 then (ag4 (y1_4 + (nI 0)) (y2_4 + (nI 1)))
   else (ag4 (y1_4 + (nI 1)) (y2_4 + (nI 1))))))))
def f_X2_countSunk (b : Nat) (M : Mem) : Option Int32 :=
  (wlp2 (f_X2_countSunk_B4 b M) FU (nI 0) (nI 0))
def f_X2_countTold_B4 (b : Nat) (M : Mem) (ag4 : Int32 → Int32 → Option Int32) (y1_4 : Int32) (y2_4 : Int32) : Option Int32 :=
  (if 40 ≤ y2_4.toInt then some y1_4
   else gd y2_4 40 ((if (M (b + 4) (ix y2_4)).toInt = 0 then (ag4 (y1_4 + (nI 0)) (y2_4 + (nI 1)))
   else (ag4 (y1_4 + (nI 1)) (y2_4 + (nI 1))))))
def f_X2_countTold (b : Nat) (M : Mem) : Option Int32 :=
  (wlp2 (f_X2_countTold_B4 b M) FU (nI 0) (nI 0))
def f_X2_draw (b : Nat) (M : Mem) : Option (Int32 × Mem) :=
  bnd (mset M b 6 ((((nI 25173) * (M b 6)) + (nI 13849)) &&& (nI 65535))) (fun M_1 => some ((rm (M_1 b 6) (nI 10)), M_1))
def f_X2_lay (b : Nat) (M : Mem) (v1 : Int32) (v2 : Int32) (v3 : Int32) (v4 : Int32) (v5 : Int32) : Option Mem :=
  (if v1.toInt < 0 then some M
   else (if v1.toInt < 40 then gd v1 40 (bnd (mset M (b + 1) (ix v1) v2) (fun M_1 => gd v1 40 (bnd (mset M_1 (b + 2) (ix v1) v3) (fun M_2 => gd v1 40 (bnd (mset M_2 (b + 3) (ix v1) v4) (fun M_3 => gd v1 40 (bnd (mset M_3 (b + 5) (ix v1) (vp_nar .boolean v5)) (fun M_4 => gd v1 40 (bnd (mset M_4 (b + 4) (ix v1) (vp_nar .boolean (nI 1))) (fun M_5 => some M_5))))))))))
   else some M))
def f_X2_nextDry_B6 (b : Nat) (M : Mem) (ag6 : Int32 → Option Int32) (y2_6 : Int32) : Option Int32 :=
  (if 40 ≤ y2_6.toInt then some (-1)
   else (f_X2_isDry b M y2_6).bind (fun r_2 => (if r_2.toInt = 0 then (ag6 (y2_6 + (nI 1)))
   else some y2_6)))
def f_X2_nextDry (b : Nat) (M : Mem) (v1 : Int32) : Option Int32 :=
  bnd (mx v1 (nI 0)) (fun x_1 => (wlp1 (f_X2_nextDry_B6 b M) FU x_1))
def f_X2_stoneAt_B2 (b : Nat) (M : Mem) (v1 : Int32) (v2 : Int32) (ag2 : Int32 → Option Int32) (y3_2 : Int32) : Option Int32 :=
  (if 40 ≤ y3_2.toInt then some (-1)
   else gd y3_2 40 ((if (M (b + 4) (ix y3_2)).toInt = 0 then (ag2 (y3_2 + (nI 1)))
   else gd y3_2 40 ((if (M (b + 1) (ix y3_2)).toInt = v1.toInt then gd y3_2 40 ((if (M (b + 2) (ix y3_2)).toInt = v2.toInt then some y3_2
   else (ag2 (y3_2 + (nI 1)))))
   else (ag2 (y3_2 + (nI 1))))))))
def f_X2_stoneAt (b : Nat) (M : Mem) (v1 : Int32) (v2 : Int32) : Option Int32 :=
  (wlp1 (f_X2_stoneAt_B2 b M v1 v2) FU (nI 0))
def f_X2_sumOfX_B4 (b : Nat) (M : Mem) (ag4 : Int32 → Int32 → Option Int32) (y1_4 : Int32) (y2_4 : Int32) : Option Int32 :=
  (if 40 ≤ y2_4.toInt then some y1_4
   else gd y2_4 40 ((if (M (b + 4) (ix y2_4)).toInt = 0 then (ag4 (y1_4 + (nI 0)) (y2_4 + (nI 1)))
   else gd y2_4 40 (bnd (y1_4 + (M (b + 1) (ix y2_4))) (fun x_1 => (ag4 x_1 (y2_4 + (nI 1))))))))
def f_X2_sumOfX (b : Nat) (M : Mem) : Option Int32 :=
  (wlp2 (f_X2_sumOfX_B4 b M) FU (nI 0) (nI 0))
def f_X3_combine (v0 : Int32) (v1 : Int32) (v2 : Int32) : Option Int32 :=
  (if v0.toInt = 37 then (if v2.toInt = 0 then some (nI 0)
   else dz v2 (some (rm v1 v2)))
   else (if v0.toInt = 42 then some (v1 * v2)
   else (if v0.toInt = 43 then some (v1 + v2)
   else (if v0.toInt = 45 then some (v1 - v2)
   else (if v0.toInt = 47 then (if v2.toInt = 0 then some (nI 0)
   else dz v2 (some (v1 / v2)))
   else (if v0.toInt = 60 then (if v2.toInt ≤ v1.toInt then some (nI 0)
   else some (nI 1))
   else (if v0.toInt = 62 then (if v1.toInt ≤ v2.toInt then some (nI 0)
   else some (nI 1))
   else (if v1.toInt = v2.toInt then some (nI 1)
   else some (nI 0)))))))))
def f_X3_reckon_L298 (c : Nat) (M9 : Mem) (y4_9 : Int32) : Option (Int32 × Mem) :=
  (if 0 ≤ y4_9.toInt then gd y4_9 32 (some ((M9 (c + 3) (ix y4_9)), M9))
   else some ((nI 0), M9))
def f_X3_reckon_L135 (c : Nat) (ag9 : Mem → Int32 → Int32 → Int32 → Option (Int32 × Mem)) (M9 : Mem) (y4_9 : Int32) (y5_9 : Int32) (y6_9 : Int32) (t0_135 : Int32) : Option (Int32 × Mem) :=
  gd (y4_9 + (nI 1)) 32 (bnd (mset M9 (c + 3) (ix (y4_9 + (nI 1))) t0_135) (fun M_3 => (ag9 M_3 (y4_9 + (nI 1)) (y5_9 + (nI 1)) (y6_9 + (nI 1)))))
def f_X3_reckon_L110 (c : Nat) (ag9 : Mem → Int32 → Int32 → Int32 → Option (Int32 × Mem)) (M9 : Mem) (y4_9 : Int32) (y5_9 : Int32) (y6_9 : Int32) (x_1 : Int32) (x_2 : Int32) : Option (Int32 × Mem) :=
  (if x_1.toInt = 48 then (f_X3_reckon_L135 c ag9 M9 y4_9 y5_9 y6_9 x_2)
   else gd x_2 8 ((f_X3_reckon_L135 c ag9 M9 y4_9 y5_9 y6_9 (M9 22 (ix x_2)))))
def f_X3_reckon_L80 (c : Nat) (ag9 : Mem → Int32 → Int32 → Int32 → Option (Int32 × Mem)) (M9 : Mem) (y4_9 : Int32) (y5_9 : Int32) (y6_9 : Int32) (x_1 : Int32) (x_2 : Int32) : Option (Int32 × Mem) :=
  (if 32 ≤ (y4_9 + (nI 1)).toInt then some ((nI 0), M9)
   else (if x_1.toInt = 97 then (if x_2.toInt < 0 then some ((nI 0), M9)
   else (if x_2.toInt < 8 then (f_X3_reckon_L110 c ag9 M9 y4_9 y5_9 y6_9 x_1 x_2)
   else some ((nI 0), M9)))
   else (f_X3_reckon_L110 c ag9 M9 y4_9 y5_9 y6_9 x_1 x_2)))
def f_X3_reckon_L213 (ag9 : Mem → Int32 → Int32 → Int32 → Option (Int32 × Mem)) (M9 : Mem) (y4_9 : Int32) (y5_9 : Int32) (y6_9 : Int32) (x_2 : Int32) (t0_201 : Int32) (t0_213 : Int32) : Option (Int32 × Mem) :=
  (if t0_201.toInt = t0_213.toInt then (ag9 M9 y4_9 x_2 (y6_9 + (nI 1)))
   else (ag9 M9 (y4_9 + (-1)) (y5_9 + (nI 1)) (y6_9 + (nI 1))))
def f_X3_reckon_L201 (ag9 : Mem → Int32 → Int32 → Int32 → Option (Int32 × Mem)) (M9 : Mem) (y4_9 : Int32) (y5_9 : Int32) (y6_9 : Int32) (x_1 : Int32) (x_2 : Int32) (t0_201 : Int32) : Option (Int32 × Mem) :=
  (if x_1.toInt = 38 then (f_X3_reckon_L213 ag9 M9 y4_9 y5_9 y6_9 x_2 t0_201 (nI 1))
   else (f_X3_reckon_L213 ag9 M9 y4_9 y5_9 y6_9 x_2 t0_201 (nI 0)))
def f_X3_reckon_L186 (c : Nat) (ag9 : Mem → Int32 → Int32 → Int32 → Option (Int32 × Mem)) (M9 : Mem) (y4_9 : Int32) (y5_9 : Int32) (y6_9 : Int32) (x_1 : Int32) (x_2 : Int32) : Option (Int32 × Mem) :=
  gd y4_9 32 ((if (M9 (c + 3) (ix y4_9)).toInt = 0 then (f_X3_reckon_L201 ag9 M9 y4_9 y5_9 y6_9 x_1 x_2 (nI 1))
   else (f_X3_reckon_L201 ag9 M9 y4_9 y5_9 y6_9 x_1 x_2 (nI 0))))
def f_X3_reckon_L261 (c : Nat) (ag9 : Mem → Int32 → Int32 → Int32 → Option (Int32 × Mem)) (M9 : Mem) (y4_9 : Int32) (y5_9 : Int32) (y6_9 : Int32) (x_1 : Int32) : Option (Int32 × Mem) :=
  gd (y4_9 + (-1)) 32 (gd ((y4_9 + (-1)) + (nI 1)) 32 ((f_X3_combine x_1 (M9 (c + 3) (ix (y4_9 + (-1)))) (M9 (c + 3) (ix ((y4_9 + (-1)) + (nI 1))))).bind (fun r_4 => gd (y4_9 + (-1)) 32 (bnd (mset M9 (c + 3) (ix (y4_9 + (-1))) r_4) (fun M_5 => (ag9 M_5 (y4_9 + (-1)) (y5_9 + (nI 1)) (y6_9 + (nI 1))))))))
def f_X3_reckon_L249 (c : Nat) (ag9 : Mem → Int32 → Int32 → Int32 → Option (Int32 × Mem)) (M9 : Mem) (y4_9 : Int32) (y5_9 : Int32) (y6_9 : Int32) (x_1 : Int32) : Option (Int32 × Mem) :=
  gd y4_9 32 ((if (M9 (c + 3) (ix y4_9)).toInt = 0 then some ((nI 0), M9)
   else (f_X3_reckon_L261 c ag9 M9 y4_9 y5_9 y6_9 x_1)))
def f_X3_reckon_B9 (c : Nat) (v2 : Int32) (ag9 : Mem → Int32 → Int32 → Int32 → Option (Int32 × Mem)) (M9 : Mem) (y4_9 : Int32) (y5_9 : Int32) (y6_9 : Int32) : Option (Int32 × Mem) :=
  (if 240 ≤ y6_9.toInt then (f_X3_reckon_L298 c M9 y4_9)
   else (if y5_9.toInt < 0 then (f_X3_reckon_L298 c M9 y4_9)
   else (if v2.toInt ≤ y5_9.toInt then (f_X3_reckon_L298 c M9 y4_9)
   else (if (M9 c 7).toInt ≤ y5_9.toInt then (f_X3_reckon_L298 c M9 y4_9)
   else (if 240 ≤ y5_9.toInt then (f_X3_reckon_L298 c M9 y4_9)
   else gd y5_9 240 (bnd (M9 (c + 1) (ix y5_9)) (fun x_1 => gd y5_9 240 (bnd (M9 (c + 2) (ix y5_9)) (fun x_2 => (if x_1.toInt = 48 then (f_X3_reckon_L80 c ag9 M9 y4_9 y5_9 y6_9 x_1 x_2)
   else (if x_1.toInt = 97 then (f_X3_reckon_L80 c ag9 M9 y4_9 y5_9 y6_9 x_1 x_2)
   else (if 0 ≤ y4_9.toInt then (if x_1.toInt = 33 then gd y4_9 32 (gd y4_9 32 (bnd (mset M9 (c + 3) (ix y4_9) ((nI 1) - (M9 (c + 3) (ix y4_9)))) (fun M_6 => (ag9 M_6 y4_9 (y5_9 + (nI 1)) (y6_9 + (nI 1))))))
   else (if x_1.toInt = 38 then (f_X3_reckon_L186 c ag9 M9 y4_9 y5_9 y6_9 x_1 x_2)
   else (if x_1.toInt = 124 then (f_X3_reckon_L186 c ag9 M9 y4_9 y5_9 y6_9 x_1 x_2)
   else (if y4_9.toInt < 1 then some ((nI 0), M9)
   else (if x_1.toInt = 47 then (f_X3_reckon_L249 c ag9 M9 y4_9 y5_9 y6_9 x_1)
   else (if x_1.toInt = 37 then (f_X3_reckon_L249 c ag9 M9 y4_9 y5_9 y6_9 x_1)
   else (f_X3_reckon_L261 c ag9 M9 y4_9 y5_9 y6_9 x_1)))))))
   else some ((nI 0), M9)))))))))))))
def f_X3_reckon (c : Nat) (M : Mem) (v1 : Int32) (v2 : Int32) : Option (Int32 × Mem) :=
  (wlp4 (f_X3_reckon_B9 c v2) FU M (-1) v1 (nI 0))
def f_X3_doesHold (c : Nat) (M : Mem) (v1 : Int32) : Option (Int32 × Mem) :=
  (if v1.toInt < 0 then some ((nI 0), M)
   else (if 16 ≤ v1.toInt then some ((nI 0), M)
   else gd v1 16 (gd v1 16 (cb (f_X3_reckon c M (M (c + 6) (ix v1)) (M (c + 7) (ix v1))) (fun r_1 M_2 => (if r_1.toInt = 0 then some ((nI 0), M_2)
   else some ((nI 1), M_2)))))))
def f_X3_amountOf_L35 (c : Nat) (y3_2 : Int32) (M_2 : Mem) : Option (Int32 × Mem) :=
  gd y3_2 16 (gd y3_2 16 (cb (f_X3_reckon c M_2 (M_2 (c + 5) (ix y3_2)) (M_2 (c + 6) (ix y3_2))) (fun r_3 M_4 => some ((mx (nI 0) (mn (nI 9) r_3)), M_4))))
def f_X3_amountOf_B2 (c : Nat) (v1 : Int32) (ag2 : Mem → Int32 → Option (Int32 × Mem)) (M2 : Mem) (y3_2 : Int32) : Option (Int32 × Mem) :=
  (if (M2 c 8).toInt ≤ y3_2.toInt then some ((nI 0), M2)
   else (if 16 ≤ y3_2.toInt then some ((nI 0), M2)
   else gd y3_2 16 ((if (M2 (c + 4) (ix y3_2)).toInt = v1.toInt then cb (f_X3_doesHold c M2 y3_2) (fun r_1 M_2 => (if r_1.toInt = 0 then (ag2 M_2 (y3_2 + (nI 1)))
   else (f_X3_amountOf_L35 c y3_2 M_2)))
   else (ag2 M2 (y3_2 + (nI 1)))))))
def f_X3_amountOf (c : Nat) (M : Mem) (v1 : Int32) : Option (Int32 × Mem) :=
  (wlp2 (f_X3_amountOf_B2 c v1) FU M (nI 0))
def f_X7_here (M : Mem) : Option Int32 :=
  (if (M 19 3).toInt < 0 then some (-1)
   else (if (M 19 2).toInt ≤ (M 19 3).toInt then some (-1)
   else (if 260 ≤ (M 19 3).toInt then some (-1)
   else gd (M 19 3) 260 (some (M 20 (ix (M 19 3)))))))
def f_X3_isRuleLetter (v0 : Int32) : Option Int32 :=
  (if v0.toInt = 117 then some (nI 1)
   else (if v0.toInt = 100 then some (nI 1)
   else (if v0.toInt = 111 then some (nI 1)
   else (if v0.toInt = 98 then some (nI 1)
   else (if v0.toInt = 120 then some (nI 1)
   else some (nI 0))))))
def f_X7_refuse (M : Mem) (v1 : Int32) (v2 : Int32) : Option (Int32 × Mem) :=
  bnd (mset M 19 4 (((-1000) * v1) - v2)) (fun M_1 => some ((nI 0), M_1))
def f_X7_skip (M : Mem) (v1 : Int32) : Option (Int32 × Mem) :=
  (f_X7_here M).bind (fun r_1 => (if r_1.toInt = v1.toInt then bnd (mset M 19 3 ((M 19 3) + (nI 1))) (fun M_2 => some ((nI 1), M_2))
   else cb (f_X7_refuse M (nI 1) (M 19 3)) (fun r_3 M_4 => gb r_3 (some (r_3, M_4)))))
def f_X7_isDigit (v0 : Int32) : Option Int32 :=
  (if v0.toInt < 48 then some (nI 0)
   else (if 57 < v0.toInt then some (nI 0)
   else some (nI 1)))
def f_X7_number_L48 (M4 : Mem) (y2_4 : Int32) (y3_4 : Int32) : Option (Int32 × Mem) :=
  (if y3_4.toInt = 0 then cb (f_X7_refuse M4 (nI 1) (M4 19 3)) (fun r_5 M_6 => some ((-1), M_6))
   else (f_X7_here M4).bind (fun r_1 => (f_X7_isDigit r_1).bind (fun r_2 => (if r_2.toInt = 0 then some (y2_4, M4)
   else cb (f_X7_refuse M4 (nI 2) (M4 19 3)) (fun r_3 M_4 => some ((-1), M_4))))))
def f_X7_number_B4 (v1 : Int32) (ag4 : Mem → Int32 → Int32 → Option (Int32 × Mem)) (M4 : Mem) (y2_4 : Int32) (y3_4 : Int32) : Option (Int32 × Mem) :=
  (if v1.toInt ≤ y3_4.toInt then (f_X7_number_L48 M4 y2_4 y3_4)
   else (f_X7_here M4).bind (fun r_7 => (f_X7_isDigit r_7).bind (fun r_8 => (if r_8.toInt = 0 then (f_X7_number_L48 M4 y2_4 y3_4)
   else (f_X7_here M4).bind (fun r_9 => bnd ((((nI 10) * y2_4) + r_9) - (nI 48)) (fun x_10 => bnd (mset M4 19 3 ((M4 19 3) + (nI 1))) (fun M_11 => (ag4 M_11 x_10 (y3_4 + (nI 1))))))))))
def f_X7_number (M : Mem) (v1 : Int32) : Option (Int32 × Mem) :=
  (wlp3 (f_X7_number_B4 v1) FU M (nI 0) (nI 0))
def f_X3_order (c : Nat) (M : Mem) (v1 : Int32) (v2 : Int32) : Option Mem :=
  (if (M c 7).toInt < 0 then some M
   else (if 240 ≤ (M c 7).toInt then some M
   else gd (M c 7) 240 (bnd (mset M (c + 1) (ix (M c 7)) v1) (fun M_1 => gd (M_1 c 7) 240 (bnd (mset M_1 (c + 2) (ix (M_1 c 7)) v2) (fun M_2 => bnd (mset M_2 c 7 ((M_2 c 7) + (nI 1))) (fun M_3 => some M_3)))))))
def f_X5_indexOf (v0 : Int32) : Option Int32 :=
  (if v0.toInt = 101 then some (nI 4)
   else (if v0.toInt = 103 then some (nI 7)
   else (if v0.toInt = 105 then some (nI 0)
   else (if v0.toInt = 110 then some (nI 5)
   else (if v0.toInt = 114 then some (nI 6)
   else (if v0.toInt = 115 then some (nI 3)
   else (if v0.toInt = 120 then some (nI 1)
   else (if v0.toInt = 121 then some (nI 2)
   else some (-1)))))))))
def f_X3_compileSum_L124 (M8 : Mem) : Option (Int32 × Mem) :=
  cb (f_X7_refuse M8 (nI 1) (M8 19 3)) (fun r_1 M_2 => gb r_1 (some (r_1, M_2)))
def f_X3_compileSum_L108 (ag8 : Mem → Int32 → Int32 → Int32 → Option (Int32 × Mem)) (y5_8 : Int32) (t0_72 : Int32) (N108 : Mem) (z3_108 : Int32) : Option (Int32 × Mem) :=
  bnd (mset N108 19 3 ((N108 19 3) + (nI 1))) (fun M_6 => (ag8 M_6 z3_108 t0_72 (y5_8 + (nI 1))))
def f_X3_compileSum_L105 (ag8 : Mem → Int32 → Int32 → Int32 → Option (Int32 × Mem)) (y5_8 : Int32) (r_5 : Int32) (t0_72 : Int32) (N89 : Mem) : Option (Int32 × Mem) :=
  (f_X3_compileSum_L108 ag8 y5_8 t0_72 N89 r_5)
def f_X3_compileSum_L89 (ag8 : Mem → Int32 → Int32 → Int32 → Option (Int32 × Mem)) (y5_8 : Int32) (r_5 : Int32) (t0_72 : Int32) (N89 : Mem) : Option (Int32 × Mem) :=
  (if r_5.toInt = 43 then (f_X3_compileSum_L105 ag8 y5_8 r_5 t0_72 N89)
   else (if r_5.toInt = 45 then (f_X3_compileSum_L105 ag8 y5_8 r_5 t0_72 N89)
   else some ((nI 1), N89)))
def f_X3_compileSum_L72 (c : Nat) (ag8 : Mem → Int32 → Int32 → Int32 → Option (Int32 × Mem)) (y3_8 : Int32) (y5_8 : Int32) (N39 : Mem) (r_5 : Int32) (t0_72 : Int32) : Option (Int32 × Mem) :=
  (if t0_72.toInt = 0 then (if y3_8.toInt = 0 then (f_X3_compileSum_L89 ag8 y5_8 r_5 t0_72 N39)
   else (f_X3_order c N39 y3_8 (nI 0)).bind (fun M_7 => (f_X3_compileSum_L89 ag8 y5_8 r_5 t0_72 M_7)))
   else (f_X3_compileSum_L108 ag8 y5_8 t0_72 N39 y3_8))
def f_X3_compileSum_L66 (c : Nat) (ag8 : Mem → Int32 → Int32 → Int32 → Option (Int32 × Mem)) (y3_8 : Int32) (y5_8 : Int32) (N39 : Mem) (r_5 : Int32) : Option (Int32 × Mem) :=
  (f_X3_compileSum_L72 c ag8 y3_8 y5_8 N39 r_5 r_5)
def f_X3_compileSum_L39 (c : Nat) (ag8 : Mem → Int32 → Int32 → Int32 → Option (Int32 × Mem)) (y3_8 : Int32) (y5_8 : Int32) (N39 : Mem) : Option (Int32 × Mem) :=
  (f_X7_here N39).bind (fun r_5 => (if r_5.toInt = 42 then (f_X3_compileSum_L66 c ag8 y3_8 y5_8 N39 r_5)
   else (if r_5.toInt = 47 then (f_X3_compileSum_L66 c ag8 y3_8 y5_8 N39 r_5)
   else (if r_5.toInt = 37 then (f_X3_compileSum_L66 c ag8 y3_8 y5_8 N39 r_5)
   else (f_X3_compileSum_L72 c ag8 y3_8 y5_8 N39 r_5 (nI 0))))))
def f_X3_compileSum_B8 (S_X3_compileFactor : Mem → Int32 → Option (Int32 × Mem)) (c : Nat) (v2 : Int32) (ag8 : Mem → Int32 → Int32 → Int32 → Option (Int32 × Mem)) (M8 : Mem) (y3_8 : Int32) (y4_8 : Int32) (y5_8 : Int32) : Option (Int32 × Mem) :=
  (if 240 ≤ y5_8.toInt then (f_X3_compileSum_L124 M8)
   else cb (S_X3_compileFactor M8 v2) (fun r_3 M_4 => (if r_3.toInt = 0 then some ((nI 0), M_4)
   else (if y4_8.toInt = 0 then (f_X3_compileSum_L39 c ag8 y3_8 y5_8 M_4)
   else (f_X3_order c M_4 y4_8 (nI 0)).bind (fun M_8 => (f_X3_compileSum_L39 c ag8 y3_8 y5_8 M_8))))))
def f_X3_compileSum (S_X3_compileFactor : Mem → Int32 → Option (Int32 × Mem)) (c : Nat) (M : Mem) (v2 : Int32) : Option (Int32 × Mem) :=
  (wlp4 (f_X3_compileSum_B8 S_X3_compileFactor c v2) FU M (nI 0) (nI 0) (nI 0))
def f_X3_compileFactor_L135 (c : Nat) (M : Mem) (r_3 : Int32) (t0_135 : Int32) : Option (Int32 × Mem) :=
  gb ((M c 9) ||| t0_135) (bnd (mset M c 9 ((M c 9) ||| t0_135)) (fun M_4 => bnd (mset M_4 19 3 ((M_4 19 3) + (nI 1))) (fun M_5 => (f_X3_order c M_5 (nI 97) r_3).bind (fun M_6 => some ((nI 1), M_6)))))
def f_X3_compileFactor (S_X3_compileSum : Mem → Int32 → Option (Int32 × Mem)) (c : Nat) (M : Mem) (v2 : Int32) : Option (Int32 × Mem) :=
  (f_X7_here M).bind (fun r_1 => (if r_1.toInt = 91 then (if v2.toInt < 6 then bnd (mset M 19 3 ((M 19 3) + (nI 1))) (fun M_12 => cb (S_X3_compileSum M_12 (v2 + (nI 1))) (fun r_13 M_14 => (if r_13.toInt = 0 then some ((nI 0), M_14)
   else cb (f_X7_skip M_14 (nI 93)) (fun r_15 M_16 => (if r_15.toInt = 0 then some ((nI 0), M_16)
   else some ((nI 1), M_16))))))
   else cb (f_X7_refuse M (nI 5) (M 19 3)) (fun r_17 M_18 => gb r_17 (some (r_17, M_18))))
   else (f_X7_isDigit r_1).bind (fun r_2 => (if r_2.toInt = 0 then (f_X5_indexOf r_1).bind (fun r_3 => (if r_3.toInt = -1 then cb (f_X7_refuse M (nI 1) (M 19 3)) (fun r_7 M_8 => gb r_7 (some (r_7, M_8)))
   else (if r_3.toInt = 5 then (f_X3_compileFactor_L135 c M r_3 (nI 1))
   else (f_X3_compileFactor_L135 c M r_3 (nI 0)))))
   else cb (f_X7_number M (nI 5)) (fun r_9 M_10 => (f_X3_order c M_10 (nI 48) r_9).bind (fun M_11 => (if r_9.toInt = -1 then some ((nI 0), M_11)
   else some ((nI 1), M_11))))))))
def g_sum (c : Nat) : Nat → Mem → Int32 → Option (Int32 × Mem)
  | 0 => fun _ _ => none
  | n + 1 => fun M v => f_X3_compileSum (f_X3_compileFactor (g_sum c n) c) c M v
def g_factor (c : Nat) (n : Nat) (M : Mem) (v : Int32) : Option (Int32 × Mem) := f_X3_compileFactor (g_sum c n) c M v
def f_X3_landHere (c : Nat) (M : Mem) (v1 : Int32) : Option Mem :=
  (if v1.toInt < 0 then some M
   else (if (M c 7).toInt ≤ v1.toInt then some M
   else (if 240 ≤ v1.toInt then some M
   else gd v1 240 (bnd (mset M (c + 2) (ix v1) (M c 7)) (fun M_1 => some M_1)))))
def f_X3_compileChoice_L99 (M8 : Mem) : Option (Int32 × Mem) :=
  cb (f_X7_refuse M8 (nI 1) (M8 19 3)) (fun r_1 M_2 => gb r_1 (some (r_1, M_2)))
def f_X3_compileChoice_L76 (c : Nat) (ag8 : Mem → Int32 → Int32 → Int32 → Option (Int32 × Mem)) (y5_8 : Int32) (r_6 : Int32) (N76 : Mem) (z3_76 : Int32) (z4_76 : Int32) : Option (Int32 × Mem) :=
  (f_X3_order c N76 r_6 (nI 0)).bind (fun M_7 => bnd (mset M_7 19 3 ((M_7 19 3) + (nI 1))) (fun M_8 => (ag8 M_8 z3_76 z4_76 (y5_8 + (nI 1)))))
def f_X3_compileChoice_B8 (S_X3_compileTest : Mem → Int32 → Option (Int32 × Mem)) (c : Nat) (v2 : Int32) (ag8 : Mem → Int32 → Int32 → Int32 → Option (Int32 × Mem)) (M8 : Mem) (y3_8 : Int32) (y4_8 : Int32) (y5_8 : Int32) : Option (Int32 × Mem) :=
  (if 240 ≤ y5_8.toInt then (f_X3_compileChoice_L99 M8)
   else cb (S_X3_compileTest M8 v2) (fun r_3 M_4 => (if r_3.toInt = 0 then some ((nI 0), M_4)
   else (f_X3_landHere c M_4 y3_8).bind (fun M_5 => (f_X7_here M_5).bind (fun r_6 => (if r_6.toInt = 38 then bnd (M_5 c 7) (fun x_11 => (f_X3_compileChoice_L76 c ag8 y5_8 r_6 M_5 x_11 y4_8))
   else (f_X3_landHere c M_5 y4_8).bind (fun M_9 => bnd (M_9 c 7) (fun x_10 => (if r_6.toInt = 124 then (f_X3_compileChoice_L76 c ag8 y5_8 r_6 M_9 (-1) x_10)
   else some ((nI 1), M_9))))))))))
def f_X3_compileChoice (S_X3_compileTest : Mem → Int32 → Option (Int32 × Mem)) (c : Nat) (M : Mem) (v2 : Int32) : Option (Int32 × Mem) :=
  (wlp4 (f_X3_compileChoice_B8 S_X3_compileTest c v2) FU M (-1) (-1) (nI 0))
def f_X3_compileTest_L17 (S_X3_compileTest : Mem → Int32 → Option (Int32 × Mem)) (S_X3_compileChoice : Mem → Int32 → Option (Int32 × Mem)) (c : Nat) (M : Mem) (v2 : Int32) (r_1 : Int32) : Option (Int32 × Mem) :=
  (if v2.toInt < 6 then bnd (mset M 19 3 ((M 19 3) + (nI 1))) (fun M_2 => (if r_1.toInt = 40 then cb (S_X3_compileChoice M_2 (v2 + (nI 1))) (fun r_6 M_7 => (if r_6.toInt = 0 then some ((nI 0), M_7)
   else cb (f_X7_skip M_7 (nI 41)) (fun r_8 M_9 => (if r_8.toInt = 0 then some ((nI 0), M_9)
   else some ((nI 1), M_9)))))
   else cb (S_X3_compileTest M_2 (v2 + (nI 1))) (fun r_3 M_4 => (if r_3.toInt = 0 then some ((nI 0), M_4)
   else (f_X3_order c M_4 (nI 33) (nI 0)).bind (fun M_5 => some ((nI 1), M_5))))))
   else cb (f_X7_refuse M (nI 5) (M 19 3)) (fun r_10 M_11 => gb r_10 (some (r_10, M_11))))
def f_X3_compileTest_L145 (c : Nat) (v2 : Int32) (M_13 : Mem) (r_14 : Int32) : Option (Int32 × Mem) :=
  bnd (mset M_13 19 3 ((M_13 19 3) + (nI 1))) (fun M_15 => cb (g_sum c 8 M_15 v2) (fun r_16 M_17 => (if r_16.toInt = 0 then some ((nI 0), M_17)
   else (f_X3_order c M_17 r_14 (nI 0)).bind (fun M_18 => some ((nI 1), M_18)))))
def f_X3_compileTest (S_X3_compileTest : Mem → Int32 → Option (Int32 × Mem)) (S_X3_compileChoice : Mem → Int32 → Option (Int32 × Mem)) (c : Nat) (M : Mem) (v2 : Int32) : Option (Int32 × Mem) :=
  (f_X7_here M).bind (fun r_1 => (if r_1.toInt = 33 then (f_X3_compileTest_L17 S_X3_compileTest S_X3_compileChoice c M v2 r_1)
   else (if r_1.toInt = 40 then (f_X3_compileTest_L17 S_X3_compileTest S_X3_compileChoice c M v2 r_1)
   else cb (g_sum c 8 M v2) (fun r_12 M_13 => (if r_12.toInt = 0 then some ((nI 0), M_13)
   else (f_X7_here M_13).bind (fun r_14 => (if r_14.toInt = 60 then (f_X3_compileTest_L145 c v2 M_13 r_14)
   else (if r_14.toInt = 62 then (f_X3_compileTest_L145 c v2 M_13 r_14)
   else (if r_14.toInt = 61 then (f_X3_compileTest_L145 c v2 M_13 r_14)
   else cb (f_X7_refuse M_13 (nI 1) (M_13 19 3)) (fun r_19 M_20 => gb r_19 (some (r_19, M_20))))))))))))
def g_test (c : Nat) : Nat → Mem → Int32 → Option (Int32 × Mem)
  | 0 => fun _ _ => none
  | n + 1 => fun M v => f_X3_compileTest (g_test c n) (f_X3_compileChoice (g_test c n) c) c M v
def g_choice (c : Nat) (n : Nat) (M : Mem) (v : Int32) : Option (Int32 × Mem) := f_X3_compileChoice (g_test c n) c M v
def f_X3_compile_L35 (M17 : Mem) : Option (Int32 × Mem) :=
  cb (f_X7_refuse M17 (nI 1) (M17 19 3)) (fun r_6 M_7 => some ((M_7 19 4), M_7))
def f_X3_compile_L56 (M17 : Mem) : Option (Int32 × Mem) :=
  cb (f_X7_refuse M17 (nI 4) (M17 19 3)) (fun r_8 M_9 => some ((M_9 19 4), M_9))
def f_X3_compile_L118 (c : Nat) (ag17 : Mem → Int32 → Option (Int32 × Mem)) (y2_17 : Int32) (N118 : Mem) : Option (Int32 × Mem) :=
  gd y2_17 16 (bnd (mset N118 (c + 6) (ix y2_17) (N118 c 7)) (fun M_13 => cb (f_X7_skip M_13 (nI 40)) (fun r_14 M_15 => (if r_14.toInt = 0 then some ((M_15 19 4), M_15)
   else cb (g_choice c 8 M_15 (nI 1)) (fun r_16 M_17 => (if r_16.toInt = 0 then some ((M_17 19 4), M_17)
   else cb (f_X7_skip M_17 (nI 41)) (fun r_18 M_19 => (if r_18.toInt = 0 then some ((M_19 19 4), M_19)
   else gd y2_17 16 (bnd (mset M_19 (c + 7) (ix y2_17) (M_19 c 7)) (fun M_20 => bnd (mset M_20 c 8 (y2_17 + (nI 1))) (fun M_21 => (f_X7_here M_21).bind (fun r_22 => (if r_22.toInt = -1 then some ((M_21 c 8), M_21)
   else cb (f_X7_skip M_21 (nI 59)) (fun r_23 M_24 => (if r_23.toInt = 0 then some ((M_24 19 4), M_24)
   else (ag17 M_24 (y2_17 + (nI 1))))))))))))))))))
def f_X3_compile_B17 (c : Nat) (ag17 : Mem → Int32 → Option (Int32 × Mem)) (M17 : Mem) (y2_17 : Int32) : Option (Int32 × Mem) :=
  (if 16 < y2_17.toInt then some ((M17 19 4), M17)
   else (f_X7_here M17).bind (fun r_4 => (f_X3_isRuleLetter r_4).bind (fun r_5 => (if r_5.toInt = 0 then (f_X3_compile_L35 M17)
   else (if y2_17.toInt = 16 then (f_X3_compile_L56 M17)
   else bnd (mset M17 19 3 ((M17 19 3) + (nI 1))) (fun M_10 => gd y2_17 16 (bnd (mset M_10 (c + 4) (ix y2_17) r_4) (fun M_11 => gd y2_17 16 (bnd (mset M_11 (c + 5) (ix y2_17) (M_11 c 7)) (fun M_12 => (if r_4.toInt = 120 then (f_X3_compile_L118 c ag17 y2_17 M_12)
   else cb (g_sum c 8 M_12 (nI 0)) (fun r_25 M_26 => (if r_25.toInt = 0 then some ((M_26 19 4), M_26)
   else (f_X3_compile_L118 c ag17 y2_17 M_26))))))))))))))
def f_X3_compile (c : Nat) (M : Mem) : Option (Int32 × Mem) :=
  bnd (mset M c 7 (nI 0)) (fun M_1 => bnd (mset M_1 c 8 (nI 0)) (fun M_2 => bnd (mset M_2 c 9 (nI 0)) (fun M_3 => (wlp2 (f_X3_compile_B17 c) FU M_3 (nI 0)))))
def f_X3_doesSink_B2 (c : Nat) (ag2 : Mem → Int32 → Option (Int32 × Mem)) (M2 : Mem) (y2_2 : Int32) : Option (Int32 × Mem) :=
  (if (M2 c 8).toInt ≤ y2_2.toInt then some ((nI 0), M2)
   else (if 16 ≤ y2_2.toInt then some ((nI 0), M2)
   else gd y2_2 16 ((if (M2 (c + 4) (ix y2_2)).toInt = 120 then cb (f_X3_doesHold c M2 y2_2) (fun r_1 M_2 => (if r_1.toInt = 0 then (ag2 M_2 (y2_2 + (nI 1)))
   else some ((nI 1), M_2)))
   else (ag2 M2 (y2_2 + (nI 1)))))))
def f_X3_doesSink (c : Nat) (M : Mem) : Option (Int32 × Mem) :=
  (wlp2 (f_X3_doesSink_B2 c) FU M (nI 0))
def f_X4_isFooting_L10 (v1 : Int32) : Option Int32 :=
  (if v1.toInt < 0 then some (nI 0)
   else (if 39 < v1.toInt then some (nI 0)
   else some (nI 1)))
def f_X4_isFooting (b : Nat) (M : Mem) (v1 : Int32) (v2 : Int32) : Option Int32 :=
  (if v2.toInt = 0 then (f_X4_isFooting_L10 v1)
   else (if v2.toInt = 21 then (f_X4_isFooting_L10 v1)
   else (f_X2_stoneAt b M v1 v2).bind (fun r_1 => (f_X2_isDry b M r_1).bind (fun r_2 => gb r_2 (some r_2)))))
def f_X4_go_L122 (b : Nat) (ag18 : Mem → Int32 → Option Mem) (M18 : Mem) (y4_18 : Int32) (x_4 : Int32) (x_5 : Int32) (t0_122 : Int32) : Option Mem :=
  (if t0_122.toInt = 0 then some M18
   else (f_X4_isFooting b M18 x_4 x_5).bind (fun r_6 => (if r_6.toInt = 0 then some M18
   else bnd (mset M18 34 4 x_4) (fun M_7 => bnd (mset M_7 34 5 x_5) (fun M_8 => bnd (mset M_8 34 3 ((M_8 34 3) + (nI 1))) (fun M_9 => (ag18 M_9 (y4_18 + (nI 1)))))))))
def f_X4_go_B18 (b : Nat) (v2 : Int32) (ag18 : Mem → Int32 → Option Mem) (M18 : Mem) (y4_18 : Int32) : Option Mem :=
  (if (M18 34 2).toInt ≤ y4_18.toInt then some M18
   else (if 60 ≤ y4_18.toInt then some M18
   else (if 21 ≤ (M18 34 5).toInt then some M18
   else gd y4_18 60 (bnd ((M18 34 4) + (M18 35 (ix y4_18))) (fun x_4 => gd y4_18 60 (bnd (mx (nI 0) (mn (nI 21) ((M18 34 5) + (M18 36 (ix y4_18))))) (fun x_5 => gd y4_18 60 (gd y4_18 60 (gd y4_18 60 (gd y4_18 60 ((if (v2 * v2).toInt < (((M18 35 (ix y4_18)) * (M18 35 (ix y4_18))) + ((M18 36 (ix y4_18)) * (M18 36 (ix y4_18)))).toInt then (f_X4_go_L122 b ag18 M18 y4_18 x_4 x_5 (nI 0))
   else (f_X4_go_L122 b ag18 M18 y4_18 x_4 x_5 (nI 1))))))))))))))
def f_X4_go (b : Nat) (M : Mem) (v2 : Int32) (v3 : Int32) : Option Mem :=
  bnd (mset M 34 3 (nI 0)) (fun M_1 => bnd (mset M_1 34 4 v3) (fun M_2 => bnd (mset M_2 34 5 (nI 0)) (fun M_3 => (wlp2 (f_X4_go_B18 b v2) FU M_3 (nI 0)))))
def f_X4_isHop (v0 : Int32) : Option Int32 :=
  (if v0.toInt = 117 then some (nI 1)
   else (if v0.toInt = 100 then some (nI 1)
   else (if v0.toInt = 111 then some (nI 1)
   else (if v0.toInt = 98 then some (nI 1)
   else some (nI 0)))))
def f_X4_repeat_B40 (x_1 : Int32) (x_2 : Int32) (ag40 : Mem → Int32 → Option (Int32 × Mem)) (M40 : Mem) (y5_40 : Int32) : Option (Int32 × Mem) :=
  (if x_2.toInt ≤ y5_40.toInt then bnd (mset M40 34 2 x_2) (fun M_4 => some ((nI 1), M_4))
   else gd (y5_40 - x_1) 60 (gd y5_40 60 (bnd (mset M40 35 (ix y5_40) (M40 35 (ix (y5_40 - x_1)))) (fun M_5 => gd (y5_40 - x_1) 60 (gd y5_40 60 (bnd (mset M_5 36 (ix y5_40) (M_5 36 (ix (y5_40 - x_1)))) (fun M_6 => (ag40 M_6 (y5_40 + (nI 1))))))))))
def f_X4_repeat (M : Mem) (v1 : Int32) (v2 : Int32) : Option (Int32 × Mem) :=
  bnd ((M 34 2) - v1) (fun x_1 => bnd ((M 34 2) + (x_1 * v2)) (fun x_2 => (if v1.toInt < 0 then some ((nI 0), M)
   else (if x_1.toInt < 0 then some ((nI 0), M)
   else (if x_2.toInt ≤ 60 then bnd (M 34 2) (fun x_3 => (wlp2 (f_X4_repeat_B40 x_1 x_2) FU M x_3))
   else some ((nI 0), M))))))
def f_X4_readHops_L172 (x_1 : Int32) (M13 : Mem) : Option (Int32 × Mem) :=
  cb (f_X7_refuse M13 (nI 6) x_1) (fun r_2 M_3 => gb r_2 (some (r_2, M_3)))
def f_X4_readHops_L141 (x_1 : Int32) (M13 : Mem) (y3_13 : Int32) (y4_13 : Int32) : Option (Int32 × Mem) :=
  (if (M13 19 3).toInt = x_1.toInt then cb (f_X7_refuse M13 (nI 1) x_1) (fun r_7 M_8 => gb r_7 (some (r_7, M_8)))
   else (if (M13 34 2).toInt < 0 then (f_X4_readHops_L172 x_1 M13)
   else (if (M13 34 2).toInt < 60 then gd (M13 34 2) 60 (bnd (mset M13 35 (ix (M13 34 2)) y3_13) (fun M_4 => gd (M_4 34 2) 60 (bnd (mset M_4 36 (ix (M_4 34 2)) y4_13) (fun M_5 => bnd (mset M_5 34 2 ((M_5 34 2) + (nI 1))) (fun M_6 => some ((nI 1), M_6))))))
   else (f_X4_readHops_L172 x_1 M13))))
def f_X4_readHops_L102 (ag13 : Mem → Int32 → Int32 → Int32 → Option (Int32 × Mem)) (y3_13 : Int32) (y4_13 : Int32) (y5_13 : Int32) (r_11 : Int32) (N65 : Mem) (t0_65 : Int32) (t0_102 : Int32) : Option (Int32 × Mem) :=
  bnd (y3_13 + t0_102) (fun x_15 => (if r_11.toInt = 111 then bnd (y4_13 + t0_65) (fun x_17 => (ag13 N65 x_15 x_17 (y5_13 + (nI 1))))
   else (if r_11.toInt = 98 then bnd (y4_13 + (-t0_65)) (fun x_16 => (ag13 N65 x_15 x_16 (y5_13 + (nI 1))))
   else (ag13 N65 x_15 (y4_13 + (nI 0)) (y5_13 + (nI 1))))))
def f_X4_readHops_L65 (ag13 : Mem → Int32 → Int32 → Int32 → Option (Int32 × Mem)) (y3_13 : Int32) (y4_13 : Int32) (y5_13 : Int32) (r_11 : Int32) (N65 : Mem) (t0_65 : Int32) : Option (Int32 × Mem) :=
  (if t0_65.toInt = -1 then some ((nI 0), N65)
   else (if r_11.toInt = 117 then (f_X4_readHops_L102 ag13 y3_13 y4_13 y5_13 r_11 N65 t0_65 t0_65)
   else (if r_11.toInt = 100 then (f_X4_readHops_L102 ag13 y3_13 y4_13 y5_13 r_11 N65 t0_65 (-t0_65))
   else (f_X4_readHops_L102 ag13 y3_13 y4_13 y5_13 r_11 N65 t0_65 (nI 0)))))
def f_X4_readHops_B13 (x_1 : Int32) (ag13 : Mem → Int32 → Int32 → Int32 → Option (Int32 × Mem)) (M13 : Mem) (y3_13 : Int32) (y4_13 : Int32) (y5_13 : Int32) : Option (Int32 × Mem) :=
  (if 60 ≤ y5_13.toInt then (f_X4_readHops_L141 x_1 M13 y3_13 y4_13)
   else (f_X7_here M13).bind (fun r_9 => (f_X4_isHop r_9).bind (fun r_10 => (if r_10.toInt = 0 then (f_X4_readHops_L141 x_1 M13 y3_13 y4_13)
   else (f_X7_here M13).bind (fun r_11 => bnd (mset M13 19 3 ((M13 19 3) + (nI 1))) (fun M_12 => (f_X7_here M_12).bind (fun r_13 => (f_X7_isDigit r_13).bind (fun r_14 => (if r_14.toInt = 0 then (f_X4_readHops_L65 ag13 y3_13 y4_13 y5_13 r_11 M_12 (nI 1))
   else cb (f_X7_number M_12 (nI 2)) (fun r_18 M_19 => (f_X4_readHops_L65 ag13 y3_13 y4_13 y5_13 r_11 M_19 r_18)))))))))))
def f_X4_readHops (M : Mem) : Option (Int32 × Mem) :=
  bnd (M 19 3) (fun x_1 => (wlp4 (f_X4_readHops_B13 x_1) FU M (nI 0) (nI 0) (nI 0)))
def f_X4_readSteps_L67 (M2 : Mem) : Option (Int32 × Mem) :=
  cb (f_X7_refuse M2 (nI 1) (M2 19 3)) (fun r_1 M_2 => gb r_1 (some (r_1, M_2)))
def f_X4_readSteps_L31 (ag2 : Mem → Int32 → Option (Int32 × Mem)) (y3_2 : Int32) (N31 : Mem) (t0_31 : Int32) : Option (Int32 × Mem) :=
  (if t0_31.toInt = 0 then some ((nI 0), N31)
   else (f_X7_here N31).bind (fun r_4 => (if r_4.toInt = 44 then bnd (mset N31 19 3 ((N31 19 3) + (nI 1))) (fun M_5 => (ag2 M_5 (y3_2 + (nI 1))))
   else some ((nI 1), N31))))
def f_X4_readSteps_B2 (S_X4_readRound : Mem → Int32 → Option (Int32 × Mem)) (v2 : Int32) (ag2 : Mem → Int32 → Option (Int32 × Mem)) (M2 : Mem) (y3_2 : Int32) : Option (Int32 × Mem) :=
  (if 60 ≤ y3_2.toInt then (f_X4_readSteps_L67 M2)
   else (f_X7_here M2).bind (fun r_3 => (if r_3.toInt = 40 then cb (S_X4_readRound M2 v2) (fun r_8 M_9 => (f_X4_readSteps_L31 ag2 y3_2 M_9 r_8))
   else cb (f_X4_readHops M2) (fun r_6 M_7 => (f_X4_readSteps_L31 ag2 y3_2 M_7 r_6)))))
def f_X4_readSteps (S_X4_readRound : Mem → Int32 → Option (Int32 × Mem)) (M : Mem) (v2 : Int32) : Option (Int32 × Mem) :=
  (wlp2 (f_X4_readSteps_B2 S_X4_readRound v2) FU M (nI 0))
def f_X4_readRound_L96 (M_9 : Mem) : Option (Int32 × Mem) :=
  cb (f_X7_refuse M_9 (nI 1) (M_9 19 3)) (fun r_11 M_12 => gb r_11 (some (r_11, M_12)))
def f_X4_readRound (S_X4_readSteps : Mem → Int32 → Option (Int32 × Mem)) (M : Mem) (v2 : Int32) : Option (Int32 × Mem) :=
  bnd (M 19 3) (fun x_1 => bnd (M 34 2) (fun x_2 => (if v2.toInt < 2 then bnd (mset M 19 3 ((M 19 3) + (nI 1))) (fun M_3 => cb (S_X4_readSteps M_3 (v2 + (nI 1))) (fun r_4 M_5 => (if r_4.toInt = 0 then some ((nI 0), M_5)
   else cb (f_X7_skip M_5 (nI 41)) (fun r_6 M_7 => (if r_6.toInt = 0 then some ((nI 0), M_7)
   else (f_X7_here M_7).bind (fun r_8 => (if r_8.toInt = 120 then bnd (mset M_7 19 3 ((M_7 19 3) + (nI 1))) (fun M_9 => (f_X7_here M_9).bind (fun r_10 => (if r_10.toInt < 50 then (f_X4_readRound_L96 M_9)
   else (if r_10.toInt ≤ 57 then bnd (mset M_9 19 3 ((M_9 19 3) + (nI 1))) (fun M_13 => cb (f_X4_repeat M_13 x_2 (r_10 - (nI 49))) (fun r_14 M_15 => (if r_14.toInt = 0 then cb (f_X7_refuse M_15 (nI 6) x_1) (fun r_16 M_17 => (if r_16.toInt = 0 then some ((nI 0), M_17)
   else some ((nI 1), M_17)))
   else some ((nI 1), M_15))))
   else (f_X4_readRound_L96 M_9)))))
   else some ((nI 1), M_7))))))))
   else cb (f_X7_refuse M (nI 5) x_1) (fun r_18 M_19 => gb r_18 (some (r_18, M_19))))))
def g_steps : Nat → Mem → Int32 → Option (Int32 × Mem)
  | 0 => fun _ _ => none
  | n + 1 => fun M v => f_X4_readSteps (f_X4_readRound (g_steps n)) M v
def f_X4_read (M : Mem) : Option (Int32 × Mem) :=
  bnd (mset M 34 2 (nI 0)) (fun M_1 => cb (g_steps 4 M_1 (nI 0)) (fun r_2 M_3 => (if r_2.toInt = 0 then some ((nI 0), M_3)
   else (f_X7_here M_3).bind (fun r_4 => (if r_4.toInt = -1 then some ((nI 1), M_3)
   else cb (f_X7_refuse M_3 (nI 1) (M_3 19 3)) (fun r_5 M_6 => (if r_5.toInt = 0 then some ((nI 0), M_6)
   else some ((nI 1), M_6))))))))
def f_X5_look_L93 (b : Nat) (M_6 : Mem) (t0_93 : Int32) : Option Mem :=
  bnd (mset M_6 22 5 t0_93) (fun M_7 => bnd (mset M_7 22 7 (rm (M_7 b 5) (nI 100))) (fun M_8 => some M_8))
def f_X5_look_L71 (b : Nat) (c : Nat) (v3 : Int32) (M_5 : Mem) (t0_71 : Int32) : Option Mem :=
  bnd (mset M_5 22 4 t0_71) (fun M_6 => (if (M_6 c 9).toInt = 0 then (f_X5_look_L93 b M_6 (nI 0))
   else (f_X2_countClose b M_6 v3).bind (fun r_9 => (f_X5_look_L93 b M_6 r_9))))
def f_X5_look (b : Nat) (c : Nat) (M : Mem) (v3 : Int32) : Option Mem :=
  (f_X2_isTold b M v3).bind (fun r_1 => (if r_1.toInt = 0 then some M
   else bnd (mset M 22 0 v3) (fun M_2 => gd v3 40 (bnd (mset M_2 22 1 (M_2 (b + 1) (ix v3))) (fun M_3 => gd v3 40 (bnd (mset M_3 22 2 (M_3 (b + 2) (ix v3))) (fun M_4 => gd v3 40 (bnd (mset M_4 22 3 (M_4 (b + 3) (ix v3))) (fun M_5 => gd v3 40 ((if (M_5 (b + 5) (ix v3)).toInt = 0 then (f_X5_look_L71 b c v3 M_5 (nI 0))
   else (f_X5_look_L71 b c v3 M_5 (nI 1)))))))))))))
def f_X5_shift_L71 (b : Nat) (M : Mem) (v2 : Int32) (x_2 : Int32) (x_3 : Int32) : Option Mem :=
  (f_X2_stoneAt b M x_2 x_3).bind (fun r_4 => (if r_4.toInt = -1 then gd v2 40 (bnd (mset M (b + 1) (ix v2) x_2) (fun M_5 => gd v2 40 (bnd (mset M_5 (b + 2) (ix v2) x_3) (fun M_6 => bnd (mset M_6 21 1 ((M_6 21 1) + (nI 1))) (fun M_7 => some M_7)))))
   else bnd (mset M 21 2 ((M 21 2) + (nI 1))) (fun M_8 => some M_8)))
def f_X5_shift (b : Nat) (M : Mem) (v2 : Int32) (v3 : Int32) (v4 : Int32) : Option Mem :=
  (f_X2_isTold b M v2).bind (fun r_1 => (if r_1.toInt = 0 then some M
   else gd v2 40 (bnd (mx (nI 0) (mn (nI 39) ((M (b + 1) (ix v2)) + v3))) (fun x_2 => gd v2 40 (bnd (mx (nI 1) (mn (nI 20) ((M (b + 2) (ix v2)) + v4))) (fun x_3 => gd v2 40 ((if x_2.toInt = (M (b + 1) (ix v2)).toInt then gd v2 40 ((if x_3.toInt = (M (b + 2) (ix v2)).toInt then some M
   else (f_X5_shift_L71 b M v2 x_2 x_3)))
   else (f_X5_shift_L71 b M v2 x_2 x_3)))))))))
def f_X5_turn (b : Nat) (c : Nat) (M : Mem) (v3 : Int32) : Option Mem :=
  (f_X2_isTold b M v3).bind (fun r_1 => (if r_1.toInt = 0 then some M
   else cb (f_X2_draw b M) (fun r_2 M_3 => bnd (mset M_3 22 6 r_2) (fun M_4 => (f_X5_look b c M_4 v3).bind (fun M_5 => cb (f_X3_amountOf c M_5 (nI 117)) (fun r_6 M_7 => cb (f_X3_amountOf c M_7 (nI 100)) (fun r_8 M_9 => bnd (r_6 - r_8) (fun x_10 => cb (f_X3_amountOf c M_9 (nI 111)) (fun r_11 M_12 => cb (f_X3_amountOf c M_12 (nI 98)) (fun r_13 M_14 => bnd (r_11 - r_13) (fun x_15 => (f_X5_shift b M_14 v3 x_10 x_15).bind (fun M_16 => (f_X5_look b c M_16 v3).bind (fun M_17 => cb (f_X3_doesSink c M_17) (fun r_18 M_19 => gd v3 40 (bnd (mset M_19 (b + 5) (ix v3) (vp_nar .boolean r_18)) (fun M_20 => some M_20))))))))))))))))
def f_X5_pass_L63 (b : Nat) (ag13 : Mem → Int32 → Option Mem) (y4_13 : Int32) (M32 : Mem) : Option Mem :=
  bnd (mset M32 b 5 ((M32 b 5) + (nI 1))) (fun M_3 => (ag13 M_3 (y4_13 + (nI 1))))
def f_X5_pass_B32 (b : Nat) (c : Nat) (ag13 : Mem → Int32 → Option Mem) (y4_13 : Int32) (ag32 : Mem → Int32 → Option Mem) (M32 : Mem) (y5_32 : Int32) : Option Mem :=
  (if 40 ≤ y5_32.toInt then (f_X5_pass_L63 b ag13 y4_13 M32)
   else gd y5_32 40 ((if (M32 (b + 4) (ix y5_32)).toInt = 0 then (ag32 M32 (y5_32 + (nI 1)))
   else (f_X5_turn b c M32 y5_32).bind (fun M_4 => (ag32 M_4 (y5_32 + (nI 1)))))))
def f_X5_pass_B13 (b : Nat) (c : Nat) (v3 : Int32) (ag13 : Mem → Int32 → Option Mem) (M13 : Mem) (y4_13 : Int32) : Option Mem :=
  (if v3.toInt ≤ y4_13.toInt then some M13
   else (if 9999 ≤ (M13 b 5).toInt then some M13
   else (wlp2 (f_X5_pass_B32 b c ag13 y4_13) FU M13 (nI 0))))
def f_X5_pass (b : Nat) (c : Nat) (M : Mem) (v3 : Int32) : Option Mem :=
  bnd (mset M 21 1 (nI 0)) (fun M_1 => bnd (mset M_1 21 2 (nI 0)) (fun M_2 => (wlp2 (f_X5_pass_B13 b c v3) FU M_2 (nI 0))))
def f_X6_nearest_B4 (b : Nat) (M : Mem) (v1 : Int32) (ag4 : Int32 → Int32 → Option Int32) (y2_4 : Int32) (y3_4 : Int32) : Option Int32 :=
  (if 40 ≤ y3_4.toInt then some y2_4
   else (f_X2_isTold b M v1).bind (fun r_1 => (if r_1.toInt = 0 then some y2_4
   else (if y3_4.toInt = v1.toInt then (ag4 y2_4 (y3_4 + (nI 1)))
   else gd y3_4 40 ((if (M (b + 4) (ix y3_4)).toInt = 0 then (ag4 y2_4 (y3_4 + (nI 1)))
   else (if y2_4.toInt = -1 then (ag4 y3_4 (y3_4 + (nI 1)))
   else (f_X2_squares b M v1 y3_4).bind (fun r_2 => (f_X2_squares b M v1 y2_4).bind (fun r_3 => (if r_3.toInt ≤ r_2.toInt then (ag4 y2_4 (y3_4 + (nI 1)))
   else (ag4 y3_4 (y3_4 + (nI 1)))))))))))))
def f_X6_nearest (b : Nat) (M : Mem) (v1 : Int32) : Option Int32 :=
  (wlp2 (f_X6_nearest_B4 b M v1) FU (-1) (nI 0))
def f_X6_closest_L38 (b : Nat) (M : Mem) (ag5 : Int32 → Int32 → Option Int32) (y2_5 : Int32) (r_1 : Int32) : Option Int32 :=
  (f_X2_squares b M y2_5 r_1).bind (fun r_2 => (ag5 r_2 (y2_5 + (nI 1))))
def f_X6_closest_B5 (b : Nat) (M : Mem) (ag5 : Int32 → Int32 → Option Int32) (y1_5 : Int32) (y2_5 : Int32) : Option Int32 :=
  (if 40 ≤ y2_5.toInt then some y1_5
   else (f_X6_nearest b M y2_5).bind (fun r_1 => (if r_1.toInt = -1 then (ag5 y1_5 (y2_5 + (nI 1)))
   else (if y1_5.toInt = -2 then (f_X6_closest_L38 b M ag5 y2_5 r_1)
   else (f_X2_squares b M y2_5 r_1).bind (fun r_3 => (if y1_5.toInt ≤ r_3.toInt then (ag5 y1_5 (y2_5 + (nI 1)))
   else (f_X6_closest_L38 b M ag5 y2_5 r_1)))))))
def f_X6_closest (b : Nat) (M : Mem) : Option Int32 :=
  (wlp2 (f_X6_closest_B5 b M) FU (-2) (nI 0))
def f_X6_countOnLine_B53 (b : Nat) (M : Mem) (v1 : Int32) (x_3 : Int32) (x_4 : Int32) (ag53 : Int32 → Int32 → Option Int32) (y5_53 : Int32) (y6_53 : Int32) : Option Int32 :=
  (if 40 ≤ y6_53.toInt then some y5_53
   else gd y6_53 40 ((if (M (b + 4) (ix y6_53)).toInt = 0 then (ag53 y5_53 (y6_53 + (nI 1)))
   else gd y6_53 40 (gd v1 40 (gd y6_53 40 (gd v1 40 ((if (x_3 * ((M (b + 2) (ix y6_53)) - (M (b + 2) (ix v1)))).toInt = (x_4 * ((M (b + 1) (ix y6_53)) - (M (b + 1) (ix v1)))).toInt then (ag53 (y5_53 + (nI 1)) (y6_53 + (nI 1)))
   else (ag53 y5_53 (y6_53 + (nI 1)))))))))))
def f_X6_countOnLine (b : Nat) (M : Mem) (v1 : Int32) (v2 : Int32) : Option Int32 :=
  (f_X2_isTold b M v1).bind (fun r_1 => (if r_1.toInt = 0 then some (nI 0)
   else (f_X2_isTold b M v2).bind (fun r_2 => (if r_2.toInt = 0 then some (nI 0)
   else gd v2 40 (gd v1 40 (bnd ((M (b + 1) (ix v2)) - (M (b + 1) (ix v1))) (fun x_3 => gd v2 40 (gd v1 40 (bnd ((M (b + 2) (ix v2)) - (M (b + 2) (ix v1))) (fun x_4 => (wlp2 (f_X6_countOnLine_B53 b M v1 x_3 x_4) FU (nI 0) (nI 0))))))))))))
def f_X6_line_B21 (b : Nat) (M : Mem) (ag11 : Int32 → Int32 → Option Int32) (y2_11 : Int32) (ag21 : Int32 → Int32 → Option Int32) (y1_21 : Int32) (y3_21 : Int32) : Option Int32 :=
  (if 40 ≤ y3_21.toInt then (ag11 y1_21 (y2_11 + (nI 1)))
   else gd y2_11 40 ((if (M (b + 4) (ix y2_11)).toInt = 0 then (ag21 y1_21 (y3_21 + (nI 1)))
   else gd y3_21 40 ((if (M (b + 4) (ix y3_21)).toInt = 0 then (ag21 y1_21 (y3_21 + (nI 1)))
   else (f_X6_countOnLine b M y2_11 y3_21).bind (fun r_3 => bnd (mx y1_21 r_3) (fun x_4 => (ag21 x_4 (y3_21 + (nI 1))))))))))
def f_X6_line_B11 (b : Nat) (M : Mem) (ag11 : Int32 → Int32 → Option Int32) (y1_11 : Int32) (y2_11 : Int32) : Option Int32 :=
  (if 40 ≤ y2_11.toInt then some y1_11
   else (wlp2 (f_X6_line_B21 b M ag11 y2_11) FU y1_11 (y2_11 + (nI 1))))
def f_X6_line (b : Nat) (M : Mem) : Option Int32 :=
  (f_X2_countTold b M).bind (fun r_1 => bnd (mn (nI 2) r_1) (fun x_2 => (wlp2 (f_X6_line_B11 b M) FU x_2 (nI 0))))
def f_X6_pairs_B4 (b : Nat) (M : Mem) (ag4 : Int32 → Int32 → Option Int32) (y1_4 : Int32) (y2_4 : Int32) : Option Int32 :=
  (if 40 ≤ y2_4.toInt then some y1_4
   else (f_X6_nearest b M y2_4).bind (fun r_1 => (if r_1.toInt ≤ y2_4.toInt then (ag4 y1_4 (y2_4 + (nI 1)))
   else (f_X6_nearest b M r_1).bind (fun r_2 => (if r_2.toInt = y2_4.toInt then (ag4 (y1_4 + (nI 1)) (y2_4 + (nI 1)))
   else (ag4 y1_4 (y2_4 + (nI 1))))))))
def f_X6_pairs (b : Nat) (M : Mem) : Option Int32 :=
  (wlp2 (f_X6_pairs_B4 b M) FU (nI 0) (nI 0))
def f_X6_yardApart_L55 (ag4 : Int32 → Int32 → Option Int32) (y1_4 : Int32) (y2_4 : Int32) (y3_21 : Int32) : Option Int32 :=
  bnd (mx y1_4 y3_21) (fun x_1 => (ag4 x_1 (y2_4 + (nI 1))))
def f_X6_yardApart_B21 (b : Nat) (M : Mem) (ag4 : Int32 → Int32 → Option Int32) (y1_4 : Int32) (y2_4 : Int32) (ag21 : Int32 → Option Int32) (y3_21 : Int32) : Option Int32 :=
  (if 20 ≤ y3_21.toInt then (f_X6_yardApart_L55 ag4 y1_4 y2_4 y3_21)
   else gd y2_4 40 (gd y2_4 40 ((f_X2_stoneAt b M (M (b + 1) (ix y2_4)) ((M (b + 2) (ix y2_4)) + y3_21)).bind (fun r_2 => (if r_2.toInt = -1 then (f_X6_yardApart_L55 ag4 y1_4 y2_4 y3_21)
   else (ag21 (y3_21 + (nI 1))))))))
def f_X6_yardApart_B4 (b : Nat) (M : Mem) (ag4 : Int32 → Int32 → Option Int32) (y1_4 : Int32) (y2_4 : Int32) : Option Int32 :=
  (if 40 ≤ y2_4.toInt then some y1_4
   else gd y2_4 40 ((if (M (b + 4) (ix y2_4)).toInt = 0 then (ag4 y1_4 (y2_4 + (nI 1)))
   else (wlp1 (f_X6_yardApart_B21 b M ag4 y1_4 y2_4) FU (nI 1)))))
def f_X6_yardApart (b : Nat) (M : Mem) : Option Int32 :=
  (wlp2 (f_X6_yardApart_B4 b M) FU (nI 0) (nI 0))
def f_X7_append_B3 (v1 : Int32) (ag3 : Mem → Int32 → Option Mem) (M3 : Mem) (y2_3 : Int32) : Option Mem :=
  (if y2_3.toInt < 0 then some M3
   else (if (M3 19 1).toInt < 0 then (ag3 M3 (y2_3 + (-8)))
   else (if 260 ≤ (M3 19 1).toInt then (ag3 M3 (y2_3 + (-8)))
   else gd (M3 19 1) 260 (bnd (mset M3 20 (ix (M3 19 1)) ((shr v1 y2_3) &&& (nI 255))) (fun M_1 => bnd (mset M_1 19 1 ((M_1 19 1) + (nI 1))) (fun M_2 => (ag3 M_2 (y2_3 + (-8)))))))))
def f_X7_append (M : Mem) (v1 : Int32) : Option Mem :=
  (wlp2 (f_X7_append_B3 v1) FU M (nI 24))
def f_X7_holds (M : Mem) (v1 : Int32) (v2 : Int32) (v3 : Int32) : Option Int32 :=
  (if v1.toInt < v2.toInt then some (nI 0)
   else (if v3.toInt < v1.toInt then some (nI 0)
   else (if (M 19 1).toInt < v1.toInt then some (nI 0)
   else some (nI 1))))
def f_X7_open (M : Mem) (v1 : Int32) : Option Mem :=
  bnd (mset M 19 2 v1) (fun M_1 => bnd (mset M_1 19 3 (nI 0)) (fun M_2 => bnd (mset M_2 19 4 (nI 0)) (fun M_3 => bnd (mset M_3 19 1 (nI 0)) (fun M_4 => some M_4))))
def f_X8_spreadOn_B89 (b : Nat) (k : Nat) (len_k : Nat) (v2 : Int32) (v5 : Int32) (ag38 : Mem → Int32 → Int32 → Option (Int32 × Mem)) (y7_38 : Int32) (x_3 : Int32) (t0_84 : Int32) (ag89 : Mem → Int32 → Int32 → Option (Int32 × Mem)) (M89 : Mem) (y6_89 : Int32) (y10_89 : Int32) : Option (Int32 × Mem) :=
  (if v5.toInt ≤ y10_89.toInt then (ag38 M89 y6_89 (y7_38 + (nI 1)))
   else (if 42 ≤ y10_89.toInt then (ag38 M89 y6_89 (y7_38 + (nI 1)))
   else gd y10_89 len_k ((if (M89 k (ix y10_89)).toInt = -1 then (if 42 ≤ y6_89.toInt then (ag89 M89 y6_89 (y10_89 + (nI 1)))
   else (f_X2_isStep b M89 x_3 y10_89 v2).bind (fun r_4 => (if r_4.toInt = 0 then (ag89 M89 y6_89 (y10_89 + (nI 1)))
   else gd y10_89 len_k (bnd (mset M89 k (ix y10_89) t0_84) (fun M_5 => gd y6_89 42 (bnd (mset M_5 26 (ix y6_89) y10_89) (fun M_6 => (ag89 M_6 (y6_89 + (nI 1)) (y10_89 + (nI 1))))))))))
   else (ag89 M89 y6_89 (y10_89 + (nI 1)))))))
def f_X8_spreadOn_L84 (b : Nat) (k : Nat) (len_k : Nat) (v2 : Int32) (v5 : Int32) (ag38 : Mem → Int32 → Int32 → Option (Int32 × Mem)) (M38 : Mem) (y6_38 : Int32) (y7_38 : Int32) (x_3 : Int32) (t0_84 : Int32) : Option (Int32 × Mem) :=
  (wlp3 (f_X8_spreadOn_B89 b k len_k v2 v5 ag38 y7_38 x_3 t0_84) FU M38 y6_38 (nI 0))
def f_X8_spreadOn_L83 (b : Nat) (k : Nat) (len_k : Nat) (v2 : Int32) (v5 : Int32) (ag38 : Mem → Int32 → Int32 → Option (Int32 × Mem)) (M38 : Mem) (y6_38 : Int32) (y7_38 : Int32) (x_3 : Int32) : Option (Int32 × Mem) :=
  (f_X8_spreadOn_L84 b k len_k v2 v5 ag38 M38 y6_38 y7_38 x_3 (nI 0))
def f_X8_spreadOn_B38 (b : Nat) (k : Nat) (len_k : Nat) (v2 : Int32) (v5 : Int32) (ag38 : Mem → Int32 → Int32 → Option (Int32 × Mem)) (M38 : Mem) (y6_38 : Int32) (y7_38 : Int32) : Option (Int32 × Mem) :=
  (if y6_38.toInt ≤ y7_38.toInt then some (y6_38, M38)
   else (if 42 ≤ y7_38.toInt then some (y6_38, M38)
   else gd y7_38 42 (bnd (M38 26 (ix y7_38)) (fun x_3 => (if x_3.toInt < 0 then (f_X8_spreadOn_L83 b k len_k v2 v5 ag38 M38 y6_38 y7_38 x_3)
   else (if 42 ≤ x_3.toInt then (f_X8_spreadOn_L83 b k len_k v2 v5 ag38 M38 y6_38 y7_38 x_3)
   else gd x_3 len_k ((f_X8_spreadOn_L84 b k len_k v2 v5 ag38 M38 y6_38 y7_38 x_3 ((M38 k (ix x_3)) + (nI 1))))))))))
def f_X8_spreadOn (b : Nat) (k : Nat) (len_k : Nat) (M : Mem) (v2 : Int32) (v3 : Int32) (v5 : Int32) : Option (Int32 × Mem) :=
  (if v3.toInt < 0 then some ((nI 0), M)
   else (if 42 ≤ v3.toInt then some ((nI 0), M)
   else (if 42 ≤ (nI len_k).toInt then gd v3 len_k (bnd (mset M k (ix v3) (nI 0)) (fun M_1 => bnd (mset M_1 26 0 v3) (fun M_2 => (wlp3 (f_X8_spreadOn_B38 b k len_k v2 v5) FU M_2 (nI 1) (nI 0)))))
   else some ((nI 0), M))))
def f_X8_spread (b : Nat) (k : Nat) (len_k : Nat) (M : Mem) (v2 : Int32) (v3 : Int32) (v5 : Int32) : Option (Int32 × Mem) :=
  (f_J7_fill_53178 k len_k M (-1)).bind (fun M_1 => cb (f_X8_spreadOn b k len_k M_1 v2 v3 v5) (fun r_2 M_3 => some (r_2, M_3)))
def f_X8_canCross (b : Nat) (M : Mem) (v2 : Int32) : Option (Int32 × Mem) :=
  cb (f_X8_spread b 24 42 M v2 (nI 40) (nI 42)) (fun r_1 M_2 => (if (M_2 24 41).toInt = -1 then some ((nI 0), M_2)
   else some ((nI 1), M_2)))
def f_X8_cheapest_B4 (M : Mem) (ag4 : Int32 → Int32 → Option Int32) (y1_4 : Int32) (y2_4 : Int32) : Option Int32 :=
  (if 42 ≤ y2_4.toInt then some y1_4
   else gd y2_4 42 ((if (M 29 (ix y2_4)).toInt = 0 then gd y2_4 42 ((if (M 28 (ix y2_4)).toInt = -1 then (ag4 y1_4 (y2_4 + (nI 1)))
   else (if y1_4.toInt = -1 then (ag4 y2_4 (y2_4 + (nI 1)))
   else gd y2_4 42 (gd y1_4 42 ((if (M 28 (ix y1_4)).toInt ≤ (M 28 (ix y2_4)).toInt then (ag4 y1_4 (y2_4 + (nI 1)))
   else (ag4 y2_4 (y2_4 + (nI 1)))))))))
   else (ag4 y1_4 (y2_4 + (nI 1))))))
def f_X8_cheapest (M : Mem) : Option Int32 :=
  (wlp2 (f_X8_cheapest_B4 M) FU (-1) (nI 0))
def f_X8_countIslands_B13 (b : Nat) (v2 : Int32) (ag13 : Mem → Int32 → Int32 → Option (Int32 × Mem)) (M13 : Mem) (y3_13 : Int32) (y4_13 : Int32) : Option (Int32 × Mem) :=
  (if 40 ≤ y4_13.toInt then some (y3_13, M13)
   else (f_X2_isDry b M13 y4_13).bind (fun r_2 => (if r_2.toInt = 0 then (ag13 M13 y3_13 (y4_13 + (nI 1)))
   else gd y4_13 42 ((if (M13 24 (ix y4_13)).toInt = -1 then cb (f_X8_spreadOn b 24 42 M13 v2 y4_13 (nI 40)) (fun r_3 M_4 => (ag13 M_4 (y3_13 + (nI 1)) (y4_13 + (nI 1))))
   else (ag13 M13 y3_13 (y4_13 + (nI 1))))))))
def f_X8_countIslands (b : Nat) (M : Mem) (v2 : Int32) : Option (Int32 × Mem) :=
  (f_J7_fill_53178 24 42 M (-1)).bind (fun M_1 => (wlp3 (f_X8_countIslands_B13 b v2) FU M_1 (nI 0) (nI 0)))
def f_X8_leadOn_B14 (b : Nat) (v2 : Int32) (v3 : Int32) (ag14 : Mem → Int32 → Option Mem) (M14 : Mem) (y4_14 : Int32) : Option Mem :=
  (if 42 ≤ y4_14.toInt then some M14
   else gd y4_14 42 (gd v3 42 ((if (M14 24 (ix y4_14)).toInt = ((M14 24 (ix v3)) + (nI 1)).toInt then (f_X2_isStep b M14 v3 y4_14 v2).bind (fun r_1 => (if r_1.toInt = 0 then (ag14 M14 (y4_14 + (nI 1)))
   else gd y4_14 42 (gd v3 42 (gd y4_14 42 (bnd (mset M14 27 (ix y4_14) (mn (nI 1000000000) ((M14 27 (ix y4_14)) + (M14 27 (ix v3))))) (fun M_2 => (ag14 M_2 (y4_14 + (nI 1)))))))))
   else (ag14 M14 (y4_14 + (nI 1)))))))
def f_X8_leadOn (b : Nat) (M : Mem) (v2 : Int32) (v3 : Int32) : Option Mem :=
  (if v3.toInt < 0 then some M
   else (if v3.toInt < 42 then (wlp2 (f_X8_leadOn_B14 b v2 v3) FU M (nI 0))
   else some M))
def f_X8_countRows_B19 (b : Nat) (v2 : Int32) (v3 : Int32) (ag19 : Mem → Int32 → Option (Int32 × Mem)) (M19 : Mem) (y4_19 : Int32) : Option (Int32 × Mem) :=
  (if v3.toInt ≤ y4_19.toInt then some ((M19 27 41), M19)
   else (if 42 ≤ y4_19.toInt then some ((M19 27 41), M19)
   else gd y4_19 42 ((f_X8_leadOn b M19 v2 (M19 26 (ix y4_19))).bind (fun M_3 => (ag19 M_3 (y4_19 + (nI 1)))))))
def f_X8_countRows (b : Nat) (M : Mem) (v2 : Int32) (v3 : Int32) : Option (Int32 × Mem) :=
  (f_J7_fill_53178 27 42 M (nI 0)).bind (fun M_1 => bnd (mset M_1 27 40 (nI 1)) (fun M_2 => (wlp2 (f_X8_countRows_B19 b v2 v3) FU M_2 (nI 0))))
def f_X8_lowestOnward_B3 (b : Nat) (M : Mem) (v2 : Int32) (v3 : Int32) (v4 : Int32) (ag3 : Int32 → Option Int32) (y5_3 : Int32) : Option Int32 :=
  (if 40 ≤ y5_3.toInt then some (-2)
   else gd y5_3 42 ((if (M 25 (ix y5_3)).toInt = v4.toInt then (f_X2_isStep b M v3 y5_3 v2).bind (fun r_1 => (if r_1.toInt = 0 then (ag3 (y5_3 + (nI 1)))
   else some y5_3))
   else (ag3 (y5_3 + (nI 1))))))
def f_X8_lowestOnward (b : Nat) (M : Mem) (v2 : Int32) (v3 : Int32) (v4 : Int32) : Option Int32 :=
  (wlp1 (f_X8_lowestOnward_B3 b M v2 v3 v4) FU (nI 0))
def f_X8_stoneOfLeastRow_B22 (b : Nat) (v2 : Int32) (v3 : Int32) (v4 : Int32) (M_2 : Mem) (ag22 : Int32 → Int32 → Option (Int32 × Mem)) (y5_22 : Int32) (y6_22 : Int32) : Option (Int32 × Mem) :=
  (if v4.toInt < y6_22.toInt then some (y5_22, M_2)
   else (if 40 ≤ y6_22.toInt then some (y5_22, M_2)
   else (f_X8_lowestOnward b M_2 v2 y5_22 ((v3 - (nI 1)) - y6_22)).bind (fun r_3 => (ag22 r_3 (y6_22 + (nI 1))))))
def f_X8_stoneOfLeastRow (b : Nat) (M : Mem) (v2 : Int32) (v3 : Int32) (v4 : Int32) : Option (Int32 × Mem) :=
  cb (f_X8_spread b 25 42 M v2 (nI 41) (nI 42)) (fun r_1 M_2 => (wlp2 (f_X8_stoneOfLeastRow_B22 b v2 v3 v4 M_2) FU (nI 40) (nI 0)))
def f_X8_crossing (b : Nat) (M : Mem) (v2 : Int32) (v3 : Int32) : Option (Int32 × Mem) :=
  cb (f_X8_spread b 24 42 M v2 (nI 40) (nI 42)) (fun r_1 M_2 => bnd (M_2 24 41) (fun x_3 => (if x_3.toInt = -1 then some ((-2), M_2)
   else (if v3.toInt = 100 then some (x_3, M_2)
   else (if v3.toInt = 101 then cb (f_X8_countRows b M_2 v2 r_1) (fun r_6 M_7 => some (r_6, M_7))
   else (if v3.toInt < (x_3 - (nI 1)).toInt then cb (f_X8_stoneOfLeastRow b M_2 v2 x_3 v3) (fun r_4 M_5 => some (r_4, M_5))
   else some ((-4), M_2)))))))
def f_X8_settle_L104 (ag21 : Mem → Int32 → Option Mem) (M21 : Mem) (y4_21 : Int32) (x_3 : Int32) : Option Mem :=
  gd y4_21 42 (bnd (mset M21 28 (ix y4_21) x_3) (fun M_4 => (ag21 M_4 (y4_21 + (nI 1)))))
def f_X8_settle_L78 (v3 : Int32) (ag21 : Mem → Int32 → Option Mem) (M21 : Mem) (y4_21 : Int32) (t0_78 : Int32) : Option Mem :=
  bnd (((M21 28 (ix v3)) + (nI 1)) + t0_78) (fun x_3 => gd y4_21 42 ((if (M21 28 (ix y4_21)).toInt = -1 then (f_X8_settle_L104 ag21 M21 y4_21 x_3)
   else gd y4_21 42 ((if (M21 28 (ix y4_21)).toInt ≤ x_3.toInt then (ag21 M21 (y4_21 + (nI 1)))
   else (f_X8_settle_L104 ag21 M21 y4_21 x_3))))))
def f_X8_settle_B21 (b : Nat) (v2 : Int32) (v3 : Int32) (ag21 : Mem → Int32 → Option Mem) (M21 : Mem) (y4_21 : Int32) : Option Mem :=
  (if 42 ≤ y4_21.toInt then some M21
   else gd y4_21 42 ((if (M21 29 (ix y4_21)).toInt = 0 then (f_X2_isStep b M21 v3 y4_21 v2).bind (fun r_2 => (if r_2.toInt = 0 then (ag21 M21 (y4_21 + (nI 1)))
   else gd v3 42 ((if 40 ≤ y4_21.toInt then (f_X8_settle_L78 v3 ag21 M21 y4_21 (nI 0))
   else gd y4_21 40 ((f_X8_settle_L78 v3 ag21 M21 y4_21 ((nI 100) * (M21 (b + 3) (ix y4_21)))))))))
   else (ag21 M21 (y4_21 + (nI 1))))))
def f_X8_settle (b : Nat) (M : Mem) (v2 : Int32) (v3 : Int32) : Option Mem :=
  (if v3.toInt < 0 then some M
   else (if v3.toInt < 42 then gd v3 42 (bnd (mset M 29 (ix v3) (vp_nar .boolean (nI 1))) (fun M_1 => (wlp2 (f_X8_settle_B21 b v2 v3) FU M_1 (nI 0))))
   else some M))
def f_X8_driestWay_L79 (v3 : Int32) (M43 : Mem) : Option (Int32 × Mem) :=
  (if (M43 28 41).toInt = -1 then some ((-2), M43)
   else (if v3.toInt = 0 then some (((M43 28 41) / (nI 100)), M43)
   else some ((rm (M43 28 41) (nI 100)), M43)))
def f_X8_driestWay_L62 (v3 : Int32) (M43 : Mem) : Option (Int32 × Mem) :=
  (f_X8_driestWay_L79 v3 M43)
def f_X8_driestWay_B43 (b : Nat) (v2 : Int32) (v3 : Int32) (ag43 : Mem → Int32 → Option (Int32 × Mem)) (M43 : Mem) (y4_43 : Int32) : Option (Int32 × Mem) :=
  (if 42 ≤ y4_43.toInt then (f_X8_driestWay_L79 v3 M43)
   else (f_X8_cheapest M43).bind (fun r_2 => (if r_2.toInt = -1 then (f_X8_driestWay_L62 v3 M43)
   else (f_X8_settle b M43 v2 r_2).bind (fun M_3 => (ag43 M_3 (y4_43 + (nI 1)))))))
def f_X8_driestWay_L32 (b : Nat) (v2 : Int32) (v3 : Int32) (M3 : Mem) : Option (Int32 × Mem) :=
  bnd (mset M3 28 40 (nI 0)) (fun M_1 => (wlp2 (f_X8_driestWay_B43 b v2 v3) FU M_1 (nI 0)))
def f_X8_driestWay_B3 (b : Nat) (v2 : Int32) (v3 : Int32) (ag3 : Mem → Int32 → Option (Int32 × Mem)) (M3 : Mem) (y4_3 : Int32) : Option (Int32 × Mem) :=
  (if 42 ≤ y4_3.toInt then (f_X8_driestWay_L32 b v2 v3 M3)
   else gd y4_3 42 (bnd (mset M3 28 (ix y4_3) (-1)) (fun M_4 => gd y4_3 42 (bnd (mset M_4 29 (ix y4_3) (vp_nar .boolean (nI 0))) (fun M_5 => (ag3 M_5 (y4_3 + (nI 1))))))))
def f_X8_driestWay (b : Nat) (M : Mem) (v2 : Int32) (v3 : Int32) : Option (Int32 × Mem) :=
  (wlp2 (f_X8_driestWay_B3 b v2 v3) FU M (nI 0))
def f_X8_farthest_B20 (b : Nat) (M_2 : Mem) (ag20 : Int32 → Int32 → Option (Int32 × Mem)) (y3_20 : Int32) (y4_20 : Int32) : Option (Int32 × Mem) :=
  (if 42 ≤ y4_20.toInt then some (y3_20, M_2)
   else gd y4_20 42 ((if (M_2 24 (ix y4_20)).toInt = -1 then (ag20 y3_20 (y4_20 + (nI 1)))
   else (f_X2_heightOf b M_2 y4_20).bind (fun r_3 => bnd (mx y3_20 r_3) (fun x_4 => (ag20 x_4 (y4_20 + (nI 1))))))))
def f_X8_farthest (b : Nat) (M : Mem) (v2 : Int32) : Option (Int32 × Mem) :=
  cb (f_X8_spread b 24 42 M v2 (nI 40) (nI 42)) (fun r_1 M_2 => (wlp2 (f_X8_farthest_B20 b M_2) FU (nI 0) (nI 0)))
def f_X8_wouldJoin_L111 (b : Nat) (M : Mem) (v3 : Int32) (v4 : Int32) (y5_9 : Int32) (y6_9 : Int32) : Option Int32 :=
  (if y5_9.toInt = 0 then some (nI 0)
   else (if y6_9.toInt = 0 then some (nI 0)
   else (f_X2_stoneAt b M v3 v4).bind (fun r_1 => (if r_1.toInt = -1 then some (nI 1)
   else some (nI 0)))))
def f_X8_wouldJoin_L81 (M : Mem) (ag9 : Int32 → Int32 → Int32 → Option Int32) (y5_9 : Int32) (y6_9 : Int32) (y7_9 : Int32) (t0_81 : Int32) : Option Int32 :=
  bnd (y5_9 ||| t0_81) (fun x_3 => gd y7_9 42 ((if (M 25 (ix y7_9)).toInt = -1 then bnd (y6_9 ||| (nI 0)) (fun x_4 => (ag9 x_3 x_4 (y7_9 + (nI 1))))
   else bnd (y6_9 ||| (nI 1)) (fun x_5 => (ag9 x_3 x_5 (y7_9 + (nI 1)))))))
def f_X8_wouldJoin_L43 (b : Nat) (M : Mem) (v2 : Int32) (v3 : Int32) (v4 : Int32) (ag9 : Int32 → Int32 → Int32 → Option Int32) (y5_9 : Int32) (y6_9 : Int32) (y7_9 : Int32) (t0_43 : Int32) : Option Int32 :=
  (if t0_43.toInt = 0 then (ag9 y5_9 y6_9 (y7_9 + (nI 1)))
   else (f_X2_isStepFrom b M y7_9 v3 v4 v2).bind (fun r_2 => (if r_2.toInt = 0 then (ag9 y5_9 y6_9 (y7_9 + (nI 1)))
   else gd y7_9 42 ((if (M 24 (ix y7_9)).toInt = -1 then (f_X8_wouldJoin_L81 M ag9 y5_9 y6_9 y7_9 (nI 0))
   else (f_X8_wouldJoin_L81 M ag9 y5_9 y6_9 y7_9 (nI 1)))))))
def f_X8_wouldJoin_L38 (b : Nat) (M : Mem) (v2 : Int32) (v3 : Int32) (v4 : Int32) (ag9 : Int32 → Int32 → Int32 → Option Int32) (y5_9 : Int32) (y6_9 : Int32) (y7_9 : Int32) : Option Int32 :=
  (f_X8_wouldJoin_L43 b M v2 v3 v4 ag9 y5_9 y6_9 y7_9 (nI 1))
def f_X8_wouldJoin_B9 (b : Nat) (M : Mem) (v2 : Int32) (v3 : Int32) (v4 : Int32) (ag9 : Int32 → Int32 → Int32 → Option Int32) (y5_9 : Int32) (y6_9 : Int32) (y7_9 : Int32) : Option Int32 :=
  (if 42 ≤ y7_9.toInt then (f_X8_wouldJoin_L111 b M v3 v4 y5_9 y6_9)
   else gd y7_9 42 ((if (M 24 (ix y7_9)).toInt = -1 then gd y7_9 42 ((if (M 25 (ix y7_9)).toInt = -1 then (f_X8_wouldJoin_L43 b M v2 v3 v4 ag9 y5_9 y6_9 y7_9 (nI 0))
   else (f_X8_wouldJoin_L38 b M v2 v3 v4 ag9 y5_9 y6_9 y7_9)))
   else (f_X8_wouldJoin_L38 b M v2 v3 v4 ag9 y5_9 y6_9 y7_9))))
def f_X8_wouldJoin (b : Nat) (M : Mem) (v2 : Int32) (v3 : Int32) (v4 : Int32) : Option Int32 :=
  (wlp3 (f_X8_wouldJoin_B9 b M v2 v3 v4) FU (nI 0) (nI 0) (nI 0))
def f_X8_helpfulPlace_L60 (v3 : Int32) (M_4 : Mem) (y4_30 : Int32) (y5_40 : Int32) : Option (Int32 × Mem) :=
  (if v3.toInt = 0 then some (y5_40, M_4)
   else some (y4_30, M_4))
def f_X8_helpfulPlace_B40 (b : Nat) (v2 : Int32) (v3 : Int32) (M_4 : Mem) (ag30 : Int32 → Option (Int32 × Mem)) (y4_30 : Int32) (ag40 : Int32 → Option (Int32 × Mem)) (y5_40 : Int32) : Option (Int32 × Mem) :=
  (if 39 < y5_40.toInt then (ag30 (y4_30 + (nI 1)))
   else (f_X8_wouldJoin b M_4 v2 y5_40 y4_30).bind (fun r_5 => (if r_5.toInt = 0 then (ag40 (y5_40 + (nI 1)))
   else (f_X8_helpfulPlace_L60 v3 M_4 y4_30 y5_40))))
def f_X8_helpfulPlace_B30 (b : Nat) (v2 : Int32) (v3 : Int32) (M_4 : Mem) (ag30 : Int32 → Option (Int32 × Mem)) (y4_30 : Int32) : Option (Int32 × Mem) :=
  (if 20 < y4_30.toInt then some ((-2), M_4)
   else (wlp1 (f_X8_helpfulPlace_B40 b v2 v3 M_4 ag30 y4_30) FU (nI 0)))
def f_X8_helpfulPlace (b : Nat) (M : Mem) (v2 : Int32) (v3 : Int32) : Option (Int32 × Mem) :=
  cb (f_X8_canCross b M v2) (fun r_1 M_2 => (if r_1.toInt = 0 then cb (f_X8_spread b 25 42 M_2 v2 (nI 41) (nI 42)) (fun r_3 M_4 => (wlp1 (f_X8_helpfulPlace_B30 b v2 v3 M_4) FU (nI 1)))
   else some ((-3), M_2)))
def f_X8_islandSize (b : Nat) (M : Mem) (v2 : Int32) (v3 : Int32) : Option (Int32 × Mem) :=
  (f_X2_isDry b M v3).bind (fun r_1 => (if r_1.toInt = 0 then some ((nI 0), M)
   else cb (f_X8_spread b 24 42 M v2 v3 (nI 40)) (fun r_2 M_3 => some (r_2, M_3))))
def f_X8_meeting_L117 (v4 : Int32) (M_4 : Mem) (y5_41 : Int32) (y6_41 : Int32) : Option (Int32 × Mem) :=
  (if v4.toInt = 0 then some (y5_41, M_4)
   else some (y6_41, M_4))
def f_X8_meeting_B41 (v4 : Int32) (M_4 : Mem) (ag41 : Int32 → Int32 → Int32 → Option (Int32 × Mem)) (y5_41 : Int32) (y6_41 : Int32) (y7_41 : Int32) : Option (Int32 × Mem) :=
  (if 40 ≤ y7_41.toInt then (f_X8_meeting_L117 v4 M_4 y5_41 y6_41)
   else gd y7_41 42 ((if (M_4 24 (ix y7_41)).toInt = -1 then (ag41 y5_41 y6_41 (y7_41 + (nI 1)))
   else gd y7_41 42 ((if (M_4 25 (ix y7_41)).toInt = -1 then (ag41 y5_41 y6_41 (y7_41 + (nI 1)))
   else gd y7_41 42 (gd y7_41 42 (bnd (mx (M_4 24 (ix y7_41)) (M_4 25 (ix y7_41))) (fun x_5 => (if y6_41.toInt = -2 then (ag41 x_5 y7_41 (y7_41 + (nI 1)))
   else (if y5_41.toInt ≤ x_5.toInt then (ag41 y5_41 y6_41 (y7_41 + (nI 1)))
   else (ag41 x_5 y7_41 (y7_41 + (nI 1)))))))))))))
def f_X8_meeting (b : Nat) (M : Mem) (v2 : Int32) (v3 : Int32) (v4 : Int32) : Option (Int32 × Mem) :=
  cb (f_X8_spread b 24 42 M v2 (nI 40) (nI 42)) (fun r_1 M_2 => cb (f_X8_spread b 25 42 M_2 v3 (nI 41) (nI 42)) (fun r_3 M_4 => (wlp3 (f_X8_meeting_B41 v4 M_4) FU (-2) (-2) (nI 0))))
def f_X8_needs_L31 (b : Nat) (v3 : Int32) (M_4 : Mem) (t0_31 : Int32) : Option (Int32 × Mem) :=
  gd v3 40 (bnd (mset M_4 (b + 5) (ix v3) (vp_nar .boolean (nI 0))) (fun M_5 => gb t0_31 (some (t0_31, M_5))))
def f_X8_needs (b : Nat) (M : Mem) (v2 : Int32) (v3 : Int32) : Option (Int32 × Mem) :=
  (f_X2_isDry b M v3).bind (fun r_1 => (if r_1.toInt = 0 then some ((nI 0), M)
   else gd v3 40 (bnd (mset M (b + 5) (ix v3) (vp_nar .boolean (nI 1))) (fun M_2 => cb (f_X8_canCross b M_2 v2) (fun r_3 M_4 => (if r_3.toInt = 0 then (f_X8_needs_L31 b v3 M_4 (nI 1))
   else (f_X8_needs_L31 b v3 M_4 (nI 0))))))))
def f_X9_isPlace (v0 : Int32) (v1 : Int32) : Option Int32 :=
  (if v0.toInt < 0 then some (nI 0)
   else (if 39 < v0.toInt then some (nI 0)
   else (if v1.toInt < 1 then some (nI 0)
   else (if 20 < v1.toInt then some (nI 0)
   else some (nI 1)))))
def f_X9_at (M : Mem) (v1 : Int32) (v2 : Int32) : Option Int32 :=
  (f_X9_isPlace v1 v2).bind (fun r_1 => (if r_1.toInt = 0 then some (-1)
   else (f_X2_stoneAt 1 M v1 v2).bind (fun r_2 => (if r_2.toInt = -1 then some (-2)
   else some r_2))))
def f_X9_chalk_L46 (M : Mem) (v1 : Int32) (v2 : Int32) : Option (Int32 × Mem) :=
  (f_X7_open M ((nI 2) * v1)).bind (fun M_2 => (f_X2_countTold 1 M_2).bind (fun r_3 => (if v1.toInt ≤ r_3.toInt then cb (f_X0_read M_2 v1) (fun r_4 M_5 => (if r_4.toInt = 0 then some ((-3), M_5)
   else (f_X0_match 1 M_5 v1).bind (fun M_6 => (if v2.toInt = 100 then (f_X0_wayInAll M_6).bind (fun r_8 => some (r_8, M_6))
   else (f_X0_stoneOf M_6 v1 v2).bind (fun r_7 => some (r_7, M_6))))))
   else some ((-2), M_2))))
def f_X9_chalk (M : Mem) (v1 : Int32) (v2 : Int32) : Option (Int32 × Mem) :=
  (if v1.toInt < 1 then some ((-1), M)
   else (if 7 < v1.toInt then some ((-1), M)
   else (f_X7_holds M ((nI 2) * v1) (nI 2) (nI 14)).bind (fun r_1 => (if r_1.toInt = 0 then some ((-1), M)
   else (if v2.toInt = 100 then (f_X9_chalk_L46 M v1 v2)
   else (if v2.toInt < 0 then some ((-1), M)
   else (if v2.toInt < v1.toInt then (f_X9_chalk_L46 M v1 v2)
   else some ((-1), M))))))))
def f_X9_check_L58 (M_2 : Mem) (ag27 : Int32 → Option (Int32 × Mem)) (y2_27 : Int32) (t0_58 : Int32) : Option (Int32 × Mem) :=
  (f_X7_byteAt M_2 y2_27).bind (fun r_4 => (if r_4.toInt = t0_58.toInt then (ag27 (y2_27 + (nI 1)))
   else some (y2_27, M_2)))
def f_X9_check_B27 (v1 : Int32) (M_2 : Mem) (ag27 : Int32 → Option (Int32 × Mem)) (y2_27 : Int32) : Option (Int32 × Mem) :=
  (if v1.toInt ≤ y2_27.toInt then some ((-1), M_2)
   else (f_X2_isTold 1 M_2 y2_27).bind (fun r_3 => (if r_3.toInt = 0 then (f_X9_check_L58 M_2 ag27 y2_27 (nI 255))
   else gd y2_27 40 ((f_X9_check_L58 M_2 ag27 y2_27 (M_2 2 (ix y2_27)))))))
def f_X9_check (M : Mem) (v1 : Int32) : Option (Int32 × Mem) :=
  (f_X7_holds M v1 (nI 0) (nI 40)).bind (fun r_1 => (if r_1.toInt = 0 then some ((-2), M)
   else (f_X7_open M v1).bind (fun M_2 => (wlp1 (f_X9_check_B27 v1 M_2) FU (nI 0)))))
def f_X9_toldPeople_B4 (M : Mem) (ag4 : Int32 → Int32 → Option Int32) (y1_4 : Int32) (y2_4 : Int32) : Option Int32 :=
  (if 8 ≤ y2_4.toInt then some y1_4
   else gd y2_4 8 ((if (M 43 (ix y2_4)).toInt = 0 then (ag4 y1_4 (y2_4 + (nI 1)))
   else bnd (y1_4 ||| (shl (nI 1) y2_4)) (fun x_1 => (ag4 x_1 (y2_4 + (nI 1)))))))
def f_X9_toldPeople (M : Mem) : Option Int32 :=
  (wlp2 (f_X9_toldPeople_B4 M) FU (nI 0) (nI 0))
def f_X9_strideOf (M : Mem) (v1 : Int32) : Option Int32 :=
  (if v1.toInt < 0 then some (nI 0)
   else (if 8 ≤ v1.toInt then some (nI 0)
   else gd v1 8 (some (M 43 (ix v1)))))
def f_X9_count (M : Mem) (v1 : Int32) : Option Int32 :=
  (if v1.toInt = 0 then some (M 1 5)
   else (if v1.toInt = 1 then (f_X2_countTold 1 M).bind (fun r_1 => some r_1)
   else (if v1.toInt = 2 then (f_X2_countSunk 1 M).bind (fun r_2 => some r_2)
   else (if v1.toInt = 3 then (f_X9_toldPeople M).bind (fun r_3 => some r_3)
   else (if v1.toInt = 4 then rl (M 0 10) (fun c_4 => some (M c_4 8))
   else (if v1.toInt = 5 then some (M 19 1)
   else (if v1.toInt = 6 then some (M 1 6)
   else (if v1.toInt < 10 then some (-1)
   else (f_X9_strideOf M (v1 - (nI 10))).bind (fun r_5 => (if r_5.toInt = 0 then some (-1)
   else (f_X9_strideOf M (v1 - (nI 10))).bind (fun r_6 => some r_6)))))))))))
def f_X9_isStone (v0 : Int32) : Option Int32 :=
  (if v0.toInt < 0 then some (nI 0)
   else (if 40 ≤ v0.toInt then some (nI 0)
   else some (nI 1)))
def f_X9_cross_L31 (M : Mem) (v2 : Int32) (r_1 : Int32) : Option (Int32 × Mem) :=
  cb (f_X8_crossing 1 M r_1 v2) (fun r_3 M_4 => some (r_3, M_4))
def f_X9_cross (M : Mem) (v1 : Int32) (v2 : Int32) : Option (Int32 × Mem) :=
  (f_X9_strideOf M v1).bind (fun r_1 => (if r_1.toInt = 0 then some ((-1), M)
   else (f_X9_isStone v2).bind (fun r_2 => (if r_2.toInt = 0 then (if v2.toInt = 100 then (f_X9_cross_L31 M v2 r_1)
   else (if v2.toInt = 101 then (f_X9_cross_L31 M v2 r_1)
   else some ((-1), M)))
   else (f_X9_cross_L31 M v2 r_1)))))
def f_X9_isEither (v0 : Int32) : Option Int32 :=
  (if v0.toInt = 0 then some (nI 1)
   else (if v0.toInt = 1 then some (nI 1)
   else some (nI 0)))
def f_X9_driest (M : Mem) (v1 : Int32) (v2 : Int32) : Option (Int32 × Mem) :=
  (f_X9_strideOf M v1).bind (fun r_1 => (if r_1.toInt = 0 then some ((-1), M)
   else (f_X9_isEither v2).bind (fun r_2 => (if r_2.toInt = 0 then some ((-1), M)
   else cb (f_X8_driestWay 1 M r_1 v2) (fun r_3 M_4 => some (r_3, M_4))))))
def f_X9_unlike_L51 (y3_5 : Int32) : Option Int32 :=
  some (ab y3_5)
def f_X9_unlike_B5 (M : Mem) (v1 : Int32) (v2 : Int32) (ag5 : Int32 → Int32 → Option Int32) (y3_5 : Int32) (y4_5 : Int32) : Option Int32 :=
  (if v2.toInt ≤ y4_5.toInt then (f_X9_unlike_L51 y3_5)
   else (if ((shr v1 y4_5) &&& (nI 1)).toInt = 0 then (f_X7_byteAt M y4_5).bind (fun r_1 => bnd (y3_5 + (-r_1)) (fun x_2 => (ag5 x_2 (y4_5 + (nI 1)))))
   else (f_X7_byteAt M y4_5).bind (fun r_3 => bnd (y3_5 + r_3) (fun x_4 => (ag5 x_4 (y4_5 + (nI 1)))))))
def f_X9_unlike (M : Mem) (v1 : Int32) (v2 : Int32) : Option Int32 :=
  (wlp2 (f_X9_unlike_B5 M v1 v2) FU (nI 0) (nI 0))
def f_X9_evenBag_B4 (M : Mem) (v1 : Int32) (ag4 : Int32 → Int32 → Option Int32) (y2_4 : Int32) (y3_4 : Int32) : Option Int32 :=
  (if (shl (nI 1) v1).toInt ≤ y3_4.toInt then some y2_4
   else (f_X9_unlike M y3_4 v1).bind (fun r_1 => (f_X9_unlike M y2_4 v1).bind (fun r_2 => (if r_2.toInt ≤ r_1.toInt then (ag4 y2_4 (y3_4 + (nI 2)))
   else (ag4 y3_4 (y3_4 + (nI 2)))))))
def f_X9_evenBag (M : Mem) (v1 : Int32) : Option Int32 :=
  (wlp2 (f_X9_evenBag_B4 M v1) FU (nI 1) (nI 1))
def f_X9_feed (M : Mem) (v1 : Int32) (v2 : Int32) (v3 : Int32) (v4 : Int32) (v5 : Int32) : Option (Int32 × Mem) :=
  (if ((M 19 1) + (nI 20)).toInt ≤ 260 then (f_X7_append M v1).bind (fun M_1 => (f_X7_append M_1 v2).bind (fun M_2 => (f_X7_append M_2 v3).bind (fun M_3 => (f_X7_append M_3 v4).bind (fun M_4 => (f_X7_append M_4 v5).bind (fun M_5 => some ((M_5 19 1), M_5))))))
   else some ((-1), M))
def f_X9_fewestThrows_B15 (S_X9_fewestThrows : Mem → Int32 → Int64 → Int32 → Int32 → Option Int32) (b : Nat) (M : Mem) (v1 : Int32) (v2 : Int64) (v4 : Int32) (v5 : Int32) (ag15 : Int32 → Int32 → Option Int32) (y6_15 : Int32) (y7_15 : Int32) : Option Int32 :=
  (if v4.toInt < y7_15.toInt then some y6_15
   else (if 40 ≤ y7_15.toInt then some y6_15
   else (f_X2_isDry b M y7_15).bind (fun r_1 => (if r_1.toInt = 0 then (ag15 y6_15 (y7_15 + (nI 1)))
   else (if (lg_cmp ((lshr v2 y7_15) &&& 1) 0).toInt = 0 then (f_X2_squares b M v1 y7_15).bind (fun r_2 => (S_X9_fewestThrows M y7_15 (v2 ||| (lshl 1 y7_15)) v4 (v5 - (nI 1))).bind (fun r_3 => bnd (r_2 + r_3) (fun x_4 => bnd (mn y6_15 x_4) (fun x_5 => (ag15 x_5 (y7_15 + (nI 1)))))))
   else (ag15 y6_15 (y7_15 + (nI 1))))))))
def f_X9_fewestThrows (S_X9_fewestThrows : Mem → Int32 → Int64 → Int32 → Int32 → Option Int32) (b : Nat) (M : Mem) (v1 : Int32) (v2 : Int64) (v4 : Int32) (v5 : Int32) : Option Int32 :=
  (if 0 < v5.toInt then (wlp2 (f_X9_fewestThrows_B15 S_X9_fewestThrows b M v1 v2 v4 v5) FU (nI 2147483647) (nI 0))
   else some (nI 0))
def g_throws (b : Nat) : Nat → Mem → Int32 → Int64 → Int32 → Int32 → Option Int32
  | 0 => fun _ _ _ _ _ => none
  | n + 1 => fun M v1 v2 v4 v5 => f_X9_fewestThrows (g_throws b n) b M v1 v2 v4 v5
def f_X9_firstNight_B25 (r_1 : Int32) (ag25 : Mem → Int32 → Option (Int32 × Mem)) (M25 : Mem) (y3_25 : Int32) : Option (Int32 × Mem) :=
  (if 60 < y3_25.toInt then some ((-2), M25)
   else cb (f_X8_canCross 13 M25 r_1) (fun r_3 M_4 => (if r_3.toInt = 0 then rl (M_4 0 10) (fun c_5 => (f_X5_pass 13 c_5 M_4 (nI 1)).bind (fun M_6 => (ag25 M_6 (y3_25 + (nI 1)))))
   else some (y3_25, M_4))))
def f_X9_firstNight (M : Mem) (v1 : Int32) : Option (Int32 × Mem) :=
  (f_X9_strideOf M v1).bind (fun r_1 => (if r_1.toInt = 0 then some ((-1), M)
   else (f_X2_copyAll 13 1 M).bind (fun M_2 => (wlp2 (f_X9_firstNight_B25 r_1) FU M_2 (nI 0)))))
def f_X9_hold (M : Mem) (v1 : Int32) : Option (Int32 × Mem) :=
  (f_X9_strideOf M v1).bind (fun r_1 => (if r_1.toInt = 0 then some ((-1), M)
   else (if r_1.toInt < 21 then cb (f_X1_fewest 1 M r_1) (fun r_2 M_3 => some (r_2, M_3))
   else some ((-2), M))))
def f_X9_howFar (M : Mem) (v1 : Int32) : Option (Int32 × Mem) :=
  (f_X9_strideOf M v1).bind (fun r_1 => (if r_1.toInt = 0 then some ((-1), M)
   else cb (f_X8_farthest 1 M r_1) (fun r_2 M_3 => some (r_2, M_3))))
def f_X9_isNights (v0 : Int32) : Option Int32 :=
  (if v0.toInt < 1 then some (nI 0)
   else (if 60 < v0.toInt then some (nI 0)
   else some (nI 1)))
def f_X9_isStride (v0 : Int32) : Option Int32 :=
  (if v0.toInt < 1 then some (nI 0)
   else (if 30 < v0.toInt then some (nI 0)
   else some (nI 1)))
def f_X9_islands (M : Mem) (v1 : Int32) (v2 : Int32) : Option (Int32 × Mem) :=
  (f_X9_isStride v1).bind (fun r_1 => (if r_1.toInt = 0 then some ((-1), M)
   else (if v2.toInt = 100 then cb (f_X8_countIslands 1 M v1) (fun r_5 M_6 => some (r_5, M_6))
   else (f_X2_isTold 1 M v2).bind (fun r_2 => (if r_2.toInt = 0 then some ((-1), M)
   else cb (f_X8_islandSize 1 M v1 v2) (fun r_3 M_4 => some (r_3, M_4)))))))
def f_X9_keep (M : Mem) : Option (Int32 × Mem) :=
  (f_X2_copyAll 7 1 M).bind (fun M_1 => bnd (mset M_1 0 12 (nI 1)) (fun M_2 => some ((M_2 1 5), M_2)))
def f_X9_key_L94 (v2 : Int32) (M59 : Mem) (y4_59 : Int32) (y5_59 : Int32) : Option (Int32 × Mem) :=
  (if v2.toInt = 0 then some (y4_59, M59)
   else some (y5_59, M59))
def f_X9_key_B59 (v2 : Int32) (r_1 : Int32) (ag59 : Mem → Int32 → Int32 → Int32 → Option (Int32 × Mem)) (M59 : Mem) (y4_59 : Int32) (y5_59 : Int32) (y6_59 : Int32) : Option (Int32 × Mem) :=
  (if y6_59.toInt < 0 then (f_X9_key_L94 v2 M59 y4_59 y5_59)
   else cb (f_X8_needs 13 M59 r_1 y6_59) (fun r_6 M_7 => (if r_6.toInt = 0 then (ag59 M_7 y4_59 y5_59 (y6_59 + (-1)))
   else (ag59 M_7 (y4_59 + (nI 1)) y6_59 (y6_59 + (-1))))))
def f_X9_key (M : Mem) (v1 : Int32) (v2 : Int32) : Option (Int32 × Mem) :=
  (f_X9_strideOf M v1).bind (fun r_1 => (if r_1.toInt = 0 then some ((-1), M)
   else (f_X9_isEither v2).bind (fun r_2 => (if r_2.toInt = 0 then some ((-1), M)
   else cb (f_X8_canCross 1 M r_1) (fun r_3 M_4 => (if r_3.toInt = 0 then some ((-3), M_4)
   else (f_X2_copyAll 13 1 M_4).bind (fun M_5 => (wlp4 (f_X9_key_B59 v2 r_1) FU M_5 (nI 0) (-2) (nI 39)))))))))
def f_X9_law (M : Mem) (v1 : Int32) : Option (Int32 × Mem) :=
  (f_X7_holds M v1 (nI 1) (nI 240)).bind (fun r_1 => (if r_1.toInt = 0 then some ((-1), M)
   else (f_X7_open M v1).bind (fun M_2 => rl (M_2 0 11) (fun c_3 => cb (f_X3_compile c_3 M_2) (fun r_4 M_5 => (if r_4.toInt ≤ 0 then some (r_4, M_5)
   else rl (M_5 0 10) (fun c_6 => rl (M_5 0 11) (fun c_7 => bnd (mset M_5 0 10 (nI c_7)) (fun M_8 => bnd (mset M_8 0 11 (nI c_6)) (fun M_9 => some (r_4, M_9)))))))))))
def f_X9_leastStride_B2  (ag2 : Mem → Int32 → Option (Int32 × Mem)) (M2 : Mem) (y1_2 : Int32) : Option (Int32 × Mem) :=
  (if 30 < y1_2.toInt then some ((-2), M2)
   else cb (f_X8_canCross 1 M2 y1_2) (fun r_1 M_2 => (if r_1.toInt = 0 then (ag2 M_2 (y1_2 + (nI 1)))
   else some (y1_2, M_2))))
def f_X9_leastStride (M : Mem) : Option (Int32 × Mem) :=
  (wlp2 f_X9_leastStride_B2 FU M (nI 1))
def f_X9_letters_L58 (v1 : Int32) (v2 : Int32) (M_3 : Mem) : Option (Int32 × Mem) :=
  (f_X9_evenBag M_3 v1).bind (fun r_4 => (if v2.toInt = 0 then (f_X9_unlike M_3 r_4 v1).bind (fun r_5 => some (r_5, M_3))
   else some (r_4, M_3)))
def f_X9_letters_B33 (v1 : Int32) (v2 : Int32) (M_3 : Mem) (ag33 : Int32 → Option (Int32 × Mem)) (y3_33 : Int32) : Option (Int32 × Mem) :=
  (if v1.toInt ≤ y3_33.toInt then (f_X9_letters_L58 v1 v2 M_3)
   else (f_X7_byteAt M_3 y3_33).bind (fun r_6 => (if r_6.toInt = 0 then some ((-2), M_3)
   else (ag33 (y3_33 + (nI 1))))))
def f_X9_letters (M : Mem) (v1 : Int32) (v2 : Int32) : Option (Int32 × Mem) :=
  (f_X9_isEither v2).bind (fun r_1 => (if r_1.toInt = 0 then some ((-1), M)
   else (f_X7_holds M v1 (nI 1) (nI 8)).bind (fun r_2 => (if r_2.toInt = 0 then some ((-1), M)
   else (f_X7_open M v1).bind (fun M_3 => (wlp1 (f_X9_letters_B33 v1 v2 M_3) FU (nI 0)))))))
def f_X9_market_B4  (ag4 : Mem → Int32 → Int32 → Option (Int32 × Mem)) (M4 : Mem) (y1_4 : Int32) (y2_4 : Int32) : Option (Int32 × Mem) :=
  (if 8 ≤ y2_4.toInt then some (y1_4, M4)
   else gd y2_4 8 ((if (M4 43 (ix y2_4)).toInt = 0 then (ag4 M4 y1_4 (y2_4 + (nI 1)))
   else gd y2_4 8 (cb (f_X8_canCross 1 M4 (M4 43 (ix y2_4))) (fun r_1 M_2 => (if r_1.toInt = 0 then (ag4 M_2 y1_4 (y2_4 + (nI 1)))
   else bnd (y1_4 ||| (shl (nI 1) y2_4)) (fun x_3 => (ag4 M_2 x_3 (y2_4 + (nI 1))))))))))
def f_X9_market (M : Mem) : Option (Int32 × Mem) :=
  (wlp3 f_X9_market_B4 FU M (nI 0) (nI 0))
def f_X9_meet (M : Mem) (v1 : Int32) (v2 : Int32) (v3 : Int32) : Option (Int32 × Mem) :=
  (f_X9_strideOf M v1).bind (fun r_1 => (f_X9_strideOf M v2).bind (fun r_2 => (if r_1.toInt = 0 then some ((-1), M)
   else (if r_2.toInt = 0 then some ((-1), M)
   else (f_X9_isEither v3).bind (fun r_3 => (if r_3.toInt = 0 then some ((-1), M)
   else cb (f_X8_meeting 1 M r_1 r_2 v3) (fun r_4 M_5 => some (r_4, M_5))))))))
def f_X9_nights (M : Mem) (v1 : Int32) : Option (Int32 × Mem) :=
  (f_X9_isNights v1).bind (fun r_1 => (if r_1.toInt = 0 then some ((-1), M)
   else rl (M 0 10) (fun c_2 => (f_X5_pass 1 c_2 M v1).bind (fun M_3 => some ((M_3 21 1), M_3)))))
def f_X9_readLine_L79 (x_6 : Int32) (M_8 : Mem) : Option (Int32 × Mem) :=
  cb (f_X7_refuse M_8 (nI 3) x_6) (fun r_9 M_10 => gb r_9 (some (r_9, M_10)))
def f_X9_readLine_L199 (b : Nat) (v2 : Int32) (r_2 : Int32) (r_7 : Int32) (z7_168 : Int32) (t0_182 : Int32) (N199 : Mem) : Option (Int32 × Mem) :=
  (f_X2_lay b N199 v2 r_2 r_7 z7_168 t0_182).bind (fun M_14 => some ((nI 1), M_14))
def f_X9_readLine_L182 (b : Nat) (v2 : Int32) (r_2 : Int32) (r_7 : Int32) (N168 : Mem) (z7_168 : Int32) (t0_182 : Int32) : Option (Int32 × Mem) :=
  (if t0_182.toInt = 0 then (f_X9_readLine_L199 b v2 r_2 r_7 z7_168 t0_182 N168)
   else bnd (mset N168 19 3 ((N168 19 3) + (nI 1))) (fun M_15 => (f_X9_readLine_L199 b v2 r_2 r_7 z7_168 t0_182 M_15)))
def f_X9_readLine_L168 (b : Nat) (v2 : Int32) (r_2 : Int32) (r_7 : Int32) (N168 : Mem) (z7_168 : Int32) : Option (Int32 × Mem) :=
  (f_X7_here N168).bind (fun r_13 => (if r_13.toInt = 117 then (f_X9_readLine_L182 b v2 r_2 r_7 N168 z7_168 (nI 1))
   else (f_X9_readLine_L182 b v2 r_2 r_7 N168 z7_168 (nI 0))))
def f_X9_readLine (b : Nat) (M : Mem) (v2 : Int32) : Option (Int32 × Mem) :=
  bnd (M 19 3) (fun x_1 => cb (f_X7_number M (nI 2)) (fun r_2 M_3 => (if r_2.toInt = -1 then some ((nI 0), M_3)
   else (if r_2.toInt ≤ 39 then cb (f_X7_skip M_3 (nI 44)) (fun r_4 M_5 => (if r_4.toInt = 0 then some ((nI 0), M_5)
   else bnd (M_5 19 3) (fun x_6 => cb (f_X7_number M_5 (nI 2)) (fun r_7 M_8 => (if r_7.toInt = -1 then some ((nI 0), M_8)
   else (if r_7.toInt < 1 then (f_X9_readLine_L79 x_6 M_8)
   else (if r_7.toInt ≤ 20 then (f_X2_stoneAt b M_8 r_2 r_7).bind (fun r_11 => (if r_11.toInt = -1 then (f_X7_here M_8).bind (fun r_12 => (if r_12.toInt = 115 then bnd (mset M_8 19 3 ((M_8 19 3) + (nI 1))) (fun M_16 => (f_X7_here M_16).bind (fun r_17 => (f_X7_isDigit r_17).bind (fun r_18 => (if r_18.toInt = 0 then cb (f_X7_refuse M_16 (nI 1) (M_16 19 3)) (fun r_21 M_22 => gb r_21 (some (r_21, M_22)))
   else (f_X7_here M_16).bind (fun r_19 => bnd (mset M_16 19 3 ((M_16 19 3) + (nI 1))) (fun M_20 => (f_X9_readLine_L168 b v2 r_2 r_7 M_20 (r_19 - (nI 48)))))))))
   else (f_X9_readLine_L168 b v2 r_2 r_7 M_8 (nI 0))))
   else cb (f_X7_refuse M_8 (nI 6) x_1) (fun r_23 M_24 => gb r_23 (some (r_23, M_24)))))
   else (f_X9_readLine_L79 x_6 M_8))))))))
   else cb (f_X7_refuse M_3 (nI 3) x_1) (fun r_25 M_26 => gb r_25 (some (r_25, M_26)))))))
def f_X9_readNotebook_L74 (M6 : Mem) (t0_74 : Int32) : Option (Int32 × Mem) :=
  cb (f_X7_refuse M6 t0_74 (M6 19 3)) (fun r_4 M_5 => some ((M_5 19 4), M_5))
def f_X9_readNotebook_L58 (M6 : Mem) : Option (Int32 × Mem) :=
  (f_X7_here M6).bind (fun r_2 => (f_X7_isDigit r_2).bind (fun r_3 => (if r_3.toInt = 0 then (f_X9_readNotebook_L74 M6 (nI 1))
   else (f_X9_readNotebook_L74 M6 (nI 4)))))
def f_X9_readNotebook_B6 (b : Nat) (ag6 : Mem → Int32 → Option (Int32 × Mem)) (M6 : Mem) (y2_6 : Int32) : Option (Int32 × Mem) :=
  (if 40 ≤ y2_6.toInt then (f_X9_readNotebook_L58 M6)
   else cb (f_X9_readLine b M6 y2_6) (fun r_6 M_7 => (if r_6.toInt = 0 then some ((M_7 19 4), M_7)
   else (f_X7_here M_7).bind (fun r_8 => (if r_8.toInt = -1 then some ((y2_6 + (nI 1)), M_7)
   else cb (f_X7_skip M_7 (nI 59)) (fun r_9 M_10 => (if r_9.toInt = 0 then some ((M_10 19 4), M_10)
   else (ag6 M_10 (y2_6 + (nI 1))))))))))
def f_X9_readNotebook (b : Nat) (M : Mem) : Option (Int32 × Mem) :=
  (f_X2_clearStones b M).bind (fun M_1 => (wlp2 (f_X9_readNotebook_B6 b) FU M_1 (nI 0)))
def f_X9_notebook (M : Mem) (v1 : Int32) : Option (Int32 × Mem) :=
  (f_X7_holds M v1 (nI 1) (nI 200)).bind (fun r_1 => (if r_1.toInt = 0 then some ((-1), M)
   else (f_X7_open M v1).bind (fun M_2 => cb (f_X9_readNotebook 13 M_2) (fun r_3 M_4 => (if r_3.toInt ≤ 0 then some (r_3, M_4)
   else (f_X2_copyStones 1 13 M_4).bind (fun M_5 => some (r_3, M_5)))))))
def f_X9_oneMore (M : Mem) (v1 : Int32) (v2 : Int32) : Option (Int32 × Mem) :=
  (f_X9_strideOf M v1).bind (fun r_1 => (if r_1.toInt = 0 then some ((-1), M)
   else (f_X9_isEither v2).bind (fun r_2 => (if r_2.toInt = 0 then some ((-1), M)
   else cb (f_X8_helpfulPlace 1 M r_1 v2) (fun r_3 M_4 => some (r_3, M_4))))))
def f_X9_person (M : Mem) (v1 : Int32) (v2 : Int32) : Option (Int32 × Mem) :=
  (if v1.toInt < 0 then some ((nI 0), M)
   else (if 8 ≤ v1.toInt then some ((nI 0), M)
   else (f_X9_isStride v2).bind (fun r_1 => (if r_1.toInt = 0 then some ((nI 0), M)
   else gd v1 8 (bnd (mset M 43 (ix v1) v2) (fun M_2 => some ((nI 1), M_2)))))))
def f_X9_seed (M : Mem) (v1 : Int32) : Option (Int32 × Mem) :=
  (if v1.toInt < 0 then some ((nI 0), M)
   else (if v1.toInt ≤ 65535 then bnd (mset M 1 6 v1) (fun M_1 => some ((nI 1), M_1))
   else some ((nI 0), M)))
def f_X9_shape (M : Mem) (v1 : Int32) : Option Int32 :=
  (if v1.toInt = 0 then (f_X6_line 1 M).bind (fun r_1 => some r_1)
   else (if v1.toInt = 1 then (f_X6_yardApart 1 M).bind (fun r_2 => some r_2)
   else (if v1.toInt = 2 then (f_X6_pairs 1 M).bind (fun r_3 => some r_3)
   else (if v1.toInt = 3 then (f_X6_closest 1 M).bind (fun r_4 => some r_4)
   else some (-1)))))
def f_X9_stone_L54 (M : Mem) (v1 : Int32) (v2 : Int32) (v3 : Int32) (v4 : Int32) : Option (Int32 × Mem) :=
  (f_X2_lay 1 M v1 v2 v3 v4 (nI 0)).bind (fun M_4 => some ((nI 1), M_4))
def f_X9_stone (M : Mem) (v1 : Int32) (v2 : Int32) (v3 : Int32) (v4 : Int32) : Option (Int32 × Mem) :=
  (f_X9_isStone v1).bind (fun r_1 => (if r_1.toInt = 0 then some ((nI 0), M)
   else (f_X9_isPlace v2 v3).bind (fun r_2 => (if r_2.toInt = 0 then some ((nI 0), M)
   else (if v4.toInt < 0 then some ((nI 0), M)
   else (if v4.toInt ≤ 9 then (f_X2_stoneAt 1 M v2 v3).bind (fun r_3 => (if r_3.toInt = -1 then (f_X9_stone_L54 M v1 v2 v3 v4)
   else (if r_3.toInt = v1.toInt then (f_X9_stone_L54 M v1 v2 v3 v4)
   else some ((nI 0), M))))
   else some ((nI 0), M)))))))
def f_X9_stoneIs (M : Mem) (v1 : Int32) (v2 : Int32) : Option Int32 :=
  (f_X2_isTold 1 M v1).bind (fun r_1 => (if r_1.toInt = 0 then some (-1)
   else (if v2.toInt = 0 then gd v1 40 (some (M 2 (ix v1)))
   else (if v2.toInt = 1 then gd v1 40 (some (M 3 (ix v1)))
   else (if v2.toInt = 2 then gd v1 40 (some (M 4 (ix v1)))
   else (if v2.toInt = 3 then gd v1 40 ((if (M 6 (ix v1)).toInt = 0 then some (nI 0)
   else some (nI 1)))
   else (if v2.toInt = 4 then (f_X2_countClose 1 M v1).bind (fun r_2 => some r_2)
   else some (-1))))))))
def f_X9_take (M : Mem) (v1 : Int32) : Option (Int32 × Mem) :=
  (f_X2_isTold 1 M v1).bind (fun r_1 => (if r_1.toInt = 0 then some ((nI 0), M)
   else gd v1 40 (bnd (mset M 5 (ix v1) (vp_nar .boolean (nI 0))) (fun M_2 => some ((nI 1), M_2)))))
def f_X9_thrown_L55 (M : Mem) (v1 : Int32) (r_1 : Int32) (y3_27 : Int32) : Option Int32 :=
  (if y3_27.toInt = -1 then some (-2)
   else (g_throws 1 7 M r_1 (lshl 1 r_1) y3_27 (v1 - (nI 1))).bind (fun r_2 => some r_2))
def f_X9_thrown_B27 (M : Mem) (v1 : Int32) (r_1 : Int32) (ag27 : Int32 → Int32 → Option Int32) (y3_27 : Int32) (y4_27 : Int32) : Option Int32 :=
  (if v1.toInt ≤ y4_27.toInt then (f_X9_thrown_L55 M v1 r_1 y3_27)
   else (if y3_27.toInt = -1 then (f_X9_thrown_L55 M v1 r_1 y3_27)
   else (f_X2_nextDry 1 M (y3_27 + (nI 1))).bind (fun r_3 => (ag27 r_3 (y4_27 + (nI 1))))))
def f_X9_thrown (M : Mem) (v1 : Int32) : Option Int32 :=
  (if v1.toInt < 1 then some (-1)
   else (if v1.toInt ≤ 6 then (f_X2_nextDry 1 M (nI 0)).bind (fun r_1 => (wlp2 (f_X9_thrown_B27 M v1 r_1) FU r_1 (nI 1)))
   else some (-1)))
def f_X9_tried_L83 (M : Mem) (v1 : Int32) (v2 : Int32) (t0_25 : Int32) (t0_53 : Int32) : Option (Int32 × Mem) :=
  (f_X2_copyAll 13 1 M).bind (fun M_2 => rl (M_2 0 10) (fun c_3 => (f_X5_pass 13 c_3 M_2 v1).bind (fun M_4 => (if t0_25.toInt = 0 then (if t0_53.toInt = 0 then (if v2.toInt = 0 then some ((M_4 21 1), M_4)
   else (if v2.toInt = 1 then some ((M_4 21 2), M_4)
   else (if v2.toInt = 2 then (f_X2_countSunk 13 M_4).bind (fun r_5 => some (r_5, M_4))
   else (f_X2_sumOfX 13 M_4).bind (fun r_6 => (f_X2_sumOfX 1 M_4).bind (fun r_7 => some ((r_6 - r_7), M_4))))))
   else gd (v2 - (nI 200)) 40 (some ((M_4 15 (ix (v2 - (nI 200)))), M_4)))
   else gd (v2 - (nI 100)) 40 (some ((M_4 14 (ix (v2 - (nI 100)))), M_4))))))
def f_X9_tried_L71 (M : Mem) (v1 : Int32) (v2 : Int32) (t0_25 : Int32) (t0_53 : Int32) : Option (Int32 × Mem) :=
  (if t0_25.toInt = 0 then (if t0_53.toInt = 0 then some ((-100000), M)
   else (f_X9_tried_L83 M v1 v2 t0_25 t0_53))
   else (f_X9_tried_L83 M v1 v2 t0_25 t0_53))
def f_X9_tried_L53 (M : Mem) (v1 : Int32) (v2 : Int32) (t0_25 : Int32) (t0_53 : Int32) : Option (Int32 × Mem) :=
  (f_X9_isNights v1).bind (fun r_1 => (if r_1.toInt = 0 then some ((-100000), M)
   else (if v2.toInt < 0 then (f_X9_tried_L71 M v1 v2 t0_25 t0_53)
   else (if v2.toInt ≤ 3 then (f_X9_tried_L83 M v1 v2 t0_25 t0_53)
   else (f_X9_tried_L71 M v1 v2 t0_25 t0_53)))))
def f_X9_tried_L52 (M : Mem) (v1 : Int32) (v2 : Int32) (t0_25 : Int32) : Option (Int32 × Mem) :=
  (f_X9_tried_L53 M v1 v2 t0_25 (nI 0))
def f_X9_tried_L25 (M : Mem) (v1 : Int32) (v2 : Int32) (t0_25 : Int32) : Option (Int32 × Mem) :=
  (if v2.toInt < 200 then (f_X9_tried_L52 M v1 v2 t0_25)
   else (f_X2_isTold 1 M (v2 - (nI 200))).bind (fun r_8 => (if r_8.toInt = 0 then (f_X9_tried_L52 M v1 v2 t0_25)
   else (f_X9_tried_L53 M v1 v2 t0_25 (nI 1)))))
def f_X9_tried_L24 (M : Mem) (v1 : Int32) (v2 : Int32) : Option (Int32 × Mem) :=
  (f_X9_tried_L25 M v1 v2 (nI 0))
def f_X9_tried (M : Mem) (v1 : Int32) (v2 : Int32) : Option (Int32 × Mem) :=
  (if v2.toInt < 100 then (f_X9_tried_L24 M v1 v2)
   else (f_X2_isTold 1 M (v2 - (nI 100))).bind (fun r_9 => (if r_9.toInt = 0 then (f_X9_tried_L24 M v1 v2)
   else (f_X9_tried_L25 M v1 v2 (nI 1)))))
def f_X9_under (M : Mem) (v1 : Int32) (v2 : Int32) : Option (Int32 × Mem) :=
  (f_X2_isTold 1 M v1).bind (fun r_1 => (if r_1.toInt = 0 then some ((nI 0), M)
   else gd v1 40 (bnd (mset M 6 (ix v1) (vp_nar .boolean v2)) (fun M_2 => some ((nI 1), M_2)))))
def f_X9_undo (M : Mem) : Option (Int32 × Mem) :=
  (if (M 0 12).toInt = 0 then gb (M 0 12) (some ((M 0 12), M))
   else (f_X2_copyAll 1 7 M).bind (fun M_1 => gb (M_1 0 12) (some ((M_1 0 12), M_1))))
def f_X9_walk (M : Mem) (v1 : Int32) (v2 : Int32) (v3 : Int32) (v4 : Int32) : Option (Int32 × Mem) :=
  (f_X9_strideOf M v1).bind (fun r_1 => (if r_1.toInt = 0 then some ((-1), M)
   else (if v2.toInt < 0 then some ((-1), M)
   else (if 39 < v2.toInt then some ((-1), M)
   else (if v4.toInt < 0 then some ((-1), M)
   else (if 3 < v4.toInt then some ((-1), M)
   else (f_X7_holds M v3 (nI 1) (nI 60)).bind (fun r_2 => (if r_2.toInt = 0 then some ((-1), M)
   else (f_X7_open M v3).bind (fun M_3 => cb (f_X4_read M_3) (fun r_4 M_5 => (if r_4.toInt = 0 then some ((M_5 19 4), M_5)
   else (f_X4_go 1 M_5 r_1 v2).bind (fun M_6 => (if v4.toInt = 0 then some ((M_6 34 3), M_6)
   else (if v4.toInt = 1 then some ((M_6 34 5), M_6)
   else (if v4.toInt = 2 then some ((M_6 34 4), M_6)
   else (if (M_6 34 5).toInt = 21 then some ((nI 1), M_6)
   else some ((nI 0), M_6)))))))))))))))))
