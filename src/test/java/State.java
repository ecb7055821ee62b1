import java.util.ArrayList;
import java.util.List;

/** All that can be asked of a ford without a change of it, and a comparison of two that should be alike. */
final class State {
    private State() {
    }

    static List<Integer> of(SteppingStones f) {
        List<Integer> state = new ArrayList<>();
        for (int what = 0; what < 18; what++) {
            state.add(f.count(what));
        }
        for (int i = 0; i < 40; i++) {
            for (int what = 0; what < 4; what++) {
                state.add(f.stoneIs(i, what));
            }
        }
        // The law and the draws are seen by what they will do.
        for (int what = 0; what < 4; what++) {
            state.add(f.tried(2, what));
        }
        return state;
    }

    /** Asks both for all they are, for the bytes on their tapes, and for what they kept. */
    static void same(String call, SteppingStones f, SteppingStones twin) {
        List<Integer> state = of(f);
        List<Integer> due = of(twin);
        Due.is(call + ": state " + state + " and of the twin " + due, state.equals(due), true);
        int n = Math.min(40, twin.count(5));
        Due.is(call + ": the tape's bytes", f.check(n), twin.check(n));
        Due.is(call + ": undo", f.undo(), twin.undo());
        Due.is(call + ": what was kept", of(f).equals(of(twin)), true);
    }
}
