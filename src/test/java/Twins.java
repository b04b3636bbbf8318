import java.util.ArrayList;
import java.util.List;

/**
 * Makes a call on one case and compares it with a twin on which it was not made: the state, and all saved
 * states, too, which a digest alone does not show.
 */
final class Twins {
    interface Maker {
        SortsCase make();
    }

    interface Call {
        void on(SortsCase x);
    }

    private static final int TOO_MANY_SAVED = 10;

    private Twins() {
    }

    /** Digests without the number of saved states: the state now, and behind each undo. Uses the case up. */
    static List<Long> states(SortsCase x) {
        List<Long> digests = new ArrayList<>();
        digests.add(x.digest());
        while (digests.size() < TOO_MANY_SAVED && undone(x)) {
            digests.add(x.digest());
        }
        List<Long> states = new ArrayList<>();
        for (int index = 0; index < digests.size(); index++) {
            states.add(digests.get(index) - (digests.size() - 1 - index));
        }
        return states;
    }

    private static boolean undone(SortsCase x) {
        try {
            x.undo();
            return true;
        } catch (IllegalStateException e) {
            return false;
        }
    }

    /** The call throws just this exception and changes nothing, the saved states neither. */
    static void refused(String what, Maker maker, Class<? extends RuntimeException> want, Call call) {
        SortsCase x = maker.make();
        Class<?> got = null;
        try {
            call.on(x);
        } catch (RuntimeException e) {
            got = e.getClass();
        }
        Check.that(what + " threw " + got + ", due is " + want, got == want);
        Check.that(what + " changes nothing", states(x).equals(states(maker.make())));
    }

    static void noIndex(String what, Maker maker, Call call) {
        refused(what, maker, IndexOutOfBoundsException.class, call);
    }

    static void badArgument(String what, Maker maker, Call call) {
        refused(what, maker, IllegalArgumentException.class, call);
    }

    static void badState(String what, Maker maker, Call call) {
        refused(what, maker, IllegalStateException.class, call);
    }

    /** The call changes nothing and saves nothing. */
    static void asks(String what, Maker maker, Call call) {
        SortsCase x = maker.make();
        call.on(x);
        Check.that(what + " changes nothing", states(x).equals(states(maker.make())));
    }

    /** The call saves the state from before it; with four saved ones the oldest is dropped, and only then. */
    static void saves(String what, Maker maker, Call call) {
        SortsCase x = maker.make();
        call.on(x);
        List<Long> got = states(x);
        List<Long> before = states(maker.make());
        List<Long> due = before.subList(0, Math.min(before.size(), 4));
        Check.that(what + " saves the state from before it", got.subList(1, got.size()).equals(due));
    }

    /** The call saves the state from before it, and is seen to have changed it. */
    static void savesAndChanges(String what, Maker maker, Call call) {
        saves(what, maker, call);
        SortsCase x = maker.make();
        call.on(x);
        Check.that(what + " changes the state", !states(x).get(0).equals(states(maker.make()).get(0)));
    }

    /** The call saves the state from before it, even though it changes nothing. */
    static void savesUnchanged(String what, Maker maker, Call call) {
        saves(what, maker, call);
        SortsCase x = maker.make();
        call.on(x);
        Check.that(what + " changes nothing but what is saved",
                states(x).get(0).equals(states(maker.make()).get(0)));
    }
}
