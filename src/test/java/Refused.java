/**
 * Calls that are to throw, each looked at in two ways: what it throws is of the very class, and it
 * changes nothing (Terms: "A call that throws an exception changes nothing"): the object is
 * afterwards as one that was made in the same way and never got the call.
 */
final class Refused {
    private Refused() {
    }

    /** Makes the object as it is before the call, the same each time. */
    interface Opening {
        DeskPlanner open();
    }

    /** A call that is to throw. */
    interface Call {
        void make(DeskPlanner planner);
    }

    static void outOfBounds(String what, Opening office, Call call) {
        check(what, IndexOutOfBoundsException.class, office, call);
    }

    static void badArgument(String what, Opening office, Call call) {
        check(what, IllegalArgumentException.class, office, call);
    }

    static void badState(String what, Opening office, Call call) {
        check(what, IllegalStateException.class, office, call);
    }

    private static void check(String what, Class<? extends RuntimeException> due, Opening office,
            Call call) {
        DeskPlanner refused = office.open();
        Check.throwing(what, due, () -> call.make(refused));
        Check.equal(what + ", and it changes nothing", Everything.of(refused),
            Everything.of(office.open()));
    }
}
