/** Counts wrong answers; a test ends with exit code 1 if there was one. */
final class Check {
    private static int checked = 0;
    private static int wrong = 0;
    private static String about = "";

    private Check() {
    }

    /** A call that is to throw. */
    interface Call {
        void make();
    }

    /** Names the promise and the sentence of the document that the checks from here on are of. */
    static void sentence(String promise, String words) {
        about = promise + ", \"" + words + "\": ";
    }

    /** As above, for one of several cases that the sentence has. */
    static void sentence(String promise, String words, String which) {
        sentence(promise, words);
        about = about + which + ": ";
    }

    static void equal(String what, Object got, Object due) {
        checked++;
        if (!due.equals(got)) {
            wrong++;
            System.out.println(about + what + ": answered " + got + ", due is " + due);
        }
    }

    /** The class must be the very one: what the machine throws is often a class below it. */
    static void throwing(String what, Class<? extends RuntimeException> due, Call call) {
        checked++;
        try {
            call.make();
        } catch (RuntimeException e) {
            if (e.getClass() != due) {
                wrong++;
                System.out.println(about + what + ": threw " + e.getClass() + ", due is " + due);
            }
            return;
        }
        wrong++;
        System.out.println(about + what + ": threw nothing, due is " + due);
    }

    static void outOfBounds(String what, Call call) {
        throwing(what, IndexOutOfBoundsException.class, call);
    }

    static void badArgument(String what, Call call) {
        throwing(what, IllegalArgumentException.class, call);
    }

    static void badState(String what, Call call) {
        throwing(what, IllegalStateException.class, call);
    }

    static void end(String test) {
        System.out.println(test + ": " + checked + " checks, " + wrong + " wrong");
        if (wrong != 0 || checked == 0) {
            System.exit(1);
        }
    }
}
