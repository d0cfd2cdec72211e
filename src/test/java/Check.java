import java.io.IOException;
import java.nio.file.Files;
import java.nio.file.Path;
import java.util.LinkedHashSet;
import java.util.Set;

/** Counts wrong answers; a test ends with exit code 1 if there was one. */
final class Check {
    /** Made by .ci/run: what the tests have looked at is left here for WholeDocument. */
    static final Path LOOKED_AT = Path.of("build", "sentences");

    private static final Set<String> lookedAt = new LinkedHashSet<>();
    private static int checked = 0;
    private static int wrong = 0;
    private static String about = "";
    private static String sentence = "";

    private Check() {
    }

    /** A call that is to throw. */
    interface Call {
        void make();
    }

    /** Names the promise and the sentence of the document that the checks from here on are of. */
    static void sentence(String promise, String words) {
        about = promise + ", \"" + words + "\": ";
        sentence = promise + "\t" + words;
    }

    /** As above, for one of several cases that the sentence has. */
    static void sentence(String promise, String words, String which) {
        sentence(promise, words);
        about = about + which + ": ";
    }

    /** Names something that is no sentence of the document. */
    static void about(String what) {
        about = what + ": ";
        sentence = "";
    }

    static void equal(String what, Object got, Object due) {
        count();
        if (!due.equals(got)) {
            wrong++;
            System.out.println(about + what + ": answered " + got + ", due is " + due);
        }
    }

    /** The class must be the very one: what the machine throws is often a class below it. */
    static void throwing(String what, Class<? extends RuntimeException> due, Call call) {
        count();
        try {
            call.make();
        } catch (RuntimeException e) {
            if (e.getClass() != due) {
                wrong++;
                System.out.println(about + what + ": threw " + e.getClass() + ", due is " + due);
            }
            return;
        }
        wrong++;
        System.out.println(about + what + ": threw nothing, due is " + due);
    }

    /** A sentence counts as looked at only with a check behind it. */
    private static void count() {
        checked++;
        if (!sentence.isEmpty()) {
            lookedAt.add(sentence);
        }
    }

    static void outOfBounds(String what, Call call) {
        throwing(what, IndexOutOfBoundsException.class, call);
    }

    static void badArgument(String what, Call call) {
        throwing(what, IllegalArgumentException.class, call);
    }

    static void badState(String what, Call call) {
        throwing(what, IllegalStateException.class, call);
    }

    static void end(String test) {
        System.out.println(test + ": " + checked + " checks, " + wrong + " wrong");
        if (wrong != 0 || checked == 0 || !isLeft(test)) {
            System.exit(1);
        }
    }

    private static boolean isLeft(String test) {
        try {
            if (Files.isDirectory(LOOKED_AT)) {
                Files.write(LOOKED_AT.resolve(test), lookedAt);
            }
            return true;
        } catch (IOException e) {
            System.out.println(test + ": what it has looked at cannot be written: " + e);
            return false;
        }
    }
}
