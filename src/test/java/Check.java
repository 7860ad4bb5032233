import java.util.NoSuchElementException;

/** What the tests of the promises share: they tell what is due and count what is not so. */
final class Check {
    static final Class<?> INDEX = IndexOutOfBoundsException.class;
    static final Class<?> ARGUMENT = IllegalArgumentException.class;
    static final Class<?> STATE = IllegalStateException.class;
    static final Class<?> ELEMENT = NoSuchElementException.class;

    interface Call {
        void run();
    }

    private static int wrong = 0;
    private static int checked = 0;

    private Check() {
    }

    static void due(String what, long got, long want) {
        checked++;
        if (got != want) {
            wrong++;
            System.out.println(what + ": answered " + got + ", due is " + want);
        }
    }

    static void due(String what, boolean got, boolean want) {
        due(what, got ? 1 : 0, want ? 1 : 0);
    }

    static void due(String what, String got, String want) {
        checked++;
        if (!got.equals(want)) {
            wrong++;
            System.out.println(what + ": answered " + got + ", due is " + want);
        }
    }

    /** The very class is due, and the class under test has to have thrown it by its own hand. */
    static void fails(String what, Class<?> want, Call call) {
        checked++;
        try {
            call.run();
        } catch (RuntimeException e) {
            boolean byHand = e.getStackTrace().length > 0 && e.getStackTrace()[0].getClassName().startsWith("Threewayleaf");
            if (e.getClass() == want && byHand) {
                return;
            }
            wrong++;
            System.out.println(what + ": threw " + e + ", due is " + want);
            return;
        }
        wrong++;
        System.out.println(what + ": threw nothing, due is " + want);
    }

    /** The same, and the call has to leave the object as it was: all that it tells is compared. */
    static void refused(String what, Threewayleaf x, Class<?> want, Call call) {
        String before = tellAll(x);
        fails(what, want, call);
        due(what + ": what the object tells then", tellAll(x), before);
    }

    /** All that an object tells of its versions, branches, nodes and words. */
    static String tellAll(Threewayleaf x) {
        StringBuilder out = new StringBuilder();
        for (int node = 0; isKnown(x, node); node++) {
            out.append(x.kind(node)).append(',');
        }
        for (int version = 0; version < x.versions(); version++) {
            out.append("\nversion ").append(x.parent(version, 0)).append(' ').append(x.parent(version, 1));
            out.append(tellView(x, version));
        }
        for (int branch = 0; isBranch(x, branch); branch++) {
            out.append("\nbranch ").append(x.head(branch)).append(' ').append(x.isClean(branch));
            out.append(tellView(x, -1 - branch)).append(' ').append(scriptOf(x, x.head(branch), -1 - branch));
        }
        return out.toString();
    }

    private static String tellView(Threewayleaf x, int view) {
        return " " + x.print(view) + ' ' + x.conflicts(view) + ' ' + scriptOf(x, 0, view);
    }

    private static boolean isKnown(Threewayleaf x, int node) {
        try {
            return x.kind(node) >= 0;
        } catch (IndexOutOfBoundsException e) {
            return false;
        }
    }

    private static boolean isBranch(Threewayleaf x, int branch) {
        try {
            return x.head(branch) >= 0;
        } catch (IndexOutOfBoundsException e) {
            return false;
        }
    }

    /** The children of a node in their order, with a comma behind each. */
    static String childrenOf(Threewayleaf x, int view, int node) {
        StringBuilder out = new StringBuilder();
        for (int i = 0; i < x.children(view, node); i++) {
            out.append(x.child(view, node, i)).append(',');
        }
        return out.toString();
    }

    /** The senses of the words of a node in their order, with a comma behind each. */
    static String sensesOf(Threewayleaf x, int view, int node) {
        StringBuilder out = new StringBuilder();
        for (int i = 0; i < x.words(view, node); i++) {
            out.append(x.word(view, node, i) / 10).append(',');
        }
        return out.toString();
    }

    /** The text of a script, char by char until there is none. */
    static String scriptOf(Threewayleaf x, int view, int other) {
        StringBuilder out = new StringBuilder();
        try {
            for (int at = 0; ; at++) {
                out.append(x.scriptAt(view, other, at));
            }
        } catch (NoSuchElementException e) {
            return out.toString();
        }
    }

    /** A print, by the numbers that go into it. */
    static long printOf(long... numbers) {
        long p = 17;
        for (long number : numbers) {
            p = 31 * p + number;
        }
        return p;
    }

    static void end(String name) {
        System.out.println(name + ": " + checked + " checks, " + wrong + " wrong");
        if (wrong != 0) {
            System.exit(1);
        }
    }
}
