import java.util.HashSet;
import java.util.IdentityHashMap;
import java.util.Map;
import java.util.Set;
import java.util.TreeSet;

/** What the tests share: checks, ways to fill an object, and cases named by promise and sentence. */
abstract class Checks {
    static final String NOTHING = "nothing";
    static final String INDEX = "java.lang.IndexOutOfBoundsException";
    static final String ARGUMENT = "java.lang.IllegalArgumentException";
    static final String STATE = "java.lang.IllegalStateException";
    static final String NO_ELEMENT = "java.util.NoSuchElementException";
    static final int LOW = Integer.MIN_VALUE;
    static final int HIGH = Integer.MAX_VALUE;
    static final int SPACES = 0x20202020;

    static int passed = 0;
    static int failed = 0;
    static int promise = 0;
    private static final boolean TELLS_NAMES = Boolean.getBoolean("names");
    private static String caseName = "";
    private static final Set<String> CASES = new HashSet<>();
    private static final Set<Integer> PROMISES = new TreeSet<>();
    private static final Map<Start, String> TRACES = new IdentityHashMap<>();

    interface Question {
        long answer();
    }

    /** A state that can be made again and again: the same calls on a new object. */
    interface Start {
        IconSetBuilder make();
    }

    interface Call {
        long on(IconSetBuilder x);
    }

    interface CallWith {
        long on(IconSetBuilder x, int value);
    }

    // ---- cases

    /** Runs one case of a promise; what goes wrong in it is told with both. */
    static void edge(int ofPromise, String ofCase, Runnable body) {
        promise = ofPromise;
        caseName = ofCase;
        int checks = passed + failed;
        if (!CASES.add(ofPromise + " " + ofCase)) {
            same("a second case of this name", NOTHING);
        }
        PROMISES.add(ofPromise);
        if (TELLS_NAMES) {
            System.out.println("promise " + ofPromise + ", " + ofCase);
        }
        try {
            body.run();
        } catch (RuntimeException e) {
            same("throws." + e.getClass().getName(), NOTHING);
        }
        if (passed + failed == checks) {
            same("no check", "a check");
        }
        caseName = "";
    }

    /** A case of which the one call that matters is refused. */
    static void refusal(int ofPromise, String ofCase, Start start, String exception, Call call) {
        edge(ofPromise, ofCase, () -> refused(start, exception, call));
    }

    /** A case of which the one answer that matters is that of the call. */
    static void answer(int ofPromise, String ofCase, Start start, long want, Call call) {
        edge(ofPromise, ofCase, () -> due(call.on(start.make()), want));
    }

    static Range range(int ofPromise, String argument, Start start, CallWith call) {
        return new Range(ofPromise, argument, start, call);
    }

    /** The cases at the edges of one argument of a method. */
    static final class Range {
        private final int ofPromise;
        private final String argument;
        private final Start start;
        private final CallWith call;

        private Range(int ofPromise, String argument, Start start, CallWith call) {
            this.ofPromise = ofPromise;
            this.argument = argument;
            this.start = start;
            this.call = call;
        }

        Range fits(int value, long answer) {
            answer(ofPromise, argument + " " + value + " just fits", start, answer, x -> call.on(x, value));
            return this;
        }

        /** The values that just do not fit; the ends of int do not fit either. */
        Range refuses(String exception, int... values) {
            for (int value : values) {
                refusal(ofPromise, argument + " " + value + " does not fit", start, exception, x -> call.on(x, value));
            }
            refusal(ofPromise, argument + " at the low end of int", start, exception, x -> call.on(x, LOW));
            refusal(ofPromise, argument + " at the high end of int", start, exception, x -> call.on(x, HIGH));
            return this;
        }
    }

    static void finish(String test, int firstPromise, int lastPromise) {
        for (int each = firstPromise; each <= lastPromise; each++) {
            if (!PROMISES.contains(each)) {
                promise = each;
                same("no case", "a case");
            }
        }
        String cases = CASES.isEmpty() ? "" : CASES.size() + " cases, ";
        System.out.println(test + ": " + cases + passed + " checks right, " + failed + " wrong");
        if (failed != 0) {
            System.exit(1);
        }
    }

    // ---- checks

    static void due(long got, long want) {
        same(Long.toString(got), Long.toString(want));
    }

    static void yes(boolean got) {
        same(Boolean.toString(got), "true");
    }

    static void no(boolean got) {
        same(Boolean.toString(got), "false");
    }

    static void same(String got, String want) {
        if (got.equals(want)) {
            passed++;
            return;
        }
        failed++;
        System.out.println("promise " + promise + (caseName.isEmpty() ? "" : ", " + caseName) + ", " + place()
                + ": got " + got + ", due is " + want);
    }

    private static String place() {
        for (StackTraceElement place : new Throwable().getStackTrace()) {
            if (!place.getClassName().startsWith("Checks")) {
                return place.getFileName() + " line " + place.getLineNumber();
            }
        }
        return "";
    }

    /** The class must be the named one itself: what the machine throws is of a class below it. */
    static void thrown(String want, Question question) {
        String got = NOTHING;
        try {
            question.answer();
        } catch (RuntimeException e) {
            got = e.getClass().getName();
        }
        same(got, want);
    }

    /** The call throws the exception, and nothing that can be asked behind it has changed. */
    static void refused(Start start, String exception, Call call) {
        IconSetBuilder x = start.make();
        thrown(exception, () -> call.on(x));
        String before = TRACES.computeIfAbsent(start, Trace::of);
        String after = Trace.of(() -> {
            IconSetBuilder y = start.make();
            Trace.answer(call, y);
            return y;
        });
        same(Trace.firstUnlike(after, before), Trace.firstUnlike(before, before));
    }

    static long bit(boolean value) {
        return value ? 1 : 0;
    }

    // ---- filled objects

    static int put(IconSetBuilder x, String text) {
        int length = 0;
        for (int from = 0; from < text.length(); from += 20) {
            int[] words = new int[5];
            for (int i = 0; i < 20; i++) {
                int sign = from + i < text.length() ? text.charAt(from + i) : ' ';
                words[i / 4] = words[i / 4] << 8 | sign;
            }
            length = x.append(words[0], words[1], words[2], words[3], words[4]);
        }
        return length;
    }

    static int load(IconSetBuilder x, String text) {
        put(x, text);
        return x.load(text.length());
    }

    static IconSetBuilder of(String text) {
        IconSetBuilder x = new IconSetBuilder();
        int icons = load(x, text);
        if (icons < 0) {
            same("the set of a test has the error " + icons + " at " + x.errorPosition(), NOTHING);
        }
        return x;
    }

    static Start start(String text) {
        return () -> of(text);
    }

    /** Loads a text and checks its error, and that the set stays as it was. */
    static void error(String text, int code, int position) {
        IconSetBuilder x = of("size 5; part kept bar 1 2 3 4; icon kept kept at 5 6;");
        due(load(x, text), code);
        due(x.errorPosition(), position);
        due(x.append(SPACES, SPACES, SPACES, SPACES, SPACES), 20);
        due(x.count(0), 1);
        due(x.count(1), 1);
        due(x.count(2), 1);
        due(x.size(0, 0), 5);
        due(x.shape(0, 0, 4), 4);
        due(x.use(0, 0, 2), 6);
        due(x.findIcon(name("kept")), 0);
        due(x.undo(), 0);
    }

    static long name(String letters) {
        long value = 0;
        for (char letter : letters.toCharArray()) {
            value = value << 5 | letter - 'a' + 1;
        }
        return value;
    }

    static String written(IconSetBuilder x, int icon, int size) {
        int length = x.writeIcon(icon, size);
        StringBuilder text = new StringBuilder();
        for (int i = 0; i < length; i++) {
            text.append((char) x.writtenByte(i));
        }
        return text.toString();
    }

    /** The rows of an icon, written one behind the other. */
    static String rows(IconSetBuilder x, int icon, int size) {
        return written(x, icon, size).replace("\n", " ").trim();
    }

    /** Draws shapes moved by a shift at a size. */
    static String drawn(String size, String shapes, String shift) {
        return rows(of("size " + size + "; part p " + shapes + "; icon i p at " + shift + ";"), 0, 0);
    }

    static String repeated(String piece, String between, int times) {
        StringBuilder text = new StringBuilder();
        for (int i = 0; i < times; i++) {
            text.append(i == 0 ? "" : between).append(piece);
        }
        return text.toString();
    }

    // ---- states that many cases start from

    static final Start EMPTY = IconSetBuilder::new;

    /** Three sizes, parts and icons, and something of all that a refused call might change. */
    static final Start LIVELY = () -> {
        IconSetBuilder x = of("size 8; size 12 extra 1; size 16 extra -2;"
                + " part p bar 1 2 3 4, box 5 6 7 8 9, line 10 11 13 14 12;"
                + " part q bar 0 0 48 24; part r line 0 0 48 48 1;"
                + " icon a p, q at 1 -2; icon b; icon c q at -48 48, p, p at 5 5;");
        x.setExtra(0, 2);
        x.moveUse(0, 0, 3, 4);
        load(x, "icon x y;");
        x.writeIcon(0, 0);
        put(x, "icon waiting;");
        return x;
    };

    /** As much of everything as there can be: sizes, parts, shapes, icons, uses, changes and text. */
    static final Start FULL = () -> {
        StringBuilder text = new StringBuilder("size4;size8extra1;size12;size16extra-1;size32;");
        for (char letter = 'a'; letter <= 'h'; letter++) {
            text.append("part ").append(letter)
                    .append(" bar0 0 1 1,box0 0 2 2 1,line0 0 3 3 1,bar1 1 1 1,bar0 0 1 1,bar47 47 1 1;");
        }
        for (char letter = 'a'; letter <= 'h'; letter++) {
            text.append("icon ").append(letter).append(" a,b,c,d,e,").append(letter).append(';');
        }
        IconSetBuilder x = of(text.toString());
        for (int change = 0; change < 9; change++) {
            x.setExtra(4, change % 3 - 1);
        }
        x.writeIcon(7, 4);
        for (int piece = 0; piece < 45; piece++) {
            x.append(SPACES, SPACES, SPACES, SPACES, SPACES);
        }
        return x;
    };
}
