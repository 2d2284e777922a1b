/**
 * The answers to all questions about an object and about what it would be after each undo. The
 * object is made anew for each round of questions, as it is good for 512 calls alone.
 */
final class Trace {
    private static final int MOST_UNDONE = 8;
    private static final int[] WRITTEN_PLACES = {0, 1, 2, 3, 4, 19, 20, 71, 72, 271, 272, 1055, 1056};

    private Trace() {
    }

    static String of(Checks.Start start) {
        StringBuilder told = new StringBuilder();
        askText(start, told);
        for (int undone = 0; undone <= MOST_UNDONE; undone++) {
            told.append("undone ").append(undone).append(": ").append(answer(x -> x.undo(), after(start, undone))).append('\n');
            askNumbers(after(start, undone), told);
            askParts(after(start, undone), told);
            askIcons(after(start, undone), told);
        }
        return told.toString();
    }

    /** The answer of a call, or the class of what it throws. */
    static String answer(Checks.Call call, IconSetBuilder x) {
        try {
            return Long.toString(call.on(x));
        } catch (RuntimeException e) {
            return e.getClass().getName();
        }
    }

    /** The first line of one trace that the other one does not have in its place. */
    static String firstUnlike(String trace, String other) {
        String[] lines = trace.split("\n");
        String[] others = other.split("\n");
        for (int line = 0; line < Math.min(lines.length, others.length); line++) {
            if (!lines[line].equals(others[line])) {
                return lines[line];
            }
        }
        return lines.length == others.length ? "no unlike line" : "another number of lines";
    }

    private static IconSetBuilder after(Checks.Start start, int undone) {
        IconSetBuilder x = start.make();
        for (int i = 0; i < undone; i++) {
            answer(y -> y.undo(), x);
        }
        return x;
    }

    private static void tell(StringBuilder told, String question, Checks.Call call, IconSetBuilder x) {
        told.append(question).append(": ").append(answer(call, x)).append('\n');
    }

    /** The written text, the position of the error, and the length and contents of the text buffer. */
    private static void askText(Checks.Start start, StringBuilder told) {
        IconSetBuilder x = start.make();
        tell(told, "errorPosition", y -> y.errorPosition(), x);
        for (int place : WRITTEN_PLACES) {
            tell(told, "writtenByte " + place, y -> y.writtenByte(place), x);
        }
        IconSetBuilder z = start.make();
        String added = answer(y -> y.append(Checks.SPACES, Checks.SPACES, Checks.SPACES, Checks.SPACES, 0x2020203f), z);
        told.append("append: ").append(added).append('\n');
        int length = added.matches("[0-9]+") ? Integer.parseInt(added) : 900;
        tell(told, "load " + length, y -> y.load(length), z);
        tell(told, "its error", y -> y.errorPosition(), z);
        IconSetBuilder u = start.make();
        tell(told, "load before", y -> y.load(length == 900 ? 900 : length - 20), u);
        tell(told, "its error", y -> y.errorPosition(), u);
        tell(told, "waiting", y -> y.findIcon(Checks.name("waiting")), u);
    }

    private static void askNumbers(IconSetBuilder x, StringBuilder told) {
        for (int what = 0; what <= 5; what++) {
            int w = what;
            tell(told, "count " + what, y -> y.count(w), x);
        }
        int sizes = x.count(0);
        for (int size = 0; size < sizes; size++) {
            for (int what = 0; what <= 2; what++) {
                int s = size;
                int w = what;
                tell(told, "size " + size + " " + what, y -> y.size(s, w), x);
            }
        }
        for (char letter = 'a'; letter <= 'z'; letter++) {
            long name = Checks.name(String.valueOf(letter));
            tell(told, "findPart " + letter, y -> y.findPart(name), x);
            tell(told, "findIcon " + letter, y -> y.findIcon(name), x);
        }
    }

    private static void askParts(IconSetBuilder x, StringBuilder told) {
        int parts = x.count(1);
        for (int part = 0; part < parts; part++) {
            int shapes = x.part(part, 0);
            told.append("shapes of part ").append(part).append(": ").append(shapes).append('\n');
            for (int shape = 0; shape < shapes; shape++) {
                told.append("shape ").append(part).append(' ').append(shape).append(':');
                for (int what = 0; what <= 5; what++) {
                    told.append(' ').append(x.shape(part, shape, what));
                }
                told.append('\n');
            }
        }
    }

    private static void askIcons(IconSetBuilder x, StringBuilder told) {
        int icons = x.count(2);
        for (int icon = 0; icon < icons; icon++) {
            int uses = x.uses(icon);
            told.append("uses of icon ").append(icon).append(": ").append(uses).append('\n');
            for (int use = 0; use < uses; use++) {
                told.append("use ").append(icon).append(' ').append(use).append(':');
                for (int what = 0; what <= 2; what++) {
                    told.append(' ').append(x.use(icon, use, what));
                }
                told.append('\n');
            }
        }
    }
}
