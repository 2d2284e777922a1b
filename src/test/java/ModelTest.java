import java.util.ArrayDeque;
import java.util.ArrayList;
import java.util.Deque;
import java.util.List;
import java.util.NoSuchElementException;
import java.util.Random;
import java.util.regex.Matcher;
import java.util.regex.Pattern;

/**
 * Compares long runs of mixed calls with a second, plain program (the model below) that follows
 * the document word by word: drawings pixel by pixel, groups by walking from neighbor to neighbor,
 * texts by a list of tokens. An exception must be of the very class that the document names, so
 * one that the machine throws by itself (a subclass) is found, too.
 */
public final class ModelTest {
    private static final int RUNS = 1500;
    private static final int CALLS = 500;
    private static final int[] EXTREMES = {Integer.MIN_VALUE, Integer.MAX_VALUE, -1, 1 << 30, -(1 << 30)};

    private final Random random;
    private final IconSetBuilder builder = new IconSetBuilder();
    private final Model model = new Model();
    private String call;

    private ModelTest(long seed) {
        random = new Random(seed);
    }

    public static void main(String[] args) {
        for (int run = 0; run < RUNS; run++) {
            String wrong = new ModelTest(run).runCalls();
            if (wrong != null) {
                System.out.println("run " + run + ": " + wrong);
                System.exit(1);
            }
        }
        System.out.println("ModelTest: " + RUNS * CALLS + " calls are as in the model");
    }

    private String runCalls() {
        StringBuilder told = new StringBuilder();
        int calls = 0;
        while (calls < CALLS) {
            if (model.icons().isEmpty() || random.nextInt(60) == 0) {
                String text = randomText();
                for (int at = 0; at < text.length(); at += 20) {
                    int[] words = wordsOf(text, at);
                    calls++;
                    String wrong = compare("append(..)", () -> builder.append(words[0], words[1], words[2], words[3], words[4]),
                            () -> model.append(words));
                    if (wrong != null) {
                        return told + wrong;
                    }
                }
                int length = random.nextInt(12) == 0 ? wild(0, 900) : text.length();
                told.append("load(").append(length).append(") of \"").append(text).append("\"\n");
                calls++;
                String wrong = compare("load", () -> builder.load(length), () -> model.load(length));
                if (wrong != null) {
                    return told + wrong;
                }
            }
            String wrong = randomCall();
            calls++;
            told.append(call).append('\n');
            if (wrong != null) {
                return told + wrong;
            }
        }
        return null;
    }

    private interface Answer {
        long get();
    }

    private static String answerOf(Answer answer) {
        try {
            return Long.toString(answer.get());
        } catch (RuntimeException e) {
            return "throws." + e.getClass().getName();
        }
    }

    private String compare(String told, Answer got, Answer due) {
        call = told;
        String gotText = answerOf(got);
        String dueText = answerOf(due);
        return gotText.equals(dueText) ? null : told + " answered " + gotText + ", due is " + dueText;
    }

    private static long bit(boolean value) {
        return value ? 1 : 0;
    }

    /** A number that mostly fits, sometimes lies just outside and seldom far away. */
    private int wild(int least, int greatest) {
        int way = random.nextInt(40);
        if (way == 0) {
            return EXTREMES[random.nextInt(EXTREMES.length)];
        }
        if (way == 1) {
            return least - 1;
        }
        if (way == 2) {
            return greatest + 1;
        }
        if (way == 3) {
            return least;
        }
        if (way == 4) {
            return greatest;
        }
        return least >= greatest ? least : least + random.nextInt(greatest - least + 1);
    }

    private int shift() {
        return random.nextInt(3) == 0 ? wild(-48, 48) : random.nextInt(9) - 4;
    }

    private String randomCall() {
        int size = wild(0, model.sizes().size() - 1);
        int part = wild(0, model.parts().size() - 1);
        int icon = wild(0, model.icons().size() - 1);
        int shape = wild(0, model.hasPart(part) ? model.parts().get(part).shapes.size() - 1 : 0);
        int use = wild(0, model.hasIcon(icon) ? model.icons().get(icon).uses.size() - 1 : 0);
        int dx = shift();
        int dy = shift();
        int kind = random.nextInt(44);
        if (kind < 22) {
            return editCall(kind, size, part, icon, shape, use, dx, dy);
        }
        return askCall(kind - 22, size, part, icon, shape, use);
    }

    private String editCall(int kind, int size, int part, int icon, int shape, int use, int dx, int dy) {
        String shapeArgs = "(" + part + ", " + shape + ", " + dx + ", " + dy + ")";
        switch (kind) {
            case 0:
            case 1: {
                int pixels = wild(4, 32);
                return compare("addSize(" + pixels + ")", () -> builder.addSize(pixels), () -> model.addSize(pixels));
            }
            case 2:
                return compare("removeSize(" + size + ")", () -> builder.removeSize(size), () -> model.removeSize(size));
            case 3:
            case 4: {
                int extra = wild(-2, 2);
                return compare("setExtra(" + size + ", " + extra + ")",
                        () -> builder.setExtra(size, extra), () -> model.setExtra(size, extra));
            }
            case 5:
            case 6:
            case 7: {
                int what = wild(1, 5);
                int value = wild(0, random.nextBoolean() ? 48 : 12);
                return compare("setShape(" + part + ", " + shape + ", " + what + ", " + value + ")",
                        () -> builder.setShape(part, shape, what, value), () -> model.setShape(part, shape, what, value));
            }
            case 8:
            case 9:
                return compare("moveShape" + shapeArgs,
                        () -> builder.moveShape(part, shape, dx, dy), () -> model.moveShape(part, shape, dx, dy));
            case 10:
            case 11:
                return compare("copyShape" + shapeArgs,
                        () -> builder.copyShape(part, shape, dx, dy), () -> model.copyShape(part, shape, dx, dy));
            case 12:
                return compare("removeShape(" + part + ", " + shape + ")",
                        () -> builder.removeShape(part, shape), () -> model.removeShape(part, shape));
            case 13:
            case 14:
            case 15:
                return compare("addUse(" + icon + ", " + part + ", " + dx + ", " + dy + ")",
                        () -> builder.addUse(icon, part, dx, dy), () -> model.addUse(icon, part, dx, dy));
            case 16:
            case 17:
                return compare("moveUse(" + icon + ", " + use + ", " + dx + ", " + dy + ")",
                        () -> builder.moveUse(icon, use, dx, dy), () -> model.moveUse(icon, use, dx, dy));
            case 18:
                return compare("removeUse(" + icon + ", " + use + ")",
                        () -> builder.removeUse(icon, use), () -> model.removeUse(icon, use));
            default:
                return compare("undo()", () -> builder.undo(), () -> model.undo());
        }
    }

    private String askCall(int kind, int size, int part, int icon, int shape, int use) {
        int small = wild(0, 2);
        switch (kind) {
            case 0: {
                int what = wild(0, 5);
                return compare("count(" + what + ")", () -> builder.count(what), () -> model.count(what));
            }
            case 1:
                return compare("size(" + size + ", " + small + ")",
                        () -> builder.size(size, small), () -> model.size(size, small));
            case 2: {
                int thickness = wild(1, 12);
                return compare("stroke(" + size + ", " + thickness + ")",
                        () -> builder.stroke(size, thickness), () -> model.stroke(size, thickness));
            }
            case 3: {
                String name = randomName();
                return compare("find " + name, () -> 100 * builder.findPart(packed(name)) + builder.findIcon(packed(name)),
                        () -> 100 * model.findPart(name) + model.findIcon(name));
            }
            case 4:
                return compare("part(" + part + ", " + small + ")",
                        () -> builder.part(part, small), () -> model.part(part, small));
            case 5: {
                int what = wild(0, 5);
                return compare("shape(" + part + ", " + shape + ", " + what + ")",
                        () -> builder.shape(part, shape, what), () -> model.shape(part, shape, what));
            }
            case 6:
                return compare("uses(" + icon + ")", () -> builder.uses(icon), () -> model.uses(icon));
            case 7:
                return compare("use(" + icon + ", " + use + ", " + small + ")",
                        () -> builder.use(icon, use, small), () -> model.use(icon, use, small));
            case 8: {
                int column = wild(0, 11);
                int row = wild(0, 11);
                return compare("isInked(" + icon + ", " + size + ", " + column + ", " + row + ")",
                        () -> bit(builder.isInked(icon, size, column, row)),
                        () -> bit(model.isInked(icon, size, column, row)));
            }
            case 9:
            case 10: {
                int what = wild(0, 7);
                return compare("measure(" + icon + ", " + size + ", " + what + ")",
                        () -> builder.measure(icon, size, what), () -> model.measure(icon, size, what));
            }
            case 11: {
                boolean down = random.nextBoolean();
                return compare("isMirrored(" + icon + ", " + size + ", " + down + ")",
                        () -> bit(builder.isMirrored(icon, size, down)), () -> bit(model.isMirrored(icon, size, down)));
            }
            case 12: {
                int other = wild(0, model.icons().size() - 1);
                return compare("difference(" + icon + ", " + other + ", " + size + ")",
                        () -> builder.difference(icon, other, size), () -> model.difference(icon, other, size));
            }
            case 13:
                return compare("alone(" + icon + ", " + use + ", " + size + ")",
                        () -> builder.alone(icon, use, size), () -> model.alone(icon, use, size));
            case 14:
                return compare("keepsTopology(" + icon + ")",
                        () -> bit(builder.keepsTopology(icon)), () -> bit(model.keepsTopology(icon)));
            case 15:
                return random.nextInt(3) > 0 ? null
                        : compare("smallest(" + icon + ")", () -> builder.smallest(icon), () -> model.smallest(icon));
            case 16: {
                boolean greatest = random.nextBoolean();
                return compare("extreme(" + size + ", " + greatest + ")",
                        () -> builder.extreme(size, greatest), () -> model.extreme(size, greatest));
            }
            case 17:
                return compare("bestExtra(" + size + ")", () -> builder.bestExtra(size), () -> model.bestExtra(size));
            case 18:
                return compare("indifferent(" + part + ", " + size + ")",
                        () -> builder.indifferent(part, size), () -> model.indifferent(part, size));
            case 19:
                return compare("writeIcon(" + icon + ", " + size + ")",
                        () -> builder.writeIcon(icon, size), () -> model.writeIcon(icon, size));
            case 20: {
                int index = wild(0, Math.max(0, model.written.length() - 1));
                return compare("writtenByte(" + index + ")",
                        () -> builder.writtenByte(index), () -> model.writtenByte(index));
            }
            default:
                return compare("errorPosition()", () -> builder.errorPosition(), () -> model.errorPosition);
        }
    }

    private static int[] wordsOf(String text, int from) {
        int[] words = new int[5];
        for (int i = 0; i < 20; i++) {
            int letter = from + i < text.length() ? text.charAt(from + i) : ' ';
            words[i / 4] = words[i / 4] << 8 | letter & 255;
        }
        return words;
    }

    private static long packed(String name) {
        long value = 0;
        for (char letter : name.toCharArray()) {
            value = value * 32 + (letter - 'a' + 1);
        }
        return value;
    }

    // ---- texts, most of them right, some with a fault put in

    private String randomName() {
        String[] names = {"a", "b", "at", "size", "extra", "part", "icon", "bar", "zzzzzzzz", "abcdefghi", "home", "x", "y"};
        return names[random.nextInt(names.length)];
    }

    private String gap() {
        return random.nextInt(15) == 0 ? "  " : random.nextInt(5) == 0 ? " " : "";
    }

    private String number(int least, int greatest) {
        int value = random.nextInt(120) == 0 ? wild(least, greatest) : least + random.nextInt(greatest - least + 1);
        String zeros = random.nextInt(30) == 0 ? "000" : "";
        String digits = random.nextInt(300) == 0 ? "99999999999999999999" : zeros + Math.abs((long) value);
        return " " + gap() + (value < 0 ? "-" + gap() : "") + digits;
    }

    private String shapeText() {
        switch (random.nextInt(3)) {
            case 0:
                return "bar" + number(0, 47) + number(0, 47) + number(1, 48) + number(1, 48);
            case 1:
                return "box" + number(0, 47) + number(0, 47) + number(1, 48) + number(1, 48) + number(1, 12);
            default:
                return "line" + number(0, 48) + number(0, 48) + number(0, 48) + number(0, 48) + number(1, 12);
        }
    }

    private String pick(List<String> names, boolean there) {
        if (names.isEmpty() || random.nextInt(80) == 0) {
            return randomName();
        }
        String name = names.get(random.nextInt(names.size()));
        return there ? name : name + (char) ('a' + random.nextInt(26));
    }

    private int items(int least) {
        return random.nextInt(40) == 0 ? 7 : least + random.nextInt(4);
    }

    private String randomText() {
        StringBuilder text = new StringBuilder();
        List<String> parts = new ArrayList<>();
        int sizes = random.nextInt(20) == 0 ? 6 : random.nextInt(5);
        int firstSize = 4 + random.nextInt(8);
        for (int i = 0; i < sizes; i++) {
            String pixels = random.nextInt(10) > 0 ? " " + (firstSize + (i * 3 + 5) % 7 * 2) : number(4, 32);
            text.append(gap()).append("size").append(pixels);
            text.append(random.nextBoolean() ? " extra" + number(-2, 2) : "").append(gap()).append(';');
        }
        int wanted = random.nextInt(20) == 0 ? 9 : 1 + random.nextInt(4);
        for (int i = 0; i < wanted; i++) {
            String name = random.nextInt(4) == 0 ? randomName() : "p" + (char) ('a' + i);
            parts.add(name);
            text.append(gap()).append("part ").append(name).append(' ');
            int shapes = wanted > 5 ? 1 : items(1);
            for (int k = 0; k < shapes; k++) {
                text.append(k > 0 ? gap() + "," : "").append(gap()).append(shapeText());
            }
            text.append(gap()).append(';');
        }
        int icons = random.nextInt(20) == 0 ? 9 : random.nextInt(5);
        for (int i = 0; i < icons; i++) {
            text.append(gap()).append("icon ").append(random.nextInt(8) == 0 ? randomName() : "i" + (char) ('a' + i));
            int uses = items(0);
            for (int k = 0; k < uses; k++) {
                text.append(k > 0 ? gap() + "," + gap() : " ").append(pick(parts, random.nextInt(60) > 0));
                text.append(random.nextBoolean() ? " at" + number(-48, 48) + number(-48, 48) : "");
            }
            text.append(gap()).append(';');
        }
        text.append(gap());
        return spoiled(text.length() > 900 ? text.substring(0, 900) : text.toString());
    }

    private String spoiled(String text) {
        if (random.nextInt(3) > 0 || text.isEmpty()) {
            return text;
        }
        int at = random.nextInt(text.length());
        switch (random.nextInt(4)) {
            case 0:
                return text.substring(0, at) + text.substring(at + 1);
            case 1:
                return text.substring(0, at) + (char) random.nextInt(256) + text.substring(at + 1);
            case 2:
                return text.substring(0, at) + ";,- z9".charAt(random.nextInt(6)) + text.substring(at + 1);
            default:
                return text.substring(0, at);
        }
    }

    // ---- the model

    private static final class Part {
        String name;
        List<int[]> shapes = new ArrayList<>();
    }

    private static final class Icon {
        String name;
        List<int[]> uses = new ArrayList<>();
    }

    private static final class State {
        List<int[]> sizes = new ArrayList<>();
        List<Part> parts = new ArrayList<>();
        List<Icon> icons = new ArrayList<>();

        State copy() {
            State made = new State();
            for (int[] size : sizes) {
                made.sizes.add(size.clone());
            }
            for (Part part : parts) {
                Part copied = new Part();
                copied.name = part.name;
                for (int[] shape : part.shapes) {
                    copied.shapes.add(shape.clone());
                }
                made.parts.add(copied);
            }
            for (Icon icon : icons) {
                Icon copied = new Icon();
                copied.name = icon.name;
                for (int[] use : icon.uses) {
                    copied.uses.add(use.clone());
                }
                made.icons.add(copied);
            }
            return made;
        }

        void sortSizes() {
            sizes.sort((first, second) -> first[0] - second[0]);
        }
    }

    private static final class TextError extends RuntimeException {
        private static final long serialVersionUID = 1L;
        final int code;
        final int at;

        TextError(int code, int at) {
            this.code = code;
            this.at = at;
        }
    }

    /** Reads a set from the list of all tokens; the list ends with an empty one. */
    private static final class TokenReader {
        private static final Pattern TOKEN = Pattern.compile(" *([a-z]+|[0-9]+|[^ ]|$)", Pattern.DOTALL);
        private final List<String> tokens = new ArrayList<>();
        private final List<Integer> places = new ArrayList<>();
        private final State state = new State();
        private int now;

        TokenReader(String text) {
            Matcher matcher = TOKEN.matcher(text);
            while (matcher.lookingAt()) {
                tokens.add(matcher.group(1));
                places.add(matcher.start(1));
                if (matcher.group(1).isEmpty()) {
                    break;
                }
                matcher.region(matcher.end(), text.length());
            }
        }

        TextError error(int code) {
            return new TextError(code, places.get(now));
        }

        boolean isNext(String token) {
            return tokens.get(now).equals(token);
        }

        void take(String token) {
            if (!isNext(token)) {
                throw error(IconSetBuilder.SYNTAX_ERROR);
            }
            now++;
        }

        String name() {
            if (!tokens.get(now).matches("[a-z]{1,8}")) {
                throw error(IconSetBuilder.SYNTAX_ERROR);
            }
            return tokens.get(now);
        }

        int number(int least, int greatest, boolean signed) {
            int sign = 1;
            if (signed && isNext("-")) {
                sign = -1;
                now++;
            }
            if (!tokens.get(now).matches("[0-9]+")) {
                throw error(IconSetBuilder.SYNTAX_ERROR);
            }
            java.math.BigInteger value = new java.math.BigInteger(tokens.get(now)).multiply(java.math.BigInteger.valueOf(sign));
            if (value.compareTo(java.math.BigInteger.valueOf(least)) < 0
                    || value.compareTo(java.math.BigInteger.valueOf(greatest)) > 0) {
                throw error(IconSetBuilder.VALUE_ERROR);
            }
            now++;
            return value.intValue();
        }

        State read() {
            while (!isNext("")) {
                if (isNext("size")) {
                    readSize();
                } else if (isNext("part")) {
                    readPart();
                } else if (isNext("icon")) {
                    readIcon();
                } else {
                    throw error(IconSetBuilder.SYNTAX_ERROR);
                }
                take(";");
            }
            state.sortSizes();
            return state;
        }

        void readSize() {
            if (state.sizes.size() == 5) {
                throw error(IconSetBuilder.TOO_MANY);
            }
            now++;
            int[] size = {number(4, 32, false), 0};
            for (int[] other : state.sizes) {
                if (other[0] == size[0]) {
                    now--;
                    throw error(IconSetBuilder.VALUE_ERROR);
                }
            }
            state.sizes.add(size);
            if (isNext("extra")) {
                now++;
                size[1] = number(-2, 2, true);
            }
        }

        void readPart() {
            if (state.parts.size() == 8) {
                throw error(IconSetBuilder.TOO_MANY);
            }
            now++;
            Part part = new Part();
            part.name = name();
            for (Part other : state.parts) {
                if (other.name.equals(part.name)) {
                    throw error(IconSetBuilder.VALUE_ERROR);
                }
            }
            state.parts.add(part);
            do {
                now++;
                part.shapes.add(readShape());
                if (part.shapes.size() == 6 && isNext(",")) {
                    throw error(IconSetBuilder.TOO_MANY);
                }
            } while (isNext(","));
        }

        int[] readShape() {
            int kind = List.of("bar", "box", "line").indexOf(tokens.get(now));
            if (kind < 0) {
                throw error(IconSetBuilder.SYNTAX_ERROR);
            }
            now++;
            if (kind == 2) {
                return new int[] {2, number(0, 48, false), number(0, 48, false), number(0, 48, false),
                        number(0, 48, false), number(1, 12, false)};
            }
            return new int[] {kind, number(0, 47, false), number(0, 47, false), number(1, 48, false),
                    number(1, 48, false), kind == 0 ? 0 : number(1, 12, false)};
        }

        void readIcon() {
            if (state.icons.size() == 8) {
                throw error(IconSetBuilder.TOO_MANY);
            }
            now++;
            Icon icon = new Icon();
            icon.name = name();
            for (Icon other : state.icons) {
                if (other.name.equals(icon.name)) {
                    throw error(IconSetBuilder.VALUE_ERROR);
                }
            }
            state.icons.add(icon);
            now++;
            if (isNext(";")) {
                return;
            }
            now--;
            do {
                now++;
                icon.uses.add(readUse());
                if (icon.uses.size() == 6 && isNext(",")) {
                    throw error(IconSetBuilder.TOO_MANY);
                }
            } while (isNext(","));
        }

        int[] readUse() {
            String name = name();
            int[] use = {-1, 0, 0};
            for (int part = 0; part < state.parts.size(); part++) {
                if (state.parts.get(part).name.equals(name)) {
                    use[0] = part;
                }
            }
            if (use[0] < 0) {
                throw error(IconSetBuilder.VALUE_ERROR);
            }
            now++;
            if (isNext("at")) {
                now++;
                use[1] = number(-48, 48, true);
                use[2] = number(-48, 48, true);
            }
            return use;
        }
    }

    private static final class Model {
        private State state = new State();
        private final Deque<State> before = new ArrayDeque<>();
        private String text = "";
        private String written = "";
        private int errorPosition = -1;

        List<int[]> sizes() {
            return state.sizes;
        }

        List<Part> parts() {
            return state.parts;
        }

        List<Icon> icons() {
            return state.icons;
        }

        boolean hasSize(int size) {
            return size >= 0 && size < sizes().size();
        }

        boolean hasPart(int part) {
            return part >= 0 && part < parts().size();
        }

        boolean hasShape(int part, int shape) {
            return hasPart(part) && shape >= 0 && shape < parts().get(part).shapes.size();
        }

        boolean hasIcon(int icon) {
            return icon >= 0 && icon < icons().size();
        }

        boolean hasUse(int icon, int use) {
            return hasIcon(icon) && use >= 0 && use < icons().get(icon).uses.size();
        }

        void index(boolean exists) {
            if (!exists) {
                throw new IndexOutOfBoundsException();
            }
        }

        void argument(boolean fits) {
            if (!fits) {
                throw new IllegalArgumentException();
            }
        }

        void possible(boolean can) {
            if (!can) {
                throw new IllegalStateException();
            }
        }

        boolean in(int value, int least, int greatest) {
            return least <= value && value <= greatest;
        }

        void change() {
            before.addLast(state.copy());
            if (before.size() > 8) {
                before.removeFirst();
            }
        }

        int append(int[] words) {
            possible(text.length() + 20 <= 900);
            StringBuilder added = new StringBuilder(text);
            for (int word : words) {
                for (int bits = 24; bits >= 0; bits -= 8) {
                    added.append((char) (word >> bits & 255));
                }
            }
            text = added.toString();
            return text.length();
        }

        int load(int length) {
            argument(in(length, 0, text.length()));
            String read = text.substring(0, length);
            text = "";
            try {
                State loaded = new TokenReader(read).read();
                change();
                state = loaded;
                errorPosition = -1;
                return icons().size();
            } catch (TextError e) {
                errorPosition = e.at;
                return e.code;
            }
        }

        int count(int what) {
            argument(in(what, 0, 5));
            int shapes = 0;
            int unused = 0;
            for (int part = 0; part < parts().size(); part++) {
                shapes += parts().get(part).shapes.size();
                unused += part(part, 1) == 0 ? 1 : 0;
            }
            int uses = 0;
            for (Icon icon : icons()) {
                uses += icon.uses.size();
            }
            return new int[] {sizes().size(), parts().size(), icons().size(), shapes, uses, unused}[what];
        }

        int addSize(int pixels) {
            argument(in(pixels, 4, 32));
            possible(sizes().size() < 5);
            for (int[] size : sizes()) {
                possible(size[0] != pixels);
            }
            change();
            int[] added = {pixels, 0};
            sizes().add(added);
            state.sortSizes();
            return sizes().indexOf(added);
        }

        int removeSize(int size) {
            index(hasSize(size));
            change();
            sizes().remove(size);
            return sizes().size();
        }

        int size(int size, int what) {
            index(hasSize(size));
            argument(in(what, 0, 2));
            return what < 2 ? sizes().get(size)[what] : mean(sizes().get(size)[0], sizes().get(size)[1]);
        }

        int mean(int pixels, int extra) {
            int sum = 0;
            for (Icon icon : icons()) {
                sum += weight(picture(icon, pixels, extra, -1, -1));
            }
            return icons().isEmpty() ? 0 : sum / icons().size();
        }

        int setExtra(int size, int extra) {
            index(hasSize(size));
            argument(in(extra, -2, 2));
            change();
            int previous = sizes().get(size)[1];
            sizes().get(size)[1] = extra;
            return previous;
        }

        int stroke(int size, int thickness) {
            index(hasSize(size));
            argument(in(thickness, 1, 12));
            return stroke(thickness, sizes().get(size)[0], sizes().get(size)[1]);
        }

        int findPart(String name) {
            for (int part = 0; part < parts().size(); part++) {
                if (parts().get(part).name.equals(name)) {
                    return part;
                }
            }
            return -1;
        }

        int part(int part, int what) {
            index(hasPart(part));
            argument(in(what, 0, 2));
            int uses = 0;
            int mask = 0;
            for (int icon = 0; icon < icons().size(); icon++) {
                for (int[] use : icons().get(icon).uses) {
                    uses += use[0] == part ? 1 : 0;
                    mask |= use[0] == part ? 1 << icon : 0;
                }
            }
            return what == 0 ? parts().get(part).shapes.size() : what == 1 ? uses : mask;
        }

        int shape(int part, int shape, int what) {
            index(hasShape(part, shape));
            argument(in(what, 0, 5));
            return parts().get(part).shapes.get(shape)[what];
        }

        boolean isShape(int[] shape) {
            switch (shape[0]) {
                case 0:
                    return in(shape[1], 0, 47) && in(shape[2], 0, 47) && in(shape[3], 1, 48) && in(shape[4], 1, 48)
                            && shape[5] == 0;
                case 1:
                    return in(shape[1], 0, 47) && in(shape[2], 0, 47) && in(shape[3], 1, 48) && in(shape[4], 1, 48)
                            && in(shape[5], 1, 12);
                default:
                    return in(shape[1], 0, 48) && in(shape[2], 0, 48) && in(shape[3], 0, 48) && in(shape[4], 0, 48)
                            && in(shape[5], 1, 12);
            }
        }

        int setShape(int part, int shape, int what, int value) {
            index(hasShape(part, shape));
            argument(in(what, 1, 5));
            int[] changed = parts().get(part).shapes.get(shape).clone();
            int previous = changed[what];
            changed[what] = value;
            argument(isShape(changed));
            change();
            parts().get(part).shapes.set(shape, changed);
            return previous;
        }

        int[] moved(int part, int shape, int dx, int dy) {
            index(hasShape(part, shape));
            argument(in(dx, -48, 48) && in(dy, -48, 48));
            int[] moved = parts().get(part).shapes.get(shape).clone();
            moved[1] += dx;
            moved[2] += dy;
            if (moved[0] == 2) {
                moved[3] += dx;
                moved[4] += dy;
            }
            argument(isShape(moved));
            return moved;
        }

        int moveShape(int part, int shape, int dx, int dy) {
            int[] moved = moved(part, shape, dx, dy);
            change();
            parts().get(part).shapes.set(shape, moved);
            return Integer.bitCount(part(part, 2));
        }

        int copyShape(int part, int shape, int dx, int dy) {
            int[] moved = moved(part, shape, dx, dy);
            possible(parts().get(part).shapes.size() < 6);
            change();
            parts().get(part).shapes.add(moved);
            return parts().get(part).shapes.size() - 1;
        }

        int removeShape(int part, int shape) {
            index(hasShape(part, shape));
            possible(parts().get(part).shapes.size() > 1);
            change();
            parts().get(part).shapes.remove(shape);
            return parts().get(part).shapes.size();
        }

        int findIcon(String name) {
            for (int icon = 0; icon < icons().size(); icon++) {
                if (icons().get(icon).name.equals(name)) {
                    return icon;
                }
            }
            return -1;
        }

        int uses(int icon) {
            index(hasIcon(icon));
            return icons().get(icon).uses.size();
        }

        int use(int icon, int use, int what) {
            index(hasUse(icon, use));
            argument(in(what, 0, 2));
            return icons().get(icon).uses.get(use)[what];
        }

        int addUse(int icon, int part, int dx, int dy) {
            index(hasIcon(icon) && hasPart(part));
            argument(in(dx, -48, 48) && in(dy, -48, 48));
            possible(uses(icon) < 6);
            change();
            icons().get(icon).uses.add(new int[] {part, dx, dy});
            return uses(icon) - 1;
        }

        int moveUse(int icon, int use, int dx, int dy) {
            index(hasUse(icon, use));
            argument(in(dx, -48, 48) && in(dy, -48, 48));
            change();
            int part = icons().get(icon).uses.get(use)[0];
            icons().get(icon).uses.set(use, new int[] {part, dx, dy});
            return part;
        }

        int removeUse(int icon, int use) {
            index(hasUse(icon, use));
            change();
            icons().get(icon).uses.remove(use);
            return uses(icon);
        }

        int undo() {
            possible(!before.isEmpty());
            state = before.removeLast();
            return before.size();
        }

        // ---- drawings

        static int snap(int units, int pixels) {
            return (int) Math.floor((2 * units * pixels + 48) / 96.0);
        }

        static int stroke(int thickness, int pixels, int extra) {
            int stroke = snap(thickness, pixels) + extra;
            return stroke < 1 ? 1 : stroke;
        }

        boolean[][] picture(Icon icon, int pixels, int extra, int withoutUse, int withoutPart) {
            boolean[][] ink = new boolean[pixels][pixels];
            for (int use = 0; use < icon.uses.size(); use++) {
                int[] used = icon.uses.get(use);
                if (use != withoutUse && used[0] != withoutPart) {
                    for (int[] shape : parts().get(used[0]).shapes) {
                        draw(ink, shape, used[1], used[2], extra);
                    }
                }
            }
            return ink;
        }

        boolean[][] picture(int icon, int size) {
            return picture(icons().get(icon), sizes().get(size)[0], sizes().get(size)[1], -1, -1);
        }

        void draw(boolean[][] ink, int[] shape, int dx, int dy, int extra) {
            int pixels = ink.length;
            int stroke = stroke(shape[5], pixels, extra);
            if (shape[0] == 2) {
                drawLine(ink, snap(shape[1] + dx, pixels), snap(shape[2] + dy, pixels),
                        snap(shape[3] + dx, pixels), snap(shape[4] + dy, pixels), stroke);
                return;
            }
            int left = snap(shape[1] + dx, pixels);
            int right = snap(shape[1] + dx + shape[3], pixels) - 1;
            int top = snap(shape[2] + dy, pixels);
            int bottom = snap(shape[2] + dy + shape[4], pixels) - 1;
            right = right < left ? left : right;
            bottom = bottom < top ? top : bottom;
            for (int row = 0; row < pixels; row++) {
                for (int column = 0; column < pixels; column++) {
                    boolean inside = in(column, left, right) && in(row, top, bottom);
                    int away = Math.min(Math.min(column - left, right - column), Math.min(row - top, bottom - row));
                    ink[row][column] |= inside && (shape[0] == 0 || away < stroke);
                }
            }
        }

        void drawLine(boolean[][] ink, int x0, int y0, int x1, int y1, int stroke) {
            int n = Math.max(Math.abs(x1 - x0), Math.abs(y1 - y0));
            for (int k = 0; k <= n; k++) {
                int column = n == 0 ? x0 : x0 + (int) Math.floor((2.0 * k * (x1 - x0) + n) / (2.0 * n));
                int row = n == 0 ? y0 : y0 + (int) Math.floor((2.0 * k * (y1 - y0) + n) / (2.0 * n));
                int before = (int) Math.floor((stroke - 1) / 2.0);
                for (int y = row - before; y < row - before + stroke; y++) {
                    for (int x = column - before; x < column - before + stroke; x++) {
                        if (in(x, 0, ink.length - 1) && in(y, 0, ink.length - 1)) {
                            ink[y][x] = true;
                        }
                    }
                }
            }
        }

        static int ink(boolean[][] picture) {
            int found = 0;
            for (boolean[] row : picture) {
                for (boolean inked : row) {
                    found += inked ? 1 : 0;
                }
            }
            return found;
        }

        static int weight(boolean[][] picture) {
            return (int) (1000L * ink(picture) / (picture.length * picture.length));
        }

        /** Walks over a group; whether it has a pixel in the first or last column or row. */
        boolean walk(boolean[][] picture, boolean[][] seen, int row, int column, boolean diagonal) {
            Deque<int[]> open = new ArrayDeque<>();
            open.push(new int[] {row, column});
            seen[row][column] = true;
            boolean edge = false;
            int last = picture.length - 1;
            while (!open.isEmpty()) {
                int[] at = open.pop();
                edge |= at[0] == 0 || at[1] == 0 || at[0] == last || at[1] == last;
                for (int dy = -1; dy <= 1; dy++) {
                    for (int dx = -1; dx <= 1; dx++) {
                        int y = at[0] + dy;
                        int x = at[1] + dx;
                        if ((diagonal || dx == 0 || dy == 0) && in(x, 0, last) && in(y, 0, last)
                                && !seen[y][x] && picture[y][x] == picture[row][column]) {
                            seen[y][x] = true;
                            open.push(new int[] {y, x});
                        }
                    }
                }
            }
            return edge;
        }

        int groups(boolean[][] picture, boolean inked) {
            boolean[][] seen = new boolean[picture.length][picture.length];
            int found = 0;
            for (int row = 0; row < picture.length; row++) {
                for (int column = 0; column < picture.length; column++) {
                    if (picture[row][column] == inked && !seen[row][column]) {
                        boolean edge = walk(picture, seen, row, column, inked);
                        found += inked || !edge ? 1 : 0;
                    }
                }
            }
            return found;
        }

        boolean isInked(int icon, int size, int column, int row) {
            index(hasIcon(icon) && hasSize(size));
            int last = sizes().get(size)[0] - 1;
            index(in(column, 0, last) && in(row, 0, last));
            return picture(icon, size)[row][column];
        }

        int measure(int icon, int size, int what) {
            index(hasIcon(icon) && hasSize(size));
            argument(in(what, 0, 7));
            boolean[][] picture = picture(icon, size);
            int[] edges = {99, 99, -1, -1};
            for (int row = 0; row < picture.length; row++) {
                for (int column = 0; column < picture.length; column++) {
                    if (picture[row][column]) {
                        edges[0] = Math.min(edges[0], column);
                        edges[1] = Math.min(edges[1], row);
                        edges[2] = Math.max(edges[2], column);
                        edges[3] = Math.max(edges[3], row);
                    }
                }
            }
            switch (what) {
                case 0:
                    return ink(picture);
                case 1:
                    return weight(picture);
                case 2:
                    return groups(picture, true);
                case 3:
                    return groups(picture, false);
                default:
                    return edges[what - 4] == 99 ? -1 : edges[what - 4];
            }
        }

        boolean isMirrored(int icon, int size, boolean down) {
            index(hasIcon(icon) && hasSize(size));
            boolean[][] picture = picture(icon, size);
            int last = picture.length - 1;
            for (int row = 0; row <= last; row++) {
                for (int column = 0; column <= last; column++) {
                    if (picture[row][column] != picture[down ? last - row : row][down ? column : last - column]) {
                        return false;
                    }
                }
            }
            return true;
        }

        int unlike(boolean[][] first, boolean[][] second) {
            int found = 0;
            for (int row = 0; row < first.length; row++) {
                for (int column = 0; column < first.length; column++) {
                    found += first[row][column] != second[row][column] ? 1 : 0;
                }
            }
            return found;
        }

        int difference(int icon, int other, int size) {
            index(hasIcon(icon) && hasIcon(other) && hasSize(size));
            return unlike(picture(icon, size), picture(other, size));
        }

        int alone(int icon, int use, int size) {
            index(hasUse(icon, use) && hasSize(size));
            boolean[][] without = picture(icons().get(icon), sizes().get(size)[0], sizes().get(size)[1], use, -1);
            return unlike(picture(icon, size), without);
        }

        String topology(int icon, int pixels, int extra) {
            boolean[][] picture = picture(icons().get(icon), pixels, extra, -1, -1);
            return groups(picture, true) + " " + groups(picture, false);
        }

        boolean keepsTopology(int icon) {
            index(hasIcon(icon));
            for (int[] first : sizes()) {
                for (int[] second : sizes()) {
                    if (!topology(icon, first[0], first[1]).equals(topology(icon, second[0], second[1]))) {
                        return false;
                    }
                }
            }
            return true;
        }

        int smallest(int icon) {
            index(hasIcon(icon));
            int fewest = 32;
            while (fewest > 4 && topology(icon, fewest - 1, 0).equals(topology(icon, 32, 0))) {
                fewest--;
            }
            return fewest;
        }

        int extreme(int size, boolean greatest) {
            index(hasSize(size));
            if (icons().isEmpty()) {
                throw new NoSuchElementException();
            }
            int found = 0;
            for (int icon = 1; icon < icons().size(); icon++) {
                int more = weight(picture(icon, size)) - weight(picture(found, size));
                if (greatest ? more > 0 : more < 0) {
                    found = icon;
                }
            }
            return found;
        }

        int bestExtra(int size) {
            index(hasSize(size));
            if (icons().isEmpty()) {
                throw new NoSuchElementException();
            }
            int wanted = size(sizes().size() - 1, 2);
            int best = 0;
            for (int extra = -2; extra <= 2; extra++) {
                int distance = Math.abs(mean(sizes().get(size)[0], extra) - wanted);
                int bestDistance = Math.abs(mean(sizes().get(size)[0], best) - wanted);
                if (distance < bestDistance || distance == bestDistance && Math.abs(extra) < Math.abs(best)) {
                    best = extra;
                }
            }
            return best;
        }

        int indifferent(int part, int size) {
            index(hasPart(part) && hasSize(size));
            int found = 0;
            for (int icon = 0; icon < icons().size(); icon++) {
                boolean[][] without = picture(icons().get(icon), sizes().get(size)[0], sizes().get(size)[1], -1, part);
                found += unlike(picture(icon, size), without) == 0 ? 1 : 0;
            }
            return found;
        }

        int writeIcon(int icon, int size) {
            index(hasIcon(icon) && hasSize(size));
            StringBuilder lines = new StringBuilder();
            for (boolean[] row : picture(icon, size)) {
                for (boolean inked : row) {
                    lines.append(inked ? '#' : '.');
                }
                lines.append('\n');
            }
            written = lines.toString();
            return written.length();
        }

        int writtenByte(int index) {
            index(in(index, 0, written.length() - 1));
            return written.charAt(index);
        }
    }
}
