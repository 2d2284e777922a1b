import java.util.LinkedHashMap;
import java.util.Map;

/** The edges of promises 1 to 5 and of the texts that load reads: a case for each sentence. */
public final class EdgeSetupTest extends Checks {
    private static final int SYNTAX = IconSetBuilder.SYNTAX_ERROR;
    private static final int VALUE = IconSetBuilder.VALUE_ERROR;
    private static final int MANY = IconSetBuilder.TOO_MANY;
    private static final String[] QUOTED = {"size", "extra", "part", "icon", "bar", "box", "line", "at"};
    private static final String P = "part p bar 0 0 1 1; ";

    public static void main(String[] args) {
        newObject();
        append();
        loadLength();
        loadResult();
        loadSpacesAndBytes();
        loadWordsAndNames();
        loadDigits();
        loadRanges();
        loadOptionalPieces();
        loadEndsOfText();
        loadTokensOutOfPlace();
        loadNamesThatCannotBe();
        loadTooMany();
        loadFirstError();
        errorPosition();
        count();
        finish("EdgeSetupTest", 1, 5);
    }

    // ---- promise 1

    private static void newObject() {
        for (int what = 0; what <= 5; what++) {
            int w = what;
            answer(1, "count " + what + " is 0", EMPTY, 0, x -> x.count(w));
        }
        answer(1, "there was no error", EMPTY, -1, x -> x.errorPosition());
        answer(1, "the text buffer is empty: the first append makes it 20 long", EMPTY, 20, x -> x.append(0, 0, 0, 0, 0));
        answer(1, "the text buffer is empty: nothing can be read", EMPTY, 0, x -> x.load(0));
        refusal(1, "the text buffer is empty: no byte can be read", EMPTY, ARGUMENT, x -> x.load(1));
        refusal(1, "there is no change", EMPTY, STATE, x -> x.undo());
        answer(1, "no part is found", EMPTY, -1, x -> x.findPart(1));
        answer(1, "no icon is found", EMPTY, -1, x -> x.findIcon(1));
        callsWithAnIndex().forEach((name, call) -> refusal(1, "nothing is there for " + name, EMPTY, INDEX, call));
        edge(1, "objects have nothing in common", () -> {
            IconSetBuilder x = LIVELY.make();
            String before = Trace.of(LIVELY);
            IconSetBuilder y = new IconSetBuilder();
            due(y.count(0) + y.count(1) + y.count(2), 0);
            load(y, "size 30; icon other;");
            due(x.count(2), 3);
            due(x.errorPosition(), 7);
            same(Trace.of(LIVELY), before);
        });
    }

    private static Map<String, Call> callsWithAnIndex() {
        Map<String, Call> calls = new LinkedHashMap<>();
        calls.put("removeSize", x -> x.removeSize(0));
        calls.put("size", x -> x.size(0, 0));
        calls.put("setExtra", x -> x.setExtra(0, 0));
        calls.put("stroke", x -> x.stroke(0, 1));
        calls.put("part", x -> x.part(0, 0));
        calls.put("shape", x -> x.shape(0, 0, 0));
        calls.put("setShape", x -> x.setShape(0, 0, 1, 0));
        calls.put("moveShape", x -> x.moveShape(0, 0, 0, 0));
        calls.put("copyShape", x -> x.copyShape(0, 0, 0, 0));
        calls.put("removeShape", x -> x.removeShape(0, 0));
        calls.put("uses", x -> x.uses(0));
        calls.put("use", x -> x.use(0, 0, 0));
        calls.put("addUse", x -> x.addUse(0, 0, 0, 0));
        calls.put("moveUse", x -> x.moveUse(0, 0, 0, 0));
        calls.put("removeUse", x -> x.removeUse(0, 0));
        calls.put("isInked", x -> bit(x.isInked(0, 0, 0, 0)));
        calls.put("measure", x -> x.measure(0, 0, 0));
        calls.put("isMirrored", x -> bit(x.isMirrored(0, 0, false)));
        calls.put("difference", x -> x.difference(0, 0, 0));
        calls.put("alone", x -> x.alone(0, 0, 0));
        calls.put("keepsTopology", x -> bit(x.keepsTopology(0)));
        calls.put("smallest", x -> x.smallest(0));
        calls.put("extreme", x -> x.extreme(0, true));
        calls.put("bestExtra", x -> x.bestExtra(0));
        calls.put("indifferent", x -> x.indifferent(0, 0));
        calls.put("writeIcon", x -> x.writeIcon(0, 0));
        calls.put("writtenByte", x -> x.writtenByte(0));
        return calls;
    }

    // ---- promise 2

    private static IconSetBuilder filled(int pieces) {
        IconSetBuilder x = new IconSetBuilder();
        for (int piece = 0; piece < pieces; piece++) {
            x.append(SPACES, SPACES, SPACES, SPACES, SPACES);
        }
        return x;
    }

    private static void append() {
        edge(2, "each call makes the buffer 20 longer, up to 900", () -> {
            IconSetBuilder x = new IconSetBuilder();
            for (int k = 1; k <= 45; k++) {
                due(x.append(SPACES, SPACES, SPACES, SPACES, SPACES), 20 * k);
            }
        });
        Start nearlyFull = () -> filled(44);
        Start full = () -> filled(45);
        answer(2, "the length 900 just fits", nearlyFull, 900, x -> x.append(1, 2, 3, 4, 5));
        refusal(2, "a length over 900 does not fit", full, STATE, x -> x.append(1, 2, 3, 4, 5));
        refusal(2, "a full set and history do not matter", FULL, STATE, x -> x.append(LOW, HIGH, -1, 0, 1));
        edge(2, "a refused piece is not in the buffer", () -> {
            IconSetBuilder x = full.make();
            thrown(STATE, () -> x.append(-1, -1, -1, -1, -1));
            thrown(STATE, () -> x.append(-1, -1, -1, -1, -1));
            due(x.load(900), 0);
            due(x.errorPosition(), -1);
        });
        edge(2, "a buffer that was full and read takes 45 pieces again", () -> {
            IconSetBuilder x = full.make();
            x.load(0);
            for (int k = 1; k <= 45; k++) {
                due(x.append(SPACES, SPACES, SPACES, SPACES, SPACES), 20 * k);
            }
            thrown(STATE, () -> x.append(SPACES, SPACES, SPACES, SPACES, SPACES));
        });
        edge(2, "a refused load leaves the buffer", () -> {
            IconSetBuilder x = filled(1);
            thrown(ARGUMENT, () -> x.load(21));
            due(x.append(0, 0, 0, 0, 0), 40);
        });
        appendBytes();
        answer(2, "an append is no change", LIVELY, 2, x -> {
            x.append(1, 2, 3, 4, 5);
            return x.undo();
        });
    }

    private static void appendBytes() {
        for (int place = 0; place < 20; place++) {
            int at = place;
            edge(2, "the byte at " + place + " is read as the one at " + place, () -> {
                IconSetBuilder x = new IconSetBuilder();
                put(x, repeated(" ", "", at) + "?" + repeated(" ", "", 19 - at));
                due(x.load(20), SYNTAX);
                due(x.errorPosition(), at);
            });
        }
        edge(2, "the second piece stands behind the first one", () -> {
            IconSetBuilder x = new IconSetBuilder();
            put(x, repeated(" ", "", 20) + "icon ab;icon cd;icon");
            due(x.load(36), 2);
            due(x.findIcon(name("ab")), 0);
            due(x.findIcon(name("cd")), 1);
        });
        edge(2, "a first byte over 127 does not spoil the other three", () -> {
            for (int place = 0; place < 4; place++) {
                IconSetBuilder x = new IconSetBuilder();
                int word = SPACES & ~(255 << 24 - 8 * place) | 0xff << 24 - 8 * place;
                x.append(SPACES, word, SPACES, SPACES, SPACES);
                due(x.load(20), SYNTAX);
                due(x.errorPosition(), 4 + place);
            }
        });
        edge(2, "the ends of int are bytes like others", () -> {
            for (int word : new int[] {LOW, HIGH, -1, 0}) {
                IconSetBuilder x = new IconSetBuilder();
                due(x.append(SPACES, SPACES, SPACES, SPACES, word), 20);
                due(x.load(20), SYNTAX);
                due(x.errorPosition(), 16);
            }
        });
    }

    // ---- promise 3: the length and what load answers

    private static void loadLength() {
        Start twenty = () -> {
            IconSetBuilder x = LIVELY.make();
            x.load(0);
            put(x, "icon i; icon j;");
            return x;
        };
        range(3, "length", twenty, (x, v) -> x.load(v)).fits(0, 0).fits(20, 2).refuses(ARGUMENT, -1, 21);
        range(3, "length of a full buffer", FULL, (x, v) -> x.load(v)).fits(0, 0).fits(900, 0).refuses(ARGUMENT, -1, 901);
        range(3, "length of an empty buffer", EMPTY, (x, v) -> x.load(v)).fits(0, 0).refuses(ARGUMENT, -1, 1);
        answer(3, "the first bytes alone are read: one statement of two", twenty, 1, x -> x.load(7));
        edge(3, "the first bytes alone are read: a statement is cut", () -> {
            IconSetBuilder x = twenty.make();
            due(x.load(14), SYNTAX);
            due(x.errorPosition(), 14);
        });
        edge(3, "the first bytes alone are read: a number is cut", () -> {
            IconSetBuilder x = new IconSetBuilder();
            put(x, "size 32;");
            due(x.load(6), VALUE);
            due(x.errorPosition(), 5);
        });
        edge(3, "the first bytes alone are read: a word is cut", () -> {
            IconSetBuilder x = new IconSetBuilder();
            put(x, "icon abcdefghi;");
            due(x.load(13), SYNTAX);
            due(x.errorPosition(), 13);
        });
        edge(3, "what was read before is not read behind the length", () -> {
            IconSetBuilder x = new IconSetBuilder();
            put(x, "icon i; icon j; icon k; icon l;");
            due(x.load(40), 4);
            put(x, "icon m;");
            due(x.load(20), 1);
        });
    }

    private static void loadResult() {
        edge(3, "the buffer is empty after a text without error", () -> {
            IconSetBuilder x = new IconSetBuilder();
            put(x, "icon i;");
            due(x.load(7), 1);
            thrown(ARGUMENT, () -> x.load(1));
            due(x.append(0, 0, 0, 0, 0), 20);
        });
        edge(3, "the buffer is empty after a text with an error", () -> {
            IconSetBuilder x = new IconSetBuilder();
            put(x, "icon 1;");
            due(x.load(7), SYNTAX);
            thrown(ARGUMENT, () -> x.load(1));
            due(x.append(0, 0, 0, 0, 0), 20);
        });
        edge(3, "the buffer is empty after no byte of it was read", () -> {
            IconSetBuilder x = new IconSetBuilder();
            put(x, "icon i;");
            due(x.load(0), 0);
            thrown(ARGUMENT, () -> x.load(1));
        });
        edge(3, "a text without a statement replaces the set by nothing", () -> {
            IconSetBuilder x = FULL.make();
            due(x.load(900), 0);
            for (int what = 0; what <= 5; what++) {
                due(x.count(what), 0);
            }
            due(x.findPart(1), -1);
            due(x.findIcon(1), -1);
            due(x.errorPosition(), -1);
        });
        edge(3, "nothing of the present set is left by a smaller one", () -> {
            IconSetBuilder x = FULL.make();
            x.load(0);
            due(load(x, "size 9; part b bar 5 6 7 8; icon c b;"), 1);
            int[] counts = {1, 1, 1, 1, 1, 0};
            for (int what = 0; what <= 5; what++) {
                due(x.count(what), counts[what]);
            }
            due(x.size(0, 1), 0);
            due(x.findPart(1), -1);
            due(x.findPart(2), 0);
            due(x.findIcon(2), -1);
            due(x.findIcon(3), 0);
            int[] shape = {0, 5, 6, 7, 8, 0};
            for (int what = 0; what <= 5; what++) {
                due(x.shape(0, 0, what), shape[what]);
            }
        });
        edge(3, "the present set stays whole in case of an error", () -> {
            IconSetBuilder x = LIVELY.make();
            x.load(0);
            x.undo();
            due(load(x, "size 4; size 5 extra 1; part n bar 0 0 1 1; icon n n; icon m n at 1 2, n?"), SYNTAX);
            IconSetBuilder y = LIVELY.make();
            due(x.count(0), 3);
            due(x.count(3), 5);
            due(x.count(4), 5);
            for (int size = 0; size < 3; size++) {
                due(x.size(size, 0), y.size(size, 0));
                due(x.size(size, 1), y.size(size, 1));
            }
            due(x.use(2, 2, 2), 5);
            due(x.findIcon(name("n")), -1);
            due(x.undo(), 2);
        });
        edge(3, "what a text with an error told is not in the next text", () -> {
            IconSetBuilder x = new IconSetBuilder();
            due(load(x, "size 4;size 5;size 6;size 7;size 8;part p bar 0 0 1 1;icon i p,p,p,p,p,p;?"), SYNTAX);
            due(load(x, "size 4;size 5;size 6;size 7;size 8;part p bar 0 0 1 1;icon i;icon j p;"), 2);
            due(x.uses(0), 0);
            due(x.uses(1), 1);
            due(load(x, "icon i p;"), VALUE);
        });
        answer(3, "no icon is answered with 0", start("size 4;" + P), 0, x -> load(x, "size 5;"));
        answer(3, "8 icons are answered with 8", EMPTY, 8, x -> load(x, icons(8)));
    }

    private static String icons(int number) {
        StringBuilder text = new StringBuilder();
        for (int icon = 0; icon < number; icon++) {
            text.append("icon ").append((char) ('a' + icon)).append(';');
        }
        return text.toString();
    }

    private static String parts(int number) {
        StringBuilder text = new StringBuilder();
        for (int part = 0; part < number; part++) {
            text.append("part ").append((char) ('a' + part)).append(" bar 0 0 1 1;");
        }
        return text.toString();
    }

    private static String sizes(int number) {
        StringBuilder text = new StringBuilder();
        for (int size = 0; size < number; size++) {
            text.append("size ").append(4 + size).append(';');
        }
        return text.toString();
    }

    // ---- promise 3: what texts are made of

    private static void right(String sentence, String text, int icons) {
        edge(3, sentence, () -> {
            IconSetBuilder x = new IconSetBuilder();
            due(load(x, text), icons);
            due(x.errorPosition(), -1);
        });
    }

    private static void wrong(String sentence, String text, int code, int position) {
        edge(3, sentence, () -> error(text, code, position));
    }

    private static void loadSpacesAndBytes() {
        right("a text of no statement", "", 0);
        right("a text of spaces alone", "   ", 0);
        right("a text of 900 spaces", repeated(" ", "", 900), 0);
        right("a statement that ends with the 900th byte", repeated(" ", "", 892) + "icon ab;", 1);
        right("no space stands where none is needed",
                "size4extra1;size5extra-1;part p bar0 0 1 1,box0 0 1 1 1,line0 0 1 1 1;icon i p at1 1,p at-1-1,p;", 1);
        right("spaces stand in front of every token and at the end of the text",
                "  size  4  extra  -  1  ;  part  p  bar  0  0  1  1  ,  line  0  0  1  1  1  ;"
                        + "  icon  i  p  at  -  1  -  1  ,  p  ;  ", 1);
        edge(3, "no byte but a space stands in front of a statement", () -> {
            for (int sign = 0; sign < 256; sign++) {
                IconSetBuilder x = new IconSetBuilder();
                due(load(x, (char) sign + "size 8;"), sign == ' ' ? 0 : SYNTAX);
                due(x.errorPosition(), sign == ' ' ? -1 : 0);
            }
        });
        edge(3, "no byte but a space stands behind a statement", () -> {
            for (int sign = 0; sign < 256; sign++) {
                IconSetBuilder x = new IconSetBuilder();
                due(load(x, "size 8;" + (char) sign), sign == ' ' ? 0 : SYNTAX);
                due(x.errorPosition(), sign == ' ' ? -1 : 7);
            }
        });
        edge(3, "no byte but a space stands behind a number and its semicolon", () -> {
            for (int sign = 0; sign < 256; sign++) {
                boolean digit = sign >= '0' && sign <= '9';
                IconSetBuilder x = new IconSetBuilder();
                due(load(x, "size 8" + (char) sign + ";"), sign == ' ' ? 0 : digit ? VALUE : SYNTAX);
                due(x.errorPosition(), sign == ' ' ? -1 : digit ? 5 : sign == ';' ? 7 : 6);
            }
        });
        edge(3, "no byte but a to z stands in a name", () -> {
            for (int sign = 0; sign < 256; sign++) {
                boolean letter = sign >= 'a' && sign <= 'z';
                IconSetBuilder x = new IconSetBuilder();
                due(load(x, "icon " + (char) sign + ";"), letter ? 1 : SYNTAX);
                due(x.errorPosition(), letter ? -1 : sign == ' ' ? 6 : 5);
            }
        });
        edge(3, "no byte but 0 to 9 is a number", () -> {
            for (int sign = 0; sign < 256; sign++) {
                boolean digit = sign >= '0' && sign <= '9';
                IconSetBuilder x = new IconSetBuilder();
                due(load(x, "part p bar " + (char) sign + " 0 1 1;"), digit ? 0 : SYNTAX);
                due(x.errorPosition(), digit ? -1 : sign == ' ' ? 18 : 11);
            }
        });
    }

    private static void loadWordsAndNames() {
        right("a name of 1 letter", "part p bar 0 0 1 1; icon i p;", 1);
        right("a name of 8 letters", "part abcdefgh bar 0 0 1 1; icon hgfedcba abcdefgh;", 1);
        wrong("a part's name of 9 letters", "part abcdefghi bar 0 0 1 1;", SYNTAX, 5);
        wrong("an icon's name of 9 letters", "icon  abcdefghi;", SYNTAX, 6);
        wrong("a used name of 9 letters, the first 8 of them a part's", "part abcdefgh bar 0 0 1 1; icon i abcdefghi;", SYNTAX, 34);
        wrong("a used name of 9 letters, the last 8 of them a part's", "part abcdefgh bar 0 0 1 1; icon i xabcdefgh;", SYNTAX, 34);
        wrong("a name of 13 letters, the last of them a name", "part p bar 0 0 1 1; icon i xxxxxxxxxxxxp;", SYNTAX, 27);
        wrong("a name of many letters", "icon " + repeated("z", "", 895), SYNTAX, 5);
        edge(3, "the quoted words are names of parts, icons and uses", () -> {
            for (String word : QUOTED) {
                IconSetBuilder x = of("part " + word + " bar 0 0 1 1; icon " + word + " " + word + " at 1 2, " + word + ";");
                due(x.findPart(name(word)), 0);
                due(x.findIcon(name(word)), 0);
                due(x.use(0, 0, 1), 1);
                due(x.use(0, 1, 1), 0);
            }
        });
        right("the part of the name at is used with a shift", "part at bar 0 0 1 1; icon at at at 1 2;", 1);
        right("the part of the name at is used without a shift", "part at bar 0 0 1 1; icon at at;", 1);
        right("an icon of the name at has no uses", "icon at;", 1);
        wrong("a word goes as far as it can: two words joined", "sizeextra 8;", SYNTAX, 0);
        wrong("a word goes as far as it can: a statement and a name", "iconi;", SYNTAX, 0);
        wrong("a word goes as far as it can: a name and at", P + "icon i pat 1 1;", VALUE, 27);
        wrong("a word goes as far as it can: a longer word than at", P + "icon i p att 1 1;", SYNTAX, 29);
        wrong("a word is not cut: a shorter word than at", P + "icon i p a 1 1;", SYNTAX, 29);
        wrong("a word is not cut: a shorter word than size", "siz 8;", SYNTAX, 0);
        wrong("a word is not cut: a longer word than extra", "size 8 extras 1;", SYNTAX, 7);
        wrong("a word is not cut: a shorter word than extra", "size 8 extr 1;", SYNTAX, 7);
        wrong("a word is not cut: a longer word than bar", "part p bars 0 0 1 1;", SYNTAX, 7);
        wrong("a word is not cut: a shorter word than line", "part p lin 0 0 1 1 1;", SYNTAX, 7);
        wrong("a capital letter is no letter", "icon A;", SYNTAX, 5);
        wrong("a capital letter ends a word", "icon aB;", SYNTAX, 6);
        wrong("a digit ends a word", "icon a1;", SYNTAX, 6);
        wrong("another word than the three statements", "extra 1;", SYNTAX, 0);
        wrong("another word than the three shapes", "part p icon 0 0 1 1;", SYNTAX, 7);
        wrong("a name of 13 letters whose last 8 make a word of a statement", "aaaaaaaaasize 8;", SYNTAX, 0);
    }

    private static void loadDigits() {
        right("zeros ahead of a number", "size 0000000000000000000008;", 0);
        right("zeros ahead of a number that is 0", "part p bar 0000 00 001 01;", 0);
        wrong("a number goes as far as it can", "part p bar 0 0 11;", SYNTAX, 17);
        wrong("a number goes as far as it can and is too large", "part p bar 100 1 1;", VALUE, 11);
        right("a letter ends a number", "size 8extra 1;", 0);
        wrong("a point ends a number", "size 8.0;", SYNTAX, 6);
        wrong("a plus is no sign", "size 8 extra +1;", SYNTAX, 13);
        edge(3, "minus 0 is 0", () -> due(of("size 8 extra -0;").size(0, 1), 0));
        edge(3, "spaces and zeros stand behind the minus", () -> due(of("size 8 extra -  002;").size(0, 1), -2));
        wrong("two minuses", "size 8 extra --1;", SYNTAX, 14);
        wrong("a minus without a number", "size 8 extra -;", SYNTAX, 14);
        wrong("a minus without a number at the end of the text", "size 8 extra -", SYNTAX, 14);
        wrong("a number over 2 to the 32nd that would wrap round to 8", "size 4294967304;", VALUE, 5);
        wrong("a number over 2 to the 64th that would wrap round to 8", "size 18446744073709551624;", VALUE, 5);
        wrong("a number that would wrap round to -1", "size 8 extra 4294967295;", VALUE, 13);
        wrong("a negative number that would wrap round to 1", "size 8 extra -4294967295;", VALUE, 14);
        wrong("the number over the greatest int", "size 2147483648;", VALUE, 5);
        wrong("a number of many digits", "size " + repeated("9", "", 890) + ";", VALUE, 5);
        wrong("a number of many digits, the last ones of them a number in range", "size 1" + repeated("0", "", 800) + "8;", VALUE, 5);
    }

    /** A number of a text, written as a question mark: just too small, just fitting, just too large. */
    private static void number(String name, String text, int least, int greatest, Call ask) {
        int mark = text.indexOf('?');
        boolean signed = least < 0;
        for (int value : new int[] {least, greatest}) {
            edge(3, name + " " + value + " just fits", () -> due(ask.on(of(text.replace("?", String.valueOf(value)))), value));
        }
        for (int value : new int[] {least - 1, greatest + 1, LOW, HIGH}) {
            int code = value < 0 && !signed ? SYNTAX : VALUE;
            int place = value < 0 && signed ? mark + 1 : mark;
            wrong(name + " " + value + " does not fit", text.replace("?", String.valueOf(value)), code, place);
        }
    }

    private static void loadRanges() {
        number("the pixels of a size", "size ?;", 4, 32, x -> x.size(0, 0));
        number("the extra of a size", "size 8 extra ?;", -2, 2, x -> x.size(0, 1));
        number("the x of a bar", "part p bar ? 0 1 1;", 0, 47, x -> x.shape(0, 0, 1));
        number("the y of a bar", "part p bar 0 ? 1 1;", 0, 47, x -> x.shape(0, 0, 2));
        number("the width of a bar", "part p bar 0 0 ? 1;", 1, 48, x -> x.shape(0, 0, 3));
        number("the height of a bar", "part p bar 0 0 1 ?;", 1, 48, x -> x.shape(0, 0, 4));
        number("the x of a box", "part p box ? 0 1 1 1;", 0, 47, x -> x.shape(0, 0, 1));
        number("the y of a box", "part p box 0 ? 1 1 1;", 0, 47, x -> x.shape(0, 0, 2));
        number("the width of a box", "part p box 0 0 ? 1 1;", 1, 48, x -> x.shape(0, 0, 3));
        number("the height of a box", "part p box 0 0 1 ? 1;", 1, 48, x -> x.shape(0, 0, 4));
        number("the thickness of a box", "part p box 0 0 1 1 ?;", 1, 12, x -> x.shape(0, 0, 5));
        number("the first x of a line", "part p line ? 0 0 0 1;", 0, 48, x -> x.shape(0, 0, 1));
        number("the first y of a line", "part p line 0 ? 0 0 1;", 0, 48, x -> x.shape(0, 0, 2));
        number("the second x of a line", "part p line 0 0 ? 0 1;", 0, 48, x -> x.shape(0, 0, 3));
        number("the second y of a line", "part p line 0 0 0 ? 1;", 0, 48, x -> x.shape(0, 0, 4));
        number("the thickness of a line", "part p line 0 0 0 0 ?;", 1, 12, x -> x.shape(0, 0, 5));
        number("the shift to the right", P + "icon i p at ? 0;", -48, 48, x -> x.use(0, 0, 1));
        number("the shift downward", P + "icon i p at 0 ?;", -48, 48, x -> x.use(0, 0, 2));
        right("a bar and a box may reach beyond the grid", "part p bar 47 47 48 48, box 47 47 48 48 12;", 0);
        wrong("the place of a wrong number behind a minus and spaces is its digit", "size 8 extra -  3;", VALUE, 16);
        wrong("the place of a wrong number with zeros ahead is the first of them", "size 003;", VALUE, 5);
    }

    private static void loadOptionalPieces() {
        edge(3, "a size without an extra has the extra 0", () -> {
            IconSetBuilder x = of("size 8 extra 2; size 9; size 7 extra 1; size 10; size 6;");
            int[] extras = {0, 1, 2, 0, 0};
            for (int size = 0; size < 5; size++) {
                due(x.size(size, 0), 6 + size);
                due(x.size(size, 1), extras[size]);
            }
        });
        edge(3, "a bar has no e: it is 0, also where a line stood before", () -> {
            IconSetBuilder x = of("part p line 0 0 1 1 12, box 0 0 1 1 12;");
            load(x, "part p bar 0 0 1 1, bar 0 0 1 1;");
            due(x.shape(0, 0, 5), 0);
            due(x.shape(0, 1, 5), 0);
        });
        edge(3, "a use without a shift has the shift 0, also where one stood before", () -> {
            IconSetBuilder x = of(P + "icon i p at 5 6, p at 7 8;");
            load(x, P + "icon i p, p at -7 -8;");
            due(x.use(0, 0, 1), 0);
            due(x.use(0, 0, 2), 0);
            due(x.use(0, 1, 1), -7);
            due(x.use(0, 1, 2), -8);
        });
        edge(3, "each of the two shifts has a minus or none", () -> {
            IconSetBuilder x = of(P + "icon i p at 1 2, p at -1 2, p at 1 -2, p at -1 -2;");
            int[][] shifts = {{1, 2}, {-1, 2}, {1, -2}, {-1, -2}};
            for (int use = 0; use < 4; use++) {
                due(x.use(0, use, 1), shifts[use][0]);
                due(x.use(0, use, 2), shifts[use][1]);
            }
        });
        edge(3, "an icon has no use, one, or 6", () -> {
            IconSetBuilder x = of(P + "icon none; icon one p; icon six p,p,p,p,p,p;");
            due(x.uses(0), 0);
            due(x.uses(1), 1);
            due(x.uses(2), 6);
        });
        edge(3, "a part has one shape, or 6", () -> {
            IconSetBuilder x = of("part one bar 0 0 1 1; part six " + repeated("line 0 0 1 1 1", ",", 6) + ";");
            due(x.part(0, 0), 1);
            due(x.part(1, 0), 6);
        });
        edge(3, "statements come in any order, and numbers are given as they come", () -> {
            IconSetBuilder x = of("icon b; size 9; part q bar 0 0 1 1; icon a q; size 8; part p bar 1 1 1 1; icon c p;");
            due(x.findPart(name("q")), 0);
            due(x.findPart(name("p")), 1);
            due(x.findIcon(name("b")), 0);
            due(x.findIcon(name("a")), 1);
            due(x.findIcon(name("c")), 2);
            due(x.use(2, 0, 0), 1);
            due(x.size(0, 0), 8);
        });
    }

    private static void loadEndsOfText() {
        String[] texts = {
            "size", "size ", "size 12", "size 12 ", "size 12 extra", "size 12 extra ", "size 12 extra -",
            "size 12 extra 1", "size 12 extra -1 ", "part", "part ", "part p", "part p ", "part p bar", "part p bar 0",
            "part p bar 0 0", "part p bar 0 0 1", "part p bar 0 0 1 ", "part p bar 0 0 1 1", "part p box 0 0 1 1",
            "part p box 0 0 1 1 1", "part p line 0 0 1 1 1  ", "part p bar 0 0 1 1,", "part p bar 0 0 1 1, ",
            "icon", "icon ", "icon i", "icon i  ", P + "icon i p", P + "icon i p ", P + "icon i p at",
            P + "icon i p at 1", P + "icon i p at -", P + "icon i p at 1 -", P + "icon i p at 1 1", P + "icon i p,",
            P + "icon i p, "};
        for (String text : texts) {
            wrong("an unexpected end of the text behind \"" + text + "\"", text, SYNTAX, text.length());
        }
        wrong("an unexpected end in a word of a statement", "siz", SYNTAX, 0);
        wrong("an unexpected end in the word extra", "size 12 ext", SYNTAX, 8);
        wrong("an unexpected end in the word of a shape", "part p b", SYNTAX, 7);
        wrong("an unexpected end in the word at", P + "icon i p a", SYNTAX, 29);
        wrong("an unexpected end at the 900th byte", repeated(" ", "", 896) + "icon", SYNTAX, 900);
        wrong("an error in the 900th byte", repeated(" ", "", 899) + "?", SYNTAX, 899);
    }

    private static void loadTokensOutOfPlace() {
        wrong("a semicolon without a statement", ";", SYNTAX, 0);
        wrong("two semicolons", "icon i;;", SYNTAX, 7);
        wrong("a comma without a statement", ",", SYNTAX, 0);
        wrong("a number without a statement", "8;", SYNTAX, 0);
        wrong("no semicolon between statements", "icon i icon j;", VALUE, 7);
        wrong("no semicolon between sizes", "size 8 size 9;", SYNTAX, 7);
        wrong("no semicolon between parts", "part p bar 0 0 1 1 part q bar 0 0 1 1;", SYNTAX, 19);
        wrong("a size without a number", "size ;", SYNTAX, 5);
        wrong("a size with a word", "size extra 1;", SYNTAX, 5);
        wrong("a size with a minus", "size -8;", SYNTAX, 5);
        wrong("a size with two numbers", "size 8 9;", SYNTAX, 7);
        wrong("a size with a comma", "size 8, 9;", SYNTAX, 6);
        wrong("an extra without a number", "size 8 extra;", SYNTAX, 12);
        wrong("an extra with two numbers", "size 8 extra 1 1;", SYNTAX, 15);
        wrong("two extras", "size 8 extra 1 extra 1;", SYNTAX, 15);
        wrong("a part without a name", "part ;", SYNTAX, 5);
        wrong("a part with a number as a name", "part 1 bar 0 0 1 1;", SYNTAX, 5);
        wrong("a part without a shape", "part p;", SYNTAX, 6);
        wrong("a part without a shape behind its comma", "part p bar 0 0 1 1,;", SYNTAX, 19);
        wrong("a part with a comma ahead of its first shape", "part p, bar 0 0 1 1;", SYNTAX, 6);
        wrong("a part with two commas", "part p bar 0 0 1 1,, bar 0 0 1 1;", SYNTAX, 19);
        wrong("a part without a comma between two shapes", "part p bar 0 0 1 1 bar 0 0 1 1;", SYNTAX, 19);
        wrong("a bar with three numbers", "part p bar 0 0 1;", SYNTAX, 16);
        wrong("a bar with five numbers", "part p bar 0 0 1 1 1;", SYNTAX, 19);
        wrong("a box with four numbers", "part p box 0 0 1 1;", SYNTAX, 18);
        wrong("a box with six numbers", "part p box 0 0 1 1 1 1;", SYNTAX, 21);
        wrong("a line with four numbers", "part p line 0 0 1 1;", SYNTAX, 19);
        wrong("a line with six numbers", "part p line 0 0 1 1 1 1;", SYNTAX, 22);
        wrong("a shape with a minus", "part p line 0 0 1 -1 1;", SYNTAX, 18);
        wrong("a shape with commas between its numbers", "part p bar 0, 0, 1, 1;", SYNTAX, 12);
        wrong("an icon without a name", "icon ;", SYNTAX, 5);
        wrong("an icon with a number as a name", "icon 1;", SYNTAX, 5);
        wrong("an icon with a number", "icon i 1;", SYNTAX, 7);
        wrong("an icon with a comma ahead of its first use", P + "icon i, p;", SYNTAX, 26);
        wrong("an icon without a use behind its comma", P + "icon i p,;", SYNTAX, 29);
        wrong("an icon with two commas", P + "icon i p,,p;", SYNTAX, 29);
        wrong("an icon without a comma between two uses", P + "icon i p p;", SYNTAX, 29);
        wrong("a use with a number", P + "icon i p 1 1;", SYNTAX, 29);
        wrong("a shift without numbers", P + "icon i p at;", SYNTAX, 31);
        wrong("a shift of one number", P + "icon i p at 1;", SYNTAX, 33);
        wrong("a shift of one number and a comma", P + "icon i p at 1, p;", SYNTAX, 33);
        wrong("a shift of three numbers", P + "icon i p at 1 1 1;", SYNTAX, 36);
        wrong("two shifts", P + "icon i p at 1 1 at 1 1;", SYNTAX, 36);
    }

    private static void loadNamesThatCannotBe() {
        wrong("the pixels of a size that is there already", "size 8; size 9; size 8;", VALUE, 21);
        wrong("the pixels of a size that is there already, with a zero ahead", "size 8; size 08;", VALUE, 13);
        wrong("the pixels of a size that is there with another extra", "size 8 extra 1; size 8 extra 2;", VALUE, 21);
        wrong("the name of a part that another part has", parts(3) + "part a bar 0 0 1 1;", VALUE, 62);
        wrong("the name of the part just before", "part p bar 0 0 1 1; part  p bar 0 0 1 1;", VALUE, 26);
        wrong("the name of an icon that another icon has", "icon a; icon b; icon a;", VALUE, 21);
        wrong("the name of an icon that the icon just before has", "icon b; icon b p;", VALUE, 13);
        right("a part and an icon of the same name", "part p bar 0 0 1 1; icon p p; icon q;", 2);
        right("an icon and then a part of the same name", "icon p; part p bar 0 0 1 1;", 1);
        wrong("a use of a part that was not told", P + "icon i q;", VALUE, 27);
        wrong("a use of a part that is told behind it", "icon i p; part p bar 0 0 1 1;", VALUE, 7);
        wrong("a use of an icon", "icon i; icon j i;", VALUE, 15);
        wrong("a use of the icon itself", "icon i i;", VALUE, 7);
        wrong("a use of a part of the present set alone", "icon i kept;", VALUE, 7);
        wrong("a name that is the beginning of a part's", "part pp bar 0 0 1 1; icon i p;", VALUE, 28);
        wrong("a name that a part's is the beginning of", P + "icon i pp;", VALUE, 27);
        wrong("a second use of a part that was not told", P + "icon i p at 1 1, q;", VALUE, 37);
        edge(3, "sizes and names of the present set may come again", () -> {
            IconSetBuilder x = of("size 8; part p bar 0 0 1 1; icon i p;");
            due(load(x, "size 8; part p bar 0 0 1 1; icon i p;"), 1);
        });
    }

    private static void loadTooMany() {
        right("5 sizes", sizes(5), 0);
        wrong("the word of a sixth size", sizes(5) + " size 31;", MANY, 36);
        wrong("the word of a sixth size alone", sizes(5) + "size", MANY, 35);
        wrong("a sixth size that could not be", sizes(5) + "size 99;", MANY, 35);
        wrong("a sixth size that is there already", sizes(5) + "size 4;", MANY, 35);
        right("8 parts", parts(8), 0);
        wrong("the word of a ninth part", parts(8) + " part i bar 0 0 1 1;", MANY, parts(8).length() + 1);
        wrong("the word of a ninth part alone", parts(8) + "part", MANY, parts(8).length());
        wrong("a ninth part that could not be", parts(8) + "part a 1;", MANY, parts(8).length());
        right("8 icons", icons(8), 8);
        wrong("the word of a ninth icon", icons(8) + " icon i;", MANY, icons(8).length() + 1);
        wrong("the word of a ninth icon alone", icons(8) + "icon", MANY, icons(8).length());
        wrong("a ninth icon that could not be", icons(8) + "icon a;", MANY, icons(8).length());
        right("5 sizes, 8 parts and 8 icons", icons(8) + parts(8) + sizes(5), 8);
        String six = "part p " + repeated("line 0 0 1 1 1", ",", 6);
        wrong("the comma ahead of a seventh shape", six + ", bar 0 0 1 1;", MANY, six.length());
        wrong("the comma ahead of a seventh shape, behind spaces", six + "  ,bar 0 0 1 1;", MANY, six.length() + 2);
        wrong("the comma ahead of a seventh shape that could not be", six + ",bar 99;", MANY, six.length());
        wrong("another sign behind the sixth shape", six + "?", SYNTAX, six.length());
        String uses = P + "icon i " + repeated("p at 1 1", ",", 6);
        wrong("the comma ahead of a seventh use", uses + ", p;", MANY, uses.length());
        wrong("the comma ahead of a seventh use, behind spaces", uses + "  ,p;", MANY, uses.length() + 2);
        wrong("the comma ahead of a seventh use of an unknown part", uses + ",q;", MANY, uses.length());
        wrong("another sign behind the sixth use", uses + "?", SYNTAX, uses.length());
        right("6 shapes or uses of each of two parts and icons", six + "; part q " + six.substring(7) + "; icon i "
                + repeated("p", ",", 6) + "; icon j " + repeated("q", ",", 6) + ";", 2);
    }

    private static void loadFirstError() {
        wrong("the first of two errors: a number and then a sign", "size 3?", VALUE, 5);
        wrong("the first of two errors: a sign and then a number", "size 8? size 3;", SYNTAX, 6);
        wrong("the first of two errors: a name and then the end", "icon i q", VALUE, 7);
        wrong("the first of two errors: pixels that are there and then a wrong extra", "size 8; size 8 extra 3;", VALUE, 13);
        wrong("the first of two errors: too many and then a sign", icons(8) + "icon ?", MANY, icons(8).length());
        wrong("at one place a syntax error is told ahead of a value error: a used name", "icon i abcdefghi;", SYNTAX, 7);
        wrong("at one place a syntax error is told ahead of a value error: a second name",
                "icon abcdefgh; icon abcdefghi;", SYNTAX, 20);
        wrong("at one place a syntax error is told ahead of another one: a word as the ninth icon",
                icons(8) + "icons i;", SYNTAX, icons(8).length());
    }

    // ---- promise 4

    private static void errorPosition() {
        answer(4, "NONE if there was no call of load", () -> filled(3), -1, x -> x.errorPosition());
        edge(4, "NONE if the latest call found no error", () -> {
            IconSetBuilder x = new IconSetBuilder();
            load(x, " ?");
            due(x.errorPosition(), 1);
            load(x, "icon i;");
            due(x.errorPosition(), -1);
        });
        edge(4, "NONE after a text without a byte", () -> {
            IconSetBuilder x = LIVELY.make();
            due(x.errorPosition(), 7);
            x.load(0);
            due(x.errorPosition(), -1);
        });
        edge(4, "the place of the latest of several errors", () -> {
            IconSetBuilder x = new IconSetBuilder();
            load(x, "   ?");
            load(x, " size 3;");
            due(x.errorPosition(), 6);
            load(x, "?");
            due(x.errorPosition(), 0);
        });
        edge(4, "the first byte and the end of a full text", () -> {
            IconSetBuilder x = new IconSetBuilder();
            load(x, "?" + repeated(" ", "", 899));
            due(x.errorPosition(), 0);
            load(x, repeated(" ", "", 896) + "icon");
            due(x.errorPosition(), 900);
        });
        edge(4, "a call of load that is refused leaves it", () -> {
            IconSetBuilder x = LIVELY.make();
            thrown(ARGUMENT, () -> x.load(-1));
            thrown(ARGUMENT, () -> x.load(21));
            due(x.errorPosition(), 7);
        });
        edge(4, "changes and undo leave it", () -> {
            IconSetBuilder x = LIVELY.make();
            x.addSize(30);
            x.undo();
            x.undo();
            due(x.errorPosition(), 7);
            x.load(0);
            x.undo();
            due(x.errorPosition(), -1);
        });
    }

    // ---- promise 5

    private static void count() {
        range(5, "what of an empty set", EMPTY, (x, v) -> x.count(v)).fits(0, 0).fits(5, 0).refuses(ARGUMENT, -1, 6);
        range(5, "what of a full set", FULL, (x, v) -> x.count(v)).fits(0, 5).fits(1, 8).fits(2, 8).fits(3, 48)
                .fits(4, 48).fits(5, 0).refuses(ARGUMENT, -1, 6);
        range(5, "what of another set", LIVELY, (x, v) -> x.count(v)).fits(0, 3).fits(1, 3).fits(2, 3).fits(3, 5)
                .fits(4, 5).fits(5, 1).refuses(ARGUMENT, -1, 6);
        answer(5, "all of 8 parts are unused", start(parts(8) + icons(8)), 8, x -> x.count(5));
        edge(5, "a part is unused when its last use is gone", () -> {
            IconSetBuilder x = of(P + "icon a p, p; icon b; icon c p;");
            x.removeUse(0, 0);
            due(x.count(5), 0);
            x.removeUse(2, 0);
            due(x.count(5), 0);
            x.removeUse(0, 0);
            due(x.count(5), 1);
            x.addUse(1, 0, 48, 48);
            due(x.count(5), 0);
        });
        edge(5, "uses of an icon without ink count like others", () -> {
            IconSetBuilder x = of("part p bar 0 0 1 1; part q bar 0 0 1 1; icon a q at 48 48;");
            due(x.count(4), 1);
            due(x.count(5), 1);
        });
    }
}
