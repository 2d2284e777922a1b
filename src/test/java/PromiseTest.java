/** At least one test for each promise of the document, with answers worked out by hand. */
public final class PromiseTest extends Checks {
    /** Sizes 8 and 16 (extra 1); a frame all around and a dot in its middle. */
    private static final String SET = "size 8; size 16 extra 1;"
            + " part frame box 0 0 48 48 6; part dot bar 18 18 12 12, line 0 0 48 0 3;"
            + " icon a frame; icon b frame, dot; icon c; icon d dot at 6 -6;";

    public static void main(String[] args) {
        setupPromises();
        sizePromises();
        partPromises();
        iconPromises();
        drawingPromises();
        comparingPromises();
        textPromises();
        finish("PromiseTest", 1, 0);
    }

    private static void setupPromises() {
        promise1NewObject();
        promise2Append();
        promise3LoadGrammar();
        promise3LoadSyntaxErrors();
        promise3LoadValueErrors();
        promise3LoadTooMany();
        promise3LoadLength();
        promise4ErrorPosition();
        promise5Count();
    }

    private static void sizePromises() {
        promise6AddSize();
        promise7RemoveSize();
        promise8Size();
        promise9SetExtra();
        promise10Stroke();
    }

    private static void partPromises() {
        promise11FindPart();
        promise12Part();
        promise13Shape();
        promise14SetShape();
        promise15MoveShape();
        promise16CopyShape();
        promise17RemoveShape();
    }

    private static void iconPromises() {
        promise18FindIcon();
        promise19Uses();
        promise20Use();
        promise21AddUse();
        promise22MoveUse();
        promise23RemoveUse();
    }

    private static void drawingPromises() {
        promise24IsInkedBars();
        promise24IsInkedBoxes();
        promise24IsInkedLines();
        promise24IsInkedIndexes();
        promise25Measure();
        promise25Topology();
        promise25HolesAtTheEdges();
        promise26IsMirrored();
        promise27Difference();
        promise28Alone();
    }

    private static void comparingPromises() {
        promise29KeepsTopology();
        promise30Smallest();
        promise31Extreme();
        promise32BestExtra();
        promise33Indifferent();
    }

    private static void textPromises() {
        promise34WriteIcon();
        promise35WrittenByte();
        promise36Undo();
        promise36UndoOfEachChange();
    }

    // ---- setup

    private static void promise1NewObject() {
        promise = 1;
        IconSetBuilder x = new IconSetBuilder();
        for (int what = 0; what <= 5; what++) {
            due(x.count(what), 0);
        }
        due(x.errorPosition(), -1);
        due(x.append(0, 0, 0, 0, 0), 20);
        IconSetBuilder y = new IconSetBuilder();
        thrown(ARGUMENT, () -> y.load(1));
        thrown(STATE, () -> y.undo());
        thrown(INDEX, () -> y.writtenByte(0));
        due(IconSetBuilder.NONE, -1);
        due(IconSetBuilder.SYNTAX_ERROR, -2);
        due(IconSetBuilder.VALUE_ERROR, -3);
        due(IconSetBuilder.TOO_MANY, -4);
    }

    private static void promise2Append() {
        promise = 2;
        IconSetBuilder x = new IconSetBuilder();
        for (int k = 1; k <= 45; k++) {
            due(x.append(0x20202020, 0x20202020, 0x20202020, 0x20202020, 0x20202020), 20 * k);
        }
        thrown(STATE, () -> x.append(1, 2, 3, 4, 5));
        thrown(STATE, () -> x.append(1, 2, 3, 4, 5));
        due(x.load(900), 0);
        due(x.append(0, 0, 0, 0, 0), 20);
        // "icon", " abc", ";ico", "n d;", and a byte over 127 at the end
        IconSetBuilder y = new IconSetBuilder();
        y.append(0x69636f6e, 0x20616263, 0x3b69636f, 0x6e20643b, 0x202020ff);
        due(y.load(20), -2);
        due(y.errorPosition(), 19);
        y.append(0x69636f6e, 0x20616263, 0x3b69636f, 0x6e20643b, 0x202020ff);
        due(y.load(19), 2);
        due(y.findIcon(name("abc")), 0);
        due(y.findIcon(name("d")), 1);
    }

    private static void promise3LoadGrammar() {
        promise = 3;
        IconSetBuilder x = of(SET);
        due(x.count(2), 4);
        due(load(x, ""), 0);
        due(x.count(0), 0);
        due(x.count(1), 0);
        due(load(x, "     "), 0);
        // no spaces are needed between a word and a number, any are allowed ahead of a token
        due(load(x, "size8extra-1;  size  007 extra - 2 ;part p bar0 0 1 1;icon i p at-48 48,p;"), 1);
        due(x.size(0, 0), 7);
        due(x.size(0, 1), -2);
        due(x.size(1, 0), 8);
        due(x.size(1, 1), -1);
        due(x.use(0, 0, 1), -48);
        due(x.use(0, 0, 2), 48);
        due(x.use(0, 1, 1), 0);
        due(load(x, "size 9 extra -0; icon at; icon e;"), 2);
        due(x.size(0, 1), 0);
        // the quoted words are names, and a part and an icon may share one
        due(load(x, "part at bar 0 0 1 1; part part at at 1 2;"), -2);
        due(x.errorPosition(), 31);
        due(load(x, "part at bar 0 0 1 1; part icon bar 1 1 1 1; icon icon at at 1 2, icon; icon at;"), 2);
        due(x.findPart(name("icon")), 1);
        due(x.findIcon(name("icon")), 0);
        due(x.use(0, 0, 0), 0);
        due(x.use(0, 0, 1), 1);
        due(x.use(0, 0, 2), 2);
        due(x.use(0, 1, 0), 1);
        // sizes stand in ascending order of their pixels, each with its own extra
        due(load(x, "size 32 extra 2; size 4 extra 1; size 20; size 5 extra -1; size 31 extra -2;"), 0);
        int[] pixels = {4, 5, 20, 31, 32};
        int[] extras = {1, -1, 0, -2, 2};
        for (int size = 0; size < 5; size++) {
            due(x.size(size, 0), pixels[size]);
            due(x.size(size, 1), extras[size]);
        }
        // the least and the greatest numbers of all kinds
        due(load(x, "part p bar 47 47 48 48, bar 0 0 1 1, box 47 47 48 48 12, box 0 0 1 1 1,"
                + " line 48 48 48 48 12, line 0 0 0 0 1; icon i p at 48 48, p at -48 -48, p, p, p, p;"), 1);
        due(x.count(3), 6);
        due(x.count(4), 6);
        due(load(x, "part abcdefgh bar 0 0 1 1; icon zzzzzzzz abcdefgh;"), 1);
        due(x.findPart(name("abcdefgh")), 0);
        due(x.findIcon(name("zzzzzzzz")), 0);
    }

    private static void promise3LoadSyntaxErrors() {
        promise = 3;
        error(";", -2, 0);
        error("  sizes 8;", -2, 2);
        error("Size 8;", -2, 0);
        error("size", -2, 4);
        error("size   ", -2, 7);
        error("size ;", -2, 5);
        error("size x;", -2, 5);
        error("size -8;", -2, 5);
        error("size 8 9;", -2, 7);
        error("size 8 extras 1;", -2, 7);
        error("size 8 extra;", -2, 12);
        error("size 8 extra -;", -2, 14);
        error("size 8 extra --1;", -2, 14);
        error("size 8 extra 1", -2, 14);
        error("size 8 extra 1 extra 1;", -2, 15);
        error("size 8,", -2, 6);
        error("size 8;\n", -2, 7);
        error("part;", -2, 4);
        error("part p;", -2, 6);
        error("part p q;", -2, 7);
        error("part abcdefghi bar 0 0 1 1;", -2, 5);
        error("part 7 bar 0 0 1 1;", -2, 5);
        error("part p bar 0 0 1;", -2, 16);
        error("part p bar 0 0 1 -1;", -2, 17);
        error("part p bar 0 0 1 1 1;", -2, 19);
        error("part p box 0 0 1 1;", -2, 18);
        error("part p line 0 0 1 1 1 1;", -2, 22);
        error("part p bar 0 0 1 1,;", -2, 19);
        error("part p bar 0 0 1 1, , bar 0 0 1 1;", -2, 20);
        error("part p bar 0 0 1 1 bar 0 0 1 1;", -2, 19);
        error("part p bar 0 0 1 1", -2, 18);
        error("icon", -2, 4);
        error("icon ;", -2, 5);
        error("icon i,", -2, 6);
        error("icon abcdefghi;", -2, 5);
        error("icona;", -2, 0);
        String p = "part p bar 0 0 1 1; ";
        error(p + "icon i p,;", -2, 29);
        error(p + "icon i p p;", -2, 29);
        error(p + "icon i p at;", -2, 31);
        error(p + "icon i p at 1;", -2, 33);
        error(p + "icon i p at 1 2 3;", -2, 36);
        error(p + "icon i p at 1, 2;", -2, 33);
        error(p + "icon i pppppppppp;", -2, 27);
        error(p + "icon i p ats 1 2;", -2, 29);
    }

    private static void promise3LoadValueErrors() {
        promise = 3;
        error("size 3;", -3, 5);
        error("size 33;", -3, 5);
        error("size 99999999999999999999;", -3, 5);
        error("size 4294967304;", -3, 5);
        error("size 3x", -3, 5);
        error("size 8; size 9; size 08;", -3, 21);
        error("size 8 extra 3;", -3, 13);
        error("size 8 extra - 3;", -3, 15);
        error("part p bar 48 0 1 1;", -3, 11);
        error("part p bar 0 48 1 1;", -3, 13);
        error("part p bar 0 0 0 1;", -3, 15);
        error("part p bar 0 0 1 0;", -3, 17);
        error("part p bar 0 0 49 1;", -3, 15);
        error("part p box 0 0 1 49 1;", -3, 17);
        error("part p box 0 0 1 1 0;", -3, 19);
        error("part p box 0 0 1 1 13;", -3, 19);
        error("part p box 48 0 1 1 1;", -3, 11);
        error("part p line 49 0 1 1 1;", -3, 12);
        error("part p line 0 0 0 49 1;", -3, 18);
        error("part p line 0 0 0 0 0;", -3, 20);
        error("part p line 0 0 0 0 13;", -3, 20);
        error("part p bar 0 0 1 1; part p", -3, 25);
        error("icon i; icon i", -3, 13);
        error("icon i q;", -3, 7);
        // an icon of the name is no part, and a part that comes later was not told before
        error("icon i; icon j i;", -3, 15);
        error("icon i p; part p bar 0 0 1 1;", -3, 7);
        String p = "part p bar 0 0 1 1; ";
        error(p + "icon i at 0 0;", -3, 27);
        error(p + "icon i p at 49 0;", -3, 32);
        error(p + "icon i p at 0 -49;", -3, 35);
        error(p + "icon i p, q;", -3, 30);
    }

    private static void promise3LoadTooMany() {
        promise = 3;
        error("size 4;size 5;size 6;size 7;size 8; size 9;", -4, 36);
        error("size 4;size 5;size 6;size 7;size 8; size", -4, 36);
        StringBuilder parts = new StringBuilder();
        StringBuilder icons = new StringBuilder();
        for (char letter = 'a'; letter <= 'h'; letter++) {
            parts.append("part ").append(letter).append(" bar 0 0 1 1;");
            icons.append("icon ").append(letter).append(';');
        }
        IconSetBuilder x = of(parts.toString() + icons);
        due(x.count(1), 8);
        due(x.count(2), 8);
        error(parts + " part a", -4, parts.length() + 1);
        error(icons + "icon 5", -4, icons.length());
        String bars = "bar 0 0 1 1,bar 0 0 1 1,bar 0 0 1 1,bar 0 0 1 1,bar 0 0 1 1,bar 0 0 1 1";
        error("part p " + bars + " , bar 0 0 1 1;", -4, 7 + bars.length() + 1);
        error("part p " + bars + ",;", -4, 7 + bars.length());
        String p = "part p bar 0 0 1 1; icon i p,p,p at 1 1,p,p,p";
        error(p + ", p;", -4, p.length());
        due(of(p + ";").count(4), 6);
    }

    private static void promise3LoadLength() {
        promise = 3;
        IconSetBuilder x = new IconSetBuilder();
        put(x, "icon i; icon j;");
        thrown(ARGUMENT, () -> x.load(-1));
        thrown(ARGUMENT, () -> x.load(21));
        thrown(ARGUMENT, () -> x.load(LOW));
        thrown(ARGUMENT, () -> x.load(HIGH));
        due(x.load(7), 1);
        thrown(ARGUMENT, () -> x.load(1));
        put(x, "icon i; icon j;");
        due(x.load(12), -2);
        due(x.errorPosition(), 12);
        thrown(ARGUMENT, () -> x.load(1));
        due(x.findIcon(name("i")), 0);
        due(x.undo(), 0);
    }

    private static void promise4ErrorPosition() {
        promise = 4;
        IconSetBuilder x = new IconSetBuilder();
        due(x.errorPosition(), -1);
        due(load(x, "icon i q;"), -3);
        due(x.errorPosition(), 7);
        thrown(ARGUMENT, () -> x.load(1));
        due(x.errorPosition(), 7);
        x.addSize(8);
        x.undo();
        due(x.errorPosition(), 7);
        due(load(x, "icon i;"), 1);
        due(x.errorPosition(), -1);
        due(load(x, "?"), -2);
        due(x.errorPosition(), 0);
        x.undo();
        due(x.errorPosition(), 0);
    }

    private static void promise5Count() {
        promise = 5;
        IconSetBuilder x = of(SET);
        due(x.count(0), 2);
        due(x.count(1), 2);
        due(x.count(2), 4);
        due(x.count(3), 3);
        due(x.count(4), 4);
        due(x.count(5), 0);
        x.removeUse(3, 0);
        due(x.count(5), 0);
        x.removeUse(1, 1);
        due(x.count(4), 2);
        due(x.count(5), 1);
        thrown(ARGUMENT, () -> x.count(-1));
        thrown(ARGUMENT, () -> x.count(6));
        thrown(ARGUMENT, () -> x.count(LOW));
    }

    // ---- sizes

    private static void promise6AddSize() {
        promise = 6;
        IconSetBuilder x = new IconSetBuilder();
        due(x.addSize(32), 0);
        due(x.setExtra(0, 2), 0);
        due(x.addSize(4), 0);
        due(x.size(0, 1), 0);
        due(x.size(1, 1), 2);
        due(x.addSize(16), 1);
        thrown(STATE, () -> x.addSize(16));
        thrown(ARGUMENT, () -> x.addSize(3));
        thrown(ARGUMENT, () -> x.addSize(33));
        due(x.addSize(17), 2);
        due(x.addSize(5), 1);
        thrown(STATE, () -> x.addSize(6));
        thrown(ARGUMENT, () -> x.addSize(HIGH));
        due(x.count(0), 5);
        int[] pixels = {4, 5, 16, 17, 32};
        for (int size = 0; size < 5; size++) {
            due(x.size(size, 0), pixels[size]);
        }
        due(x.size(4, 1), 2);
    }

    private static void promise7RemoveSize() {
        promise = 7;
        IconSetBuilder x = of("size 4 extra 1; size 5 extra 2; size 6 extra -1;");
        thrown(INDEX, () -> x.removeSize(3));
        thrown(INDEX, () -> x.removeSize(-1));
        due(x.removeSize(1), 2);
        due(x.size(1, 0), 6);
        due(x.size(1, 1), -1);
        due(x.removeSize(1), 1);
        due(x.removeSize(0), 0);
        thrown(INDEX, () -> x.removeSize(0));
        // a size that comes back has the extra 0
        due(x.addSize(4), 0);
        due(x.size(0, 1), 0);
    }

    private static void promise8Size() {
        promise = 8;
        IconSetBuilder x = of(SET);
        due(x.size(0, 0), 8);
        due(x.size(0, 1), 0);
        due(x.size(1, 1), 1);
        // inks 28, 32, 0 and 4 of 64: weights 437, 500, 0 and 62, in all 999
        due(x.size(0, 2), 249);
        thrown(INDEX, () -> x.size(2, 0));
        thrown(INDEX, () -> x.size(2, 9));
        thrown(INDEX, () -> x.size(-1, 0));
        thrown(ARGUMENT, () -> x.size(0, 3));
        thrown(ARGUMENT, () -> x.size(0, -1));
        due(of("size 4;").size(0, 2), 0);
    }

    private static void promise9SetExtra() {
        promise = 9;
        IconSetBuilder x = of("size 8; size 9;");
        due(x.setExtra(1, 2), 0);
        due(x.setExtra(1, -2), 2);
        due(x.setExtra(1, -2), -2);
        due(x.size(1, 1), -2);
        due(x.size(0, 1), 0);
        thrown(ARGUMENT, () -> x.setExtra(1, 3));
        thrown(ARGUMENT, () -> x.setExtra(1, -3));
        thrown(INDEX, () -> x.setExtra(2, 3));
        thrown(INDEX, () -> x.setExtra(-1, 0));
        due(x.undo(), 3);
        due(x.undo(), 2);
        due(x.size(1, 1), 2);
    }

    private static void promise10Stroke() {
        promise = 10;
        IconSetBuilder x = of("size 4; size 16; size 24 extra -2; size 32 extra 2;");
        // 4 pixels: 12 units are 1 pixel, and no stroke is less
        due(x.stroke(0, 1), 1);
        due(x.stroke(0, 12), 1);
        // 16 pixels: 3 units a pixel; 4 units are 1.33, 5 are 1.67
        due(x.stroke(1, 4), 1);
        due(x.stroke(1, 5), 2);
        due(x.stroke(1, 12), 4);
        // 24 pixels: 5 units are 2.5, rounded up to 3, less 2
        due(x.stroke(2, 5), 1);
        due(x.stroke(2, 4), 1);
        due(x.stroke(2, 7), 2);
        due(x.stroke(3, 12), 10);
        thrown(ARGUMENT, () -> x.stroke(0, 0));
        thrown(ARGUMENT, () -> x.stroke(0, 13));
        thrown(INDEX, () -> x.stroke(4, 13));
        thrown(INDEX, () -> x.stroke(-1, 1));
    }

    // ---- parts

    private static void promise11FindPart() {
        promise = 11;
        IconSetBuilder x = of("part a bar 0 0 1 1; part zz bar 0 0 1 1; part abcdefgh bar 0 0 1 1; icon i;");
        due(x.findPart(1), 0);
        due(x.findPart(26 * 32 + 26), 1);
        due(x.findPart(name("abcdefgh")), 2);
        due(x.findPart(name("abcdefg")), -1);
        due(x.findPart(name("i")), -1);
        due(x.findPart(0), -1);
        due(x.findPart(-1), -1);
        due(x.findPart(1L << 40 | 1), -1);
        due(x.findPart(Long.MIN_VALUE), -1);
        due(new IconSetBuilder().findPart(0), -1);
        load(x, "part b bar 0 0 1 1;");
        due(x.findPart(1), -1);
        due(x.findPart(2), 0);
    }

    private static void promise12Part() {
        promise = 12;
        IconSetBuilder x = of("part p bar 0 0 1 1; part q bar 0 0 1 1, bar 1 1 1 1; part r bar 0 0 1 1;"
                + " icon a p, q, p; icon b; icon c p;");
        due(x.part(0, 0), 1);
        due(x.part(1, 0), 2);
        due(x.part(0, 1), 3);
        due(x.part(1, 1), 1);
        due(x.part(2, 1), 0);
        due(x.part(0, 2), 5);
        due(x.part(1, 2), 1);
        due(x.part(2, 2), 0);
        thrown(INDEX, () -> x.part(3, 3));
        thrown(INDEX, () -> x.part(-1, 0));
        thrown(ARGUMENT, () -> x.part(0, 3));
        thrown(ARGUMENT, () -> x.part(0, -1));
    }

    private static void promise13Shape() {
        promise = 13;
        IconSetBuilder x = of("part p bar 1 2 3 4, box 5 6 7 8 9, line 10 11 13 14 12;");
        int[][] shapes = {{0, 1, 2, 3, 4, 0}, {1, 5, 6, 7, 8, 9}, {2, 10, 11, 13, 14, 12}};
        for (int shape = 0; shape < 3; shape++) {
            for (int what = 0; what <= 5; what++) {
                due(x.shape(0, shape, what), shapes[shape][what]);
            }
        }
        thrown(INDEX, () -> x.shape(0, 3, 0));
        thrown(INDEX, () -> x.shape(0, -1, 0));
        thrown(INDEX, () -> x.shape(1, 0, 6));
        thrown(INDEX, () -> x.shape(HIGH, 0, 0));
        thrown(ARGUMENT, () -> x.shape(0, 0, 6));
        thrown(ARGUMENT, () -> x.shape(0, 0, -1));
    }

    private static void promise14SetShape() {
        promise = 14;
        IconSetBuilder x = of("part p bar 1 2 3 4, box 5 6 7 8 9, line 10 11 13 14 12;");
        int[][] least = {{0, 0, 1, 1, 0}, {0, 0, 1, 1, 1}, {0, 0, 0, 0, 1}};
        int[][] greatest = {{47, 47, 48, 48, 0}, {47, 47, 48, 48, 12}, {48, 48, 48, 48, 12}};
        for (int k = 0; k < 3; k++) {
            int shape = k;
            for (int w = 1; w <= 5; w++) {
                int what = w;
                int low = least[k][w - 1];
                int high = greatest[k][w - 1];
                int before = x.shape(0, shape, what);
                thrown(ARGUMENT, () -> x.setShape(0, shape, what, low - 1));
                thrown(ARGUMENT, () -> x.setShape(0, shape, what, high + 1));
                due(x.shape(0, shape, what), before);
                due(x.setShape(0, shape, what, low), before);
                due(x.setShape(0, shape, what, high), low);
                due(x.shape(0, shape, what), high);
            }
        }
        thrown(ARGUMENT, () -> x.setShape(0, 0, 0, 0));
        thrown(ARGUMENT, () -> x.setShape(0, 0, 6, 1));
        thrown(INDEX, () -> x.setShape(0, 3, 6, 1));
        thrown(INDEX, () -> x.setShape(1, 0, 1, 1));
        // an edit of a part changes all icons that use it
        IconSetBuilder y = of(SET);
        y.setShape(0, 0, 5, 12);
        due(y.measure(0, 0, 0), 48);
        due(y.measure(1, 0, 0), 52);
    }

    private static void promise15MoveShape() {
        promise = 15;
        IconSetBuilder x = of("part p bar 1 2 48 48, line 0 48 20 30 1; icon a p; icon b; icon c p, p;");
        due(x.moveShape(0, 0, 46, -2), 2);
        due(x.shape(0, 0, 1), 47);
        due(x.shape(0, 0, 2), 0);
        due(x.shape(0, 0, 3), 48);
        due(x.shape(0, 0, 4), 48);
        thrown(ARGUMENT, () -> x.moveShape(0, 0, 1, 0));
        thrown(ARGUMENT, () -> x.moveShape(0, 0, 0, -1));
        thrown(ARGUMENT, () -> x.moveShape(0, 0, 49, 0));
        thrown(ARGUMENT, () -> x.moveShape(0, 0, 0, -49));
        thrown(ARGUMENT, () -> x.moveShape(0, 0, HIGH, LOW));
        due(x.moveShape(0, 1, 28, -30), 2);
        int[] moved = {2, 28, 18, 48, 0, 1};
        for (int what = 0; what <= 5; what++) {
            due(x.shape(0, 1, what), moved[what]);
        }
        thrown(ARGUMENT, () -> x.moveShape(0, 1, 1, 0));
        thrown(ARGUMENT, () -> x.moveShape(0, 1, 0, -1));
        thrown(INDEX, () -> x.moveShape(0, 2, 99, 0));
        thrown(INDEX, () -> x.moveShape(1, 0, 0, 0));
        due(x.moveShape(0, 1, -28, 0), 2);
        thrown(ARGUMENT, () -> x.moveShape(0, 1, -1, 0));
        IconSetBuilder y = of("part p bar 0 0 1 1;");
        due(y.moveShape(0, 0, 0, 0), 0);
        due(y.undo(), 1);
    }

    private static void promise16CopyShape() {
        promise = 16;
        IconSetBuilder x = of("part p bar 1 2 3 4, line 5 6 7 8 9; part q bar 0 0 1 1;");
        due(x.copyShape(0, 1, 41, -6), 2);
        int[] copy = {2, 46, 0, 48, 2, 9};
        for (int what = 0; what <= 5; what++) {
            due(x.shape(0, 2, what), copy[what]);
        }
        due(x.shape(0, 1, 1), 5);
        thrown(ARGUMENT, () -> x.copyShape(0, 1, 42, 0));
        thrown(ARGUMENT, () -> x.copyShape(0, 0, -2, 0));
        thrown(ARGUMENT, () -> x.copyShape(0, 0, 0, 46));
        thrown(ARGUMENT, () -> x.copyShape(0, 0, 49, 0));
        thrown(INDEX, () -> x.copyShape(0, 3, 0, 0));
        thrown(INDEX, () -> x.copyShape(2, 0, 0, 99));
        due(x.copyShape(0, 0, 0, 0), 3);
        due(x.copyShape(0, 3, 0, 0), 4);
        due(x.copyShape(0, 0, 46, 45), 5);
        thrown(STATE, () -> x.copyShape(0, 0, 0, 0));
        thrown(ARGUMENT, () -> x.copyShape(0, 0, 0, 49));
        thrown(INDEX, () -> x.copyShape(0, 6, 0, 0));
        due(x.part(0, 0), 6);
        due(x.part(1, 0), 1);
        // a bar in the place of a line that was removed has no thickness
        x.removeShape(0, 5);
        x.removeShape(0, 2);
        due(x.copyShape(0, 0, 0, 0), 4);
        due(x.shape(0, 4, 5), 0);
    }

    private static void promise17RemoveShape() {
        promise = 17;
        IconSetBuilder x = of("part p bar 1 2 3 4, box 5 6 7 8 9, line 10 11 13 14 12; part q bar 0 0 1 1;");
        thrown(INDEX, () -> x.removeShape(0, 3));
        thrown(INDEX, () -> x.removeShape(2, 0));
        thrown(INDEX, () -> x.removeShape(1, 1));
        due(x.removeShape(0, 0), 2);
        due(x.shape(0, 0, 5), 9);
        due(x.shape(0, 1, 3), 13);
        thrown(INDEX, () -> x.shape(0, 2, 0));
        due(x.removeShape(0, 1), 1);
        due(x.shape(0, 0, 0), 1);
        thrown(STATE, () -> x.removeShape(0, 0));
        thrown(STATE, () -> x.removeShape(1, 0));
        due(x.count(3), 2);
    }

    // ---- icons

    private static void promise18FindIcon() {
        promise = 18;
        IconSetBuilder x = of("part p bar 0 0 1 1; icon q; icon pppppppp;");
        due(x.findIcon(17), 0);
        due(x.findIcon(name("pppppppp")), 1);
        due(x.findIcon(name("p")), -1);
        due(x.findIcon(0), -1);
        due(x.findIcon(Long.MAX_VALUE), -1);
        due(new IconSetBuilder().findIcon(0), -1);
    }

    private static void promise19Uses() {
        promise = 19;
        IconSetBuilder x = of("part p bar 0 0 1 1; icon a; icon b p, p, p, p, p, p; icon c p;");
        due(x.uses(0), 0);
        due(x.uses(1), 6);
        due(x.uses(2), 1);
        thrown(INDEX, () -> x.uses(3));
        thrown(INDEX, () -> x.uses(-1));
    }

    private static void promise20Use() {
        promise = 20;
        IconSetBuilder x = of("part p bar 0 0 1 1; part q bar 0 0 1 1; icon a q at -7 48, p;");
        due(x.use(0, 0, 0), 1);
        due(x.use(0, 0, 1), -7);
        due(x.use(0, 0, 2), 48);
        due(x.use(0, 1, 0), 0);
        due(x.use(0, 1, 1), 0);
        due(x.use(0, 1, 2), 0);
        thrown(INDEX, () -> x.use(0, 2, 0));
        thrown(INDEX, () -> x.use(1, 0, 3));
        thrown(INDEX, () -> x.use(0, -1, 0));
        thrown(ARGUMENT, () -> x.use(0, 0, 3));
        thrown(ARGUMENT, () -> x.use(0, 0, -1));
    }

    private static void promise21AddUse() {
        promise = 21;
        IconSetBuilder x = of("part p bar 0 0 1 1; part q bar 0 0 1 1; icon a p; icon b;");
        due(x.addUse(0, 1, -48, 48), 1);
        due(x.use(0, 1, 0), 1);
        due(x.use(0, 1, 1), -48);
        due(x.use(0, 1, 2), 48);
        due(x.uses(1), 0);
        thrown(INDEX, () -> x.addUse(2, 0, 0, 0));
        thrown(INDEX, () -> x.addUse(0, 2, 99, 0));
        thrown(ARGUMENT, () -> x.addUse(0, 0, -49, 0));
        thrown(ARGUMENT, () -> x.addUse(0, 0, 0, 49));
        for (int use = 2; use < 6; use++) {
            due(x.addUse(0, 0, 0, use), use);
        }
        thrown(STATE, () -> x.addUse(0, 0, 0, 0));
        thrown(ARGUMENT, () -> x.addUse(0, 0, 0, 49));
        due(x.uses(0), 6);
        due(x.use(0, 1, 1), -48);
    }

    private static void promise22MoveUse() {
        promise = 22;
        IconSetBuilder x = of("part p bar 0 0 1 1; part q bar 0 0 1 1; icon a p, q at 1 2;");
        due(x.moveUse(0, 1, 48, -48), 1);
        due(x.use(0, 1, 0), 1);
        due(x.use(0, 1, 1), 48);
        due(x.use(0, 1, 2), -48);
        due(x.use(0, 0, 1), 0);
        thrown(ARGUMENT, () -> x.moveUse(0, 1, 49, 0));
        thrown(ARGUMENT, () -> x.moveUse(0, 1, 0, -49));
        thrown(INDEX, () -> x.moveUse(0, 2, 49, 0));
        thrown(INDEX, () -> x.moveUse(1, 0, 0, 0));
        due(x.moveUse(0, 0, 0, 0), 0);
    }

    private static void promise23RemoveUse() {
        promise = 23;
        IconSetBuilder x = of("part p bar 0 0 1 1; part q bar 0 0 1 1; icon a p at 1 2, q at 3 4, p at 5 6;");
        thrown(INDEX, () -> x.removeUse(0, 3));
        thrown(INDEX, () -> x.removeUse(1, 0));
        due(x.removeUse(0, 0), 2);
        due(x.use(0, 0, 0), 1);
        due(x.use(0, 0, 1), 3);
        due(x.use(0, 1, 2), 6);
        due(x.removeUse(0, 1), 1);
        due(x.use(0, 0, 2), 4);
        due(x.removeUse(0, 0), 0);
        thrown(INDEX, () -> x.removeUse(0, 0));
        due(x.uses(0), 0);
    }

    // ---- drawings

    private static void promise24IsInkedBars() {
        promise = 24;
        // 12 units a pixel; halves are rounded up, also those of negative units
        same(drawn("4", "bar 12 0 24 12", "0 0"), ".##. .... .... ....");
        same(drawn("4", "bar 5 0 13 12", "0 0"), "##.. .... .... ....");
        same(drawn("4", "bar 6 17 12 12", "0 0"), ".... .#.. .... ....");
        same(drawn("4", "bar 0 0 48 12", "-6 18"), ".... .... #### ....");
        same(drawn("4", "bar 0 0 48 12", "-7 0"), "###. .... .... ....");
        // a bar that is too thin inks one column or row
        same(drawn("4", "bar 18 6 1 1", "0 0"), ".... ..#. .... ....");
        same(drawn("4", "bar 0 0 48 1", "0 41"), ".... .... .... ####");
        same(drawn("4", "bar 0 0 48 1", "0 42"), ".... .... .... ....");
        same(drawn("4", "bar 0 0 1 48", "-6 0"), "#... #... #... #...");
        same(drawn("4", "bar 0 0 1 48", "-7 0"), ".... .... .... ....");
        same(drawn("4", "bar 0 0 48 48", "48 0"), ".... .... .... ....");
        same(drawn("4", "bar 0 0 48 48", "-48 0"), ".... .... .... ....");
        // all columns of the greatest size
        IconSetBuilder x = of("size 32; part p bar 0 0 48 48; icon i p;");
        due(x.measure(0, 0, 0), 1024);
        yes(x.isInked(0, 0, 31, 31));
        yes(x.isInked(0, 0, 0, 0));
    }

    private static void promise24IsInkedBoxes() {
        promise = 24;
        same(drawn("6", "box 0 0 48 48 8", "0 0"), "###### #....# #....# #....# #....# ######");
        same(drawn("6 extra 1", "box 0 0 48 48 8", "0 0"), "###### ###### ##..## ##..## ###### ######");
        same(drawn("6 extra 2", "box 0 0 48 48 8", "0 0"), "###### ###### ###### ###### ###### ######");
        same(drawn("6", "box 8 8 24 32 1", "0 0"), "...... .###.. .#.#.. .#.#.. .###.. ......");
        // the edges outside of the square are the edges all the same
        same(drawn("6", "box 0 0 48 48 8", "-16 16"), "...... ...... ####.. ...#.. ...#.. ...#..");
        // a place of one column or row
        same(drawn("6", "box 9 9 1 20 1", "0 0"), "...... .#.... .#.... .#.... ...... ......");
        same(drawn("6 extra -2", "box 0 0 48 48 12", "0 0"), "###### #....# #....# #....# #....# ######");
    }

    private static void promise24IsInkedLines() {
        promise = 24;
        same(drawn("4", "line 0 0 36 36 12", "0 0"), "#... .#.. ..#. ...#");
        same(drawn("4", "line 36 0 0 36 12", "0 0"), "...# ..#. .#.. #...");
        // half a pixel is rounded downward in the drawing, from whichever end the line is told
        same(drawn("4", "line 0 0 24 12 1", "0 0"), "#... .##. .... ....");
        same(drawn("4", "line 24 12 0 0 1", "0 0"), "#... .##. .... ....");
        same(drawn("4", "line 0 12 24 0 1", "0 0"), "..#. ##.. .... ....");
        // a point
        same(drawn("4", "line 12 24 12 24 12", "0 0"), ".... .... .#.. ....");
        // strokes of 2 and 3: the square begins (t - 1) / 2 pixels ahead
        same(drawn("4 extra 1", "line 12 12 12 12 12", "0 0"), ".... .##. .##. ....");
        same(drawn("4 extra 2", "line 12 12 12 12 12", "0 0"), "###. ###. ###. ....");
        // both points are moved, and what lies outside is not inked
        same(drawn("4", "line 0 0 48 0 12", "12 12"), ".... .### .... ....");
        same(drawn("4", "line 0 0 48 48 12", "-12 0"), ".... #... .#.. ..#.");
        same(drawn("4", "line 0 48 48 48 12", "0 0"), ".... .... .... ....");
    }

    private static void promise24IsInkedIndexes() {
        promise = 24;
        IconSetBuilder x = of("size 4; size 5; part p bar 12 0 10 10; icon i p; icon j;");
        yes(x.isInked(0, 0, 1, 0));
        no(x.isInked(0, 0, 0, 1));
        no(x.isInked(1, 0, 1, 0));
        no(x.isInked(0, 1, 4, 4));
        thrown(INDEX, () -> bit(x.isInked(0, 0, 4, 0)));
        thrown(INDEX, () -> bit(x.isInked(0, 0, 0, 4)));
        thrown(INDEX, () -> bit(x.isInked(0, 0, -1, 0)));
        thrown(INDEX, () -> bit(x.isInked(0, 0, 0, -1)));
        thrown(INDEX, () -> bit(x.isInked(2, 0, 0, 0)));
        thrown(INDEX, () -> bit(x.isInked(0, 2, 0, 0)));
        thrown(INDEX, () -> bit(x.isInked(LOW, HIGH, LOW, HIGH)));
    }

    private static void promise25Measure() {
        promise = 25;
        IconSetBuilder x = of("size 4; size 12; part p bar 12 24 24 12; icon i p; icon j;");
        int[] measures = {2, 125, 1, 0, 1, 2, 2, 2};
        int[] empty = {0, 0, 0, 0, -1, -1, -1, -1};
        for (int what = 0; what <= 7; what++) {
            due(x.measure(0, 0, what), measures[what]);
            due(x.measure(1, 0, what), empty[what]);
        }
        // 6 columns and 3 rows of 12 by 12 pixels
        int[] larger = {18, 125, 1, 0, 3, 6, 8, 8};
        for (int what = 0; what <= 7; what++) {
            due(x.measure(0, 1, what), larger[what]);
        }
        // rounded down: 1000 * 7 / 144 = 48.6
        IconSetBuilder y = of("size 12; part p bar 0 0 28 4; icon i p;");
        due(y.measure(0, 0, 1), 48);
        thrown(ARGUMENT, () -> x.measure(0, 0, 8));
        thrown(ARGUMENT, () -> x.measure(0, 0, -1));
        thrown(INDEX, () -> x.measure(2, 0, 8));
        thrown(INDEX, () -> x.measure(0, 2, 0));
        thrown(INDEX, () -> x.measure(-1, 0, 0));
    }

    private static void promise25Topology() {
        promise = 25;
        // pixels that touch at a corner are one piece, and they close a hole
        IconSetBuilder x = of("size 6; part ring box 8 8 24 24 1; part dot bar 0 0 1 1; icon one ring;"
                + " icon two ring, ring at 16 16; icon rhomb dot at 16 8, dot at 8 16, dot at 24 16, dot at 16 24;"
                + " icon edge dot at 8 0, dot at 0 8, dot at 40 40;");
        same(written(x, 2, 0), "......\n..#...\n.#.#..\n..#...\n......\n......\n");
        due(x.measure(2, 0, 2), 1);
        due(x.measure(2, 0, 3), 1);
        due(x.measure(0, 0, 2), 1);
        due(x.measure(0, 0, 3), 1);
        // the rings cross: each hole is left as one pixel, apart from each other
        same(written(x, 1, 0), "......\n.###..\n.#.#..\n.#####\n...#.#\n...###\n");
        due(x.measure(1, 0, 3), 2);
        // a pixel in the corner is shut in, but it is at the edge and so no hole
        same(written(x, 3, 0), ".#....\n#.....\n......\n......\n......\n.....#\n");
        due(x.measure(3, 0, 2), 2);
        due(x.measure(3, 0, 3), 0);
        // a spiral is one piece, and the way into it no hole
        IconSetBuilder y = of("size 32; size 16; part p bar 0 6 45 3, bar 42 6 3 36, bar 6 39 39 3, bar 6 12 3 30,"
                + " bar 6 12 33 3, bar 36 12 3 21; part q bar 12 30 27 3, bar 12 18 3 15, bar 12 18 18 3, bar 27 18 3 9;"
                + " icon i p, q;");
        due(y.measure(0, 0, 2), 1);
        due(y.measure(0, 0, 3), 0);
        due(y.measure(0, 1, 2), 1);
        due(y.measure(0, 1, 3), 0);
        y.copyShape(1, 3, -8, 0);
        due(y.measure(0, 0, 3), 0);
        y.copyShape(1, 3, 0, 5);
        due(y.measure(0, 0, 3), 1);
    }

    /** A pixel without ink that one edge alone keeps from being a hole, at each of the four edges. */
    private static void promise25HolesAtTheEdges() {
        promise = 25;
        IconSetBuilder x = of("size 6; part d bar 0 0 1 1;"
                + " icon top d at 8 0, d at 24 0, d at 16 8; icon bottom d at 8 40, d at 24 40, d at 16 32;"
                + " icon left d at 0 8, d at 0 24, d at 8 16; icon right d at 40 8, d at 40 24, d at 32 16;"
                + " icon inside d at 8 8, d at 24 8, d at 16 0, d at 16 16; icon column d at 8 0, d at 8 24;");
        same(written(x, 0, 0), ".#.#..\n..#...\n......\n......\n......\n......\n");
        same(written(x, 3, 0), "......\n.....#\n....#.\n.....#\n......\n......\n");
        int[] pieces = {1, 1, 1, 1, 1, 2};
        int[] holes = {0, 0, 0, 0, 1, 0};
        for (int icon = 0; icon < 6; icon++) {
            due(x.measure(icon, 0, 2), pieces[icon]);
            due(x.measure(icon, 0, 3), holes[icon]);
        }
    }

    private static void promise26IsMirrored() {
        promise = 26;
        IconSetBuilder x = of("size 4; size 5; part p bar 12 0 24 12; part q bar 0 12 12 24; part r bar 0 0 1 1;"
                + " icon a p; icon b q; icon c; icon d p, p at 0 36; icon e r; icon f r, r at 36 36;");
        yes(x.isMirrored(0, 0, false));
        no(x.isMirrored(0, 0, true));
        no(x.isMirrored(1, 0, false));
        yes(x.isMirrored(1, 0, true));
        yes(x.isMirrored(2, 0, false));
        yes(x.isMirrored(2, 0, true));
        yes(x.isMirrored(3, 0, false));
        yes(x.isMirrored(3, 0, true));
        no(x.isMirrored(4, 1, false));
        no(x.isMirrored(4, 1, true));
        no(x.isMirrored(5, 0, false));
        no(x.isMirrored(5, 0, true));
        x.moveUse(4, 0, 20, 20);
        yes(x.isMirrored(4, 1, false));
        yes(x.isMirrored(4, 1, true));
        thrown(INDEX, () -> bit(x.isMirrored(6, 0, true)));
        thrown(INDEX, () -> bit(x.isMirrored(0, 2, false)));
    }

    private static void promise27Difference() {
        promise = 27;
        IconSetBuilder x = of("size 4; part p bar 0 0 24 12; icon a p; icon b p at 12 0; icon c;");
        due(x.difference(0, 1, 0), 2);
        due(x.difference(1, 0, 0), 2);
        due(x.difference(0, 0, 0), 0);
        due(x.difference(0, 2, 0), 2);
        due(x.difference(2, 1, 0), 2);
        thrown(INDEX, () -> x.difference(3, 0, 0));
        thrown(INDEX, () -> x.difference(0, 3, 0));
        thrown(INDEX, () -> x.difference(0, -1, 0));
        thrown(INDEX, () -> x.difference(0, 0, 1));
    }

    private static void promise28Alone() {
        promise = 28;
        IconSetBuilder x = of("size 4; part p bar 0 0 24 12; part q bar 0 0 48 48;"
                + " icon a p, p at 12 0; icon b p, p; icon c p, q;");
        due(x.alone(0, 0, 0), 1);
        due(x.alone(0, 1, 0), 1);
        due(x.alone(1, 0, 0), 0);
        due(x.alone(1, 1, 0), 0);
        due(x.alone(2, 0, 0), 0);
        due(x.alone(2, 1, 0), 14);
        thrown(INDEX, () -> x.alone(0, 2, 0));
        thrown(INDEX, () -> x.alone(3, 0, 0));
        thrown(INDEX, () -> x.alone(0, 0, 1));
    }

    // ---- comparing

    private static void promise29KeepsTopology() {
        promise = 29;
        // a box of 16 units is 2 pixels wide at 4 pixels and has no hole; at 12 it is 4 pixels wide
        IconSetBuilder x = of("size 12; size 24; part p box 16 16 16 16 1; icon i p; icon j;");
        yes(x.keepsTopology(0));
        due(x.addSize(4), 0);
        no(x.keepsTopology(0));
        yes(x.keepsTopology(1));
        x.removeSize(2);
        no(x.keepsTopology(0));
        x.removeSize(1);
        yes(x.keepsTopology(0));
        x.removeSize(0);
        yes(x.keepsTopology(0));
        // the extra counts: a thicker stroke closes the hole
        x.addSize(12);
        x.addSize(24);
        yes(x.keepsTopology(0));
        x.setExtra(0, 2);
        no(x.keepsTopology(0));
        thrown(INDEX, () -> bit(x.keepsTopology(2)));
        thrown(INDEX, () -> bit(x.keepsTopology(-1)));
    }

    private static void promise30Smallest() {
        promise = 30;
        // units 16 to 32 are snapped to 3 to 6 with 9 pixels, to 3 to 5 with 8 and so without a hole,
        // and to 2 to 5 with 7 pixels, which does not help
        IconSetBuilder x = of("part p box 16 16 16 16 1; icon i p; icon j;");
        due(x.smallest(0), 9);
        due(x.smallest(1), 4);
        // sizes and extras do not matter
        x.addSize(8);
        x.setExtra(0, 2);
        due(x.smallest(0), 9);
        thrown(INDEX, () -> x.smallest(2));
        thrown(INDEX, () -> x.smallest(-1));
        // 31 and 32 units are both snapped to 21 with 32 pixels, but to 20 and 21 with 31 pixels
        IconSetBuilder y = of("part p bar 0 0 31 48, bar 32 0 16 48; icon i p;");
        due(y.smallest(0), 32);
        // 32 and 33 units are both snapped to 21 with 31 pixels, but to 21 and 22 with 32 and 30 pixels
        IconSetBuilder z = of("part p bar 0 0 32 48, bar 33 0 15 48; icon i p;");
        due(z.smallest(0), 32);
        // 30 units are snapped to 20 with 32 pixels; both are snapped to 13 with 20 pixels
        y.setShape(0, 0, 3, 30);
        due(y.smallest(0), 21);
    }

    private static void promise31Extreme() {
        promise = 31;
        IconSetBuilder x = of("size 4; size 8; part p bar 0 0 24 12; part q bar 0 0 6 48;"
                + " icon a p; icon b; icon c p at 12 12; icon d q; icon e;");
        // weights at 4 pixels: 125, 0, 125, 250, 0; at 8 pixels: 125, 0, 125, 125, 0
        due(x.extreme(0, true), 3);
        due(x.extreme(0, false), 1);
        due(x.extreme(1, true), 0);
        due(x.extreme(1, false), 1);
        thrown(INDEX, () -> x.extreme(2, true));
        thrown(INDEX, () -> x.extreme(-1, true));
        IconSetBuilder y = of("size 4;");
        thrown(NO_ELEMENT, () -> y.extreme(0, true));
        thrown(NO_ELEMENT, () -> y.extreme(0, false));
        thrown(INDEX, () -> y.extreme(1, false));
        // weights are compared, not inks: 1 pixel of 1024 has the weight 0
        IconSetBuilder z = of("size 32; part p bar 0 0 1 1; icon a p; icon b;");
        due(z.extreme(0, false), 0);
        due(z.extreme(0, true), 0);
    }

    private static void promise32BestExtra() {
        promise = 32;
        // a frame: 8 pixels with the strokes 1, 2 and 3 have the inks 28, 48 and 60 of 64,
        // 16 pixels with the strokes 1 to 4 have 60, 112, 156 and 192 of 256
        String frame = "part p box 0 0 48 48 6; icon i p;";
        due(of("size 8; size 16;" + frame).bestExtra(0), 0);
        due(of("size 8; size 16 extra 1;" + frame).bestExtra(0), 1);
        due(of("size 8; size 16 extra 2;" + frame).bestExtra(0), 1);
        due(of("size 8 extra 2; size 16 extra -1;" + frame).bestExtra(0), 0);
        // the last size itself: the present extra, but of several the one closest to 0
        due(of("size 8; size 16 extra 2;" + frame).bestExtra(1), 2);
        due(of("size 8; size 16 extra -1;" + frame).bestExtra(1), -1);
        due(of("size 8; size 16 extra -2;" + frame).bestExtra(1), -1);
        due(of("size 8 extra -2;" + frame).bestExtra(0), 0);
        due(of("size 8 extra 2; part p bar 0 0 9 9; icon i p;").bestExtra(0), 0);
        // weights at 4 pixels with the strokes 1, 2 and 3: 250, 500 and 750
        IconSetBuilder x = of("size 4; part p line 0 12 48 12 12; icon i p;");
        due(x.bestExtra(0), 0);
        x.setExtra(0, 1);
        due(x.bestExtra(0), 1);
        thrown(INDEX, () -> x.bestExtra(1));
        thrown(INDEX, () -> x.bestExtra(-1));
        IconSetBuilder y = of("size 4;");
        thrown(NO_ELEMENT, () -> y.bestExtra(0));
        thrown(INDEX, () -> y.bestExtra(1));
    }

    private static void promise33Indifferent() {
        promise = 33;
        IconSetBuilder x = of("size 4; part p bar 0 0 24 12; part q bar 0 0 48 48;"
                + " icon a p; icon b; icon c q, p; icon d p, p; icon e q; icon f p at 48 0;");
        due(x.indifferent(0, 0), 4);
        due(x.indifferent(1, 0), 4);
        thrown(INDEX, () -> x.indifferent(2, 0));
        thrown(INDEX, () -> x.indifferent(0, 1));
        due(of("size 4; part p bar 0 0 1 1;").indifferent(0, 0), 0);
    }

    // ---- texts

    private static void promise34WriteIcon() {
        promise = 34;
        IconSetBuilder x = of("size 4; size 5; part p bar 0 12 24 12; icon i p; icon j;");
        due(x.writeIcon(0, 0), 20);
        same(written(x, 0, 0), "....\n##..\n....\n....\n");
        due(x.writeIcon(1, 1), 30);
        same(written(x, 1, 1), ".....\n.....\n.....\n.....\n.....\n");
        thrown(INDEX, () -> x.writeIcon(2, 0));
        thrown(INDEX, () -> x.writeIcon(0, 2));
        due(x.writtenByte(29), 10);
        due(of("size 32; icon i;").writeIcon(0, 0), 1056);
    }

    private static void promise35WrittenByte() {
        promise = 35;
        IconSetBuilder x = of("size 4; part p bar 0 12 24 12; icon i p;");
        thrown(INDEX, () -> x.writtenByte(0));
        x.writeIcon(0, 0);
        due(x.writtenByte(0), '.');
        due(x.writtenByte(4), 10);
        due(x.writtenByte(5), '#');
        due(x.writtenByte(19), 10);
        thrown(INDEX, () -> x.writtenByte(20));
        thrown(INDEX, () -> x.writtenByte(-1));
        thrown(INDEX, () -> x.writtenByte(LOW));
        thrown(INDEX, () -> x.writtenByte(HIGH));
        // the text stays as it was written, whatever changes or is drawn later
        x.moveUse(0, 0, 24, 0);
        due(x.measure(0, 0, 4), 2);
        due(x.writtenByte(5), '#');
        load(x, "");
        due(x.writtenByte(5), '#');
        x.undo();
        x.undo();
        due(x.writtenByte(5), '#');
    }

    private static void promise36Undo() {
        promise = 36;
        IconSetBuilder x = new IconSetBuilder();
        thrown(STATE, () -> x.undo());
        load(x, "size 4; size 5; icon i;");
        for (int k = 0; k < 9; k++) {
            x.setExtra(0, k % 2 + 1);
        }
        // ten changes, of which the latest 8 can be undone
        for (int left = 7; left >= 0; left--) {
            due(x.undo(), left);
            due(x.size(0, 1), left % 2 + 1);
        }
        thrown(STATE, () -> x.undo());
        due(x.count(2), 1);
        // what was undone is gone; new changes come on top
        x.setExtra(1, -1);
        x.setExtra(1, -2);
        due(x.undo(), 1);
        due(x.size(1, 1), -1);
        x.removeSize(0);
        due(x.undo(), 1);
        due(x.size(0, 0), 4);
        due(x.undo(), 0);
        due(x.size(1, 1), 0);
        // calls that fail, and texts with an error, are no changes; the buffer stays
        thrown(ARGUMENT, () -> x.addSize(3));
        thrown(INDEX, () -> x.removeSize(2));
        due(load(x, "?"), -2);
        thrown(STATE, () -> x.undo());
        x.addSize(6);
        put(x, "icon a; icon b;");
        due(x.undo(), 0);
        due(x.load(15), 2);
    }

    private static void promise36UndoOfEachChange() {
        promise = 36;
        String set = "size 8 extra 1; size 9; part p bar 1 2 3 4, line 5 6 7 8 9; icon i p at 1 2, p;";
        for (int change = 0; change <= 10; change++) {
            IconSetBuilder x = of(set);
            makeChange(x, change);
            due(x.undo(), 1);
            due(x.count(0), 2);
            due(x.count(3), 2);
            due(x.count(4), 2);
            due(x.size(0, 0), 8);
            due(x.size(0, 1), 1);
            due(x.size(1, 1), 0);
            due(x.shape(0, 0, 1), 1);
            due(x.shape(0, 1, 5), 9);
            due(x.use(0, 0, 1), 1);
            due(x.use(0, 1, 1), 0);
            due(x.findIcon(name("i")), 0);
            due(x.undo(), 0);
            due(x.count(0) + x.count(1) + x.count(2), 0);
        }
    }

    private static void makeChange(IconSetBuilder x, int change) {
        switch (change) {
            case 0:
                load(x, "size 20; icon other;");
                break;
            case 1:
                x.addSize(4);
                break;
            case 2:
                x.removeSize(0);
                break;
            case 3:
                x.setExtra(0, -2);
                break;
            case 4:
                x.setShape(0, 1, 5, 1);
                break;
            case 5:
                x.moveShape(0, 0, 7, 7);
                break;
            case 6:
                x.copyShape(0, 0, 7, 7);
                break;
            case 7:
                x.removeShape(0, 0);
                break;
            case 8:
                x.addUse(0, 0, 0, 0);
                break;
            case 9:
                x.moveUse(0, 0, 5, 5);
                break;
            default:
                x.removeUse(0, 0);
                break;
        }
    }
}
