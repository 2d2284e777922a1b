/** The edges of promises 11 to 17: a case for each sentence. */
public final class EdgePartsTest extends Checks {
    /** A shape of each kind in one part, and a part with one shape alone. */
    private static final Start KINDS = start("size 8; part p bar 1 2 3 4, box 5 6 7 8 9, line 10 11 13 14 12;"
            + " part q bar 47 0 48 1; icon a p; icon b q, p, p; icon c q;");
    private static final int[][] LEAST = {{0, 0, 1, 1, 0}, {0, 0, 1, 1, 1}, {0, 0, 0, 0, 1}};
    private static final int[][] GREATEST = {{47, 47, 48, 48, 0}, {47, 47, 48, 48, 12}, {48, 48, 48, 48, 12}};
    private static final String[] KIND_NAMES = {"bar", "box", "line"};

    public static void main(String[] args) {
        findPart();
        part();
        shape();
        setShapeRanges();
        setShapeRefusals();
        setShapeEffects();
        moveShapeRanges();
        moveShapeToTheEnds();
        moveShapeAnswers();
        copyShape();
        copyShapeOfAFullPart();
        removeShape();
        finish("EdgePartsTest", 11, 17);
    }

    private static void shapeIs(IconSetBuilder x, int part, int shape, int... numbers) {
        for (int what = 0; what <= 5; what++) {
            due(x.shape(part, shape, what), numbers[what]);
        }
    }

    private static void findPart() {
        Start names = start("part a bar 0 0 1 1; part z bar 0 0 1 1; part aaaaaaaa bar 0 0 1 1;"
                + " part zzzzzzzz bar 0 0 1 1; part ab bar 0 0 1 1; icon i; icon ba;");
        answer(11, "the first letter", names, 0, x -> x.findPart(1));
        answer(11, "the last letter", names, 1, x -> x.findPart(26));
        answer(11, "8 first letters", names, 2, x -> x.findPart(name("aaaaaaaa")));
        answer(11, "8 last letters", names, 3, x -> x.findPart(name("zzzzzzzz")));
        answer(11, "the last letter stands in the lowest group", names, 4, x -> x.findPart(1 << 5 | 2));
        answer(11, "the letters of a part the other way round", names, -1, x -> x.findPart(2 << 5 | 1));
        answer(11, "7 of 8 letters", names, -1, x -> x.findPart(name("aaaaaaa")));
        answer(11, "9 letters, the last 8 of them a part's", names, -1, x -> x.findPart(1L << 40 | name("aaaaaaaa")));
        answer(11, "a bit above 8 letters", names, -1, x -> x.findPart(1L << 62 | 1));
        answer(11, "the sign bit and a part's letters", names, -1, x -> x.findPart(Long.MIN_VALUE | 1));
        answer(11, "a letter with an empty group behind it", names, -1, x -> x.findPart(1 << 5));
        answer(11, "a group over 26", names, -1, x -> x.findPart(27));
        answer(11, "the number ahead of the first letter", names, -1, x -> x.findPart(0));
        answer(11, "a negative number", names, -1, x -> x.findPart(-1));
        answer(11, "a negative number that has a part's lower half", names, -1, x -> x.findPart(1L << 32 | 1));
        answer(11, "the low end of long", names, -1, x -> x.findPart(Long.MIN_VALUE));
        answer(11, "the high end of long", names, -1, x -> x.findPart(Long.MAX_VALUE));
        answer(11, "the name of an icon", names, -1, x -> x.findPart(name("i")));
        answer(11, "no letter in a set without parts", EMPTY, -1, x -> x.findPart(0));
        answer(11, "the first of 8 parts", FULL, 0, x -> x.findPart(1));
        answer(11, "the last of 8 parts", FULL, 7, x -> x.findPart(8));
        answer(11, "a ninth name", FULL, -1, x -> x.findPart(9));
        answer(11, "a part that only the text before had", LIVELY, -1, x -> {
            x.load(0);
            load(x, "part other bar 0 0 1 1;");
            return x.findPart(name("p"));
        });
        answer(11, "a part that undo brought back", LIVELY, 2, x -> {
            x.load(0);
            x.undo();
            return x.findPart(name("r"));
        });
    }

    private static void part() {
        for (int what = 0; what <= 2; what++) {
            int w = what;
            range(12, "part for what " + what, LIVELY, (x, v) -> x.part(v, w)).refuses(INDEX, -1, 3);
        }
        range(12, "part of none", EMPTY, (x, v) -> x.part(v, 0)).refuses(INDEX, -1, 0);
        range(12, "part of eight", FULL, (x, v) -> x.part(v, 0)).fits(0, 6).fits(7, 6).refuses(INDEX, -1, 8);
        range(12, "part", LIVELY, (x, v) -> x.part(v, 0)).fits(0, 3).fits(1, 1).fits(2, 1);
        range(12, "what", LIVELY, (x, v) -> x.part(0, v)).fits(0, 3).fits(1, 3).fits(2, 5).refuses(ARGUMENT, -1, 3);
        range(12, "what of a part without a use", LIVELY, (x, v) -> x.part(2, v)).fits(1, 0).fits(2, 0);
        refusal(12, "two exceptions: no such part, what too large", LIVELY, INDEX, x -> x.part(3, 3));
        refusal(12, "two exceptions: no such part, what too small", LIVELY, INDEX, x -> x.part(-1, -1));
        StringBuilder all = new StringBuilder("part p bar 0 0 1 1; part q bar 0 0 1 1;");
        for (char letter = 'a'; letter <= 'h'; letter++) {
            all.append("icon ").append(letter).append(" p,p,p,p,p,").append(letter == 'h' ? "q;" : "p;");
        }
        answer(12, "uses in all 8 icons, all of each but one", start(all.toString()), 47, x -> x.part(0, 1));
        answer(12, "the mask of all 8 icons", start(all.toString()), 255, x -> x.part(0, 2));
        answer(12, "one use, the last of all", start(all.toString()), 1, x -> x.part(1, 1));
        answer(12, "the mask of the last icon alone", start(all.toString()), 128, x -> x.part(1, 2));
        answer(12, "the mask of the first icon alone, that uses it twice", start("part p bar 0 0 1 1; icon a p, p; icon b;"), 1,
                x -> x.part(0, 2));
        edge(12, "the mask is without an icon whose last use is gone", () -> {
            IconSetBuilder x = of("part p bar 0 0 1 1; icon a p, p; icon b p;");
            x.removeUse(0, 0);
            due(x.part(0, 2), 3);
            x.removeUse(0, 0);
            due(x.part(0, 2), 2);
            due(x.part(0, 1), 1);
        });
    }

    private static void shape() {
        range(13, "part", LIVELY, (x, v) -> x.shape(v, 0, 3)).fits(0, 3).fits(1, 48).fits(2, 48).refuses(INDEX, -1, 3);
        range(13, "shape of three", LIVELY, (x, v) -> x.shape(0, v, 0)).fits(0, 0).fits(1, 1).fits(2, 2).refuses(INDEX, -1, 3);
        range(13, "shape of one", LIVELY, (x, v) -> x.shape(1, v, 0)).fits(0, 0).refuses(INDEX, -1, 1, 2);
        range(13, "shape of six", FULL, (x, v) -> x.shape(0, v, 1)).fits(0, 0).fits(5, 47).refuses(INDEX, -1, 6);
        range(13, "shape of the last part", FULL, (x, v) -> x.shape(7, v, 1)).fits(0, 0).fits(5, 47).refuses(INDEX, -1, 6);
        range(13, "shape of the part behind the last one", FULL, (x, v) -> x.shape(8, v, 1)).refuses(INDEX, 0, 5);
        range(13, "what of a bar", LIVELY, (x, v) -> x.shape(0, 0, v)).fits(0, 0).fits(1, 1).fits(5, 0).refuses(ARGUMENT, -1, 6);
        range(13, "what of a box", LIVELY, (x, v) -> x.shape(0, 1, v)).fits(0, 1).fits(1, 5).fits(5, 9).refuses(ARGUMENT, -1, 6);
        range(13, "what of a line", LIVELY, (x, v) -> x.shape(0, 2, v)).fits(0, 2).fits(1, 10).fits(5, 12).refuses(ARGUMENT, -1, 6);
        refusal(13, "two exceptions: no such part, what too large", LIVELY, INDEX, x -> x.shape(3, 0, 6));
        refusal(13, "two exceptions: no such shape, what too small", LIVELY, INDEX, x -> x.shape(1, 1, -1));
        edge(13, "all numbers of all kinds, in their order", () -> {
            IconSetBuilder x = KINDS.make();
            shapeIs(x, 0, 0, 0, 1, 2, 3, 4, 0);
            shapeIs(x, 0, 1, 1, 5, 6, 7, 8, 9);
            shapeIs(x, 0, 2, 2, 10, 11, 13, 14, 12);
            shapeIs(x, 1, 0, 0, 47, 0, 48, 1, 0);
        });
    }

    private static void setShapeRanges() {
        for (int kind = 0; kind <= 2; kind++) {
            for (int what = 1; what <= 5; what++) {
                int shape = kind;
                int w = what;
                int least = LEAST[kind][what - 1];
                int greatest = GREATEST[kind][what - 1];
                range(14, "number " + what + " of a " + KIND_NAMES[kind], KINDS, (x, v) -> x.setShape(0, shape, w, v))
                        .refuses(ARGUMENT, least - 1, greatest + 1);
                setShapeFits(kind, what, least);
                if (greatest != least) {
                    setShapeFits(kind, what, greatest);
                }
            }
        }
    }

    private static void setShapeFits(int shape, int what, int value) {
        edge(14, "number " + what + " of a " + KIND_NAMES[shape] + " " + value + " just fits", () -> {
            IconSetBuilder x = KINDS.make();
            IconSetBuilder before = KINDS.make();
            due(x.setShape(0, shape, what, value), before.shape(0, shape, what));
            for (int each = 0; each <= 5; each++) {
                due(x.shape(0, shape, each), each == what ? value : before.shape(0, shape, each));
            }
            due(x.undo(), 1);
            due(x.shape(0, shape, what), before.shape(0, shape, what));
        });
    }

    private static void setShapeRefusals() {
        range(14, "part", LIVELY, (x, v) -> x.setShape(v, 0, 1, 0)).fits(0, 1).fits(2, 0).refuses(INDEX, -1, 3);
        range(14, "part of eight", FULL, (x, v) -> x.setShape(v, 5, 1, 0)).fits(0, 47).fits(7, 47).refuses(INDEX, -1, 8);
        range(14, "shape of three", LIVELY, (x, v) -> x.setShape(0, v, 1, 0)).fits(0, 1).fits(2, 10).refuses(INDEX, -1, 3);
        range(14, "shape of one", LIVELY, (x, v) -> x.setShape(1, v, 1, 0)).fits(0, 0).refuses(INDEX, -1, 1);
        range(14, "shape of six", FULL, (x, v) -> x.setShape(2, v, 1, 1)).fits(0, 0).fits(5, 47).refuses(INDEX, -1, 6);
        range(14, "what", LIVELY, (x, v) -> x.setShape(0, 2, v, 9)).fits(1, 10).fits(5, 12).refuses(ARGUMENT, 0, 6, -1);
        range(14, "what with the value 0", LIVELY, (x, v) -> x.setShape(0, 0, v, 0)).fits(1, 1).fits(5, 0)
                .refuses(ARGUMENT, 0, 6, -1);
        refusal(14, "the kind cannot be set, not even to what it is", LIVELY, ARGUMENT, x -> x.setShape(0, 1, 0, 1));
        refusal(14, "two exceptions: no such part, what too large", LIVELY, INDEX, x -> x.setShape(3, 0, 6, 0));
        refusal(14, "two exceptions: no such shape, what too small", LIVELY, INDEX, x -> x.setShape(1, 1, 0, 0));
        refusal(14, "two exceptions: no such shape, value too large", LIVELY, INDEX, x -> x.setShape(0, 3, 1, 99));
        refusal(14, "what and value are both out of range", LIVELY, ARGUMENT, x -> x.setShape(0, 0, 6, 99));
    }

    private static void setShapeEffects() {
        answer(14, "the same value again is a change", LIVELY, 3, x -> {
            x.setShape(0, 0, 1, 1);
            return x.undo();
        });
        answer(14, "the 0 of a bar again is a change", LIVELY, 3, x -> {
            x.setShape(0, 0, 5, 0);
            return x.undo();
        });
        Start lineFirst = start("part p line 5 6 7 8 9, bar 30 31 32 33, box 40 41 42 43 10;");
        range(14, "e of a bar behind a line", lineFirst, (x, v) -> x.setShape(0, 1, 5, v)).fits(0, 0).refuses(ARGUMENT, -1, 1, 9);
        range(14, "a of a line ahead of a bar", lineFirst, (x, v) -> x.setShape(0, 0, 1, v)).fits(48, 5).refuses(ARGUMENT, -1, 49);
        range(14, "a of a box behind a line", lineFirst, (x, v) -> x.setShape(0, 2, 1, v)).fits(47, 40).refuses(ARGUMENT, -1, 48);
        edge(14, "the other shapes and parts stay as they are", () -> {
            IconSetBuilder x = KINDS.make();
            x.setShape(0, 1, 3, 48);
            shapeIs(x, 0, 0, 0, 1, 2, 3, 4, 0);
            shapeIs(x, 0, 1, 1, 5, 6, 48, 8, 9);
            shapeIs(x, 0, 2, 2, 10, 11, 13, 14, 12);
            shapeIs(x, 1, 0, 0, 47, 0, 48, 1, 0);
        });
        edge(14, "an edit of a part changes all icons that use it, and no other one", () -> {
            IconSetBuilder x = of("size 4; part p bar 0 0 12 12; part q bar 0 0 12 12; icon a p; icon b q; icon c q, p at 12 0;");
            x.setShape(0, 0, 4, 48);
            due(x.measure(0, 0, 0), 4);
            due(x.measure(1, 0, 0), 1);
            due(x.measure(2, 0, 0), 5);
        });
    }

    private static void moveShapeRanges() {
        // a point in the middle can go anywhere; a bar in a corner cannot go 48 units
        Start middle = start("part p line 24 24 24 24 1; icon i p;");
        Start topLeft = start("part p line 0 0 0 0 1;");
        Start bottomRight = start("part p line 48 48 48 48 1;");
        range(15, "dx from the left", topLeft, (x, v) -> x.moveShape(0, 0, v, 0)).fits(0, 0).fits(48, 0).refuses(ARGUMENT, 49, -1);
        range(15, "dy from the top", topLeft, (x, v) -> x.moveShape(0, 0, 0, v)).fits(0, 0).fits(48, 0).refuses(ARGUMENT, 49, -1);
        range(15, "dx from the right", bottomRight, (x, v) -> x.moveShape(0, 0, v, 0)).fits(-48, 0).fits(0, 0)
                .refuses(ARGUMENT, -49, 1);
        range(15, "dy from the bottom", bottomRight, (x, v) -> x.moveShape(0, 0, 0, v)).fits(-48, 0).fits(0, 0)
                .refuses(ARGUMENT, -49, 1);
        range(15, "dx from the middle", middle, (x, v) -> x.moveShape(0, 0, v, 0)).fits(-24, 1).fits(24, 1).refuses(ARGUMENT, -25, 25);
        range(15, "dy from the middle", middle, (x, v) -> x.moveShape(0, 0, 0, v)).fits(-24, 1).fits(24, 1).refuses(ARGUMENT, -25, 25);
        range(15, "part", LIVELY, (x, v) -> x.moveShape(v, 0, 0, 0)).fits(0, 2).fits(2, 0).refuses(INDEX, -1, 3);
        range(15, "shape", LIVELY, (x, v) -> x.moveShape(0, v, 0, 0)).fits(0, 2).fits(2, 2).refuses(INDEX, -1, 3);
        range(15, "shape of one", LIVELY, (x, v) -> x.moveShape(1, v, 0, 0)).fits(0, 2).refuses(INDEX, -1, 1);
        range(15, "shape of six", FULL, (x, v) -> x.moveShape(7, v, 0, 0)).fits(0, 1).fits(5, 1).refuses(INDEX, -1, 6);
        refusal(15, "two exceptions: no such part, dx too large", LIVELY, INDEX, x -> x.moveShape(3, 0, 49, 0));
        refusal(15, "two exceptions: no such shape, dy too small", LIVELY, INDEX, x -> x.moveShape(1, 1, 0, -49));
        refusal(15, "dx and dy are both at an end of int", LIVELY, ARGUMENT, x -> x.moveShape(0, 0, HIGH, LOW));
    }

    private static void moveShapeToTheEnds() {
        edge(15, "x and y of a bar go to 47, width and height stay", () -> {
            IconSetBuilder x = of("part p bar 0 0 48 47;");
            x.moveShape(0, 0, 47, 47);
            shapeIs(x, 0, 0, 0, 47, 47, 48, 47, 0);
            thrown(ARGUMENT, () -> x.moveShape(0, 0, 1, 0));
            thrown(ARGUMENT, () -> x.moveShape(0, 0, 0, 1));
            x.moveShape(0, 0, -47, -47);
            shapeIs(x, 0, 0, 0, 0, 0, 48, 47, 0);
            thrown(ARGUMENT, () -> x.moveShape(0, 0, -1, 0));
            thrown(ARGUMENT, () -> x.moveShape(0, 0, 0, -1));
        });
        edge(15, "x and y of a box go to 47, width, height and thickness stay", () -> {
            IconSetBuilder x = of("part p box 0 0 48 47 12;");
            x.moveShape(0, 0, 47, 47);
            shapeIs(x, 0, 0, 1, 47, 47, 48, 47, 12);
            thrown(ARGUMENT, () -> x.moveShape(0, 0, 1, 0));
            thrown(ARGUMENT, () -> x.moveShape(0, 0, 0, 1));
        });
        edge(15, "both points of a line move, to 0 and 48", () -> {
            IconSetBuilder x = of("part p line 1 2 46 47 12;");
            x.moveShape(0, 0, 2, 1);
            shapeIs(x, 0, 0, 2, 3, 3, 48, 48, 12);
            x.moveShape(0, 0, -3, -3);
            shapeIs(x, 0, 0, 2, 0, 0, 45, 45, 12);
        });
        Start lines = start("part p line 1 5 48 6 1, line 48 5 1 6 1, line 5 1 6 48 1, line 5 48 6 1 1; icon i p;");
        refusal(15, "the second x of a line would be 49", lines, ARGUMENT, x -> x.moveShape(0, 0, 1, 0));
        refusal(15, "the first x of a line would be 49", lines, ARGUMENT, x -> x.moveShape(0, 1, 1, 0));
        refusal(15, "the second y of a line would be 49", lines, ARGUMENT, x -> x.moveShape(0, 2, 0, 1));
        refusal(15, "the first y of a line would be 49", lines, ARGUMENT, x -> x.moveShape(0, 3, 0, 1));
        refusal(15, "the first x of a line would be -1", lines, ARGUMENT, x -> x.moveShape(0, 0, -2, 0));
        refusal(15, "the second x of a line would be -1", lines, ARGUMENT, x -> x.moveShape(0, 1, -2, 0));
        refusal(15, "the first y of a line would be -1", lines, ARGUMENT, x -> x.moveShape(0, 2, 0, -2));
        refusal(15, "the second y of a line would be -1", lines, ARGUMENT, x -> x.moveShape(0, 3, 0, -2));
        refusal(15, "x fits and y does not: x stays, too", lines, ARGUMENT, x -> x.moveShape(0, 2, 1, 1));
        refusal(15, "a bar cannot move by 48", start("part p bar 0 0 1 1;"), ARGUMENT, x -> x.moveShape(0, 0, 48, 0));
    }

    private static void moveShapeAnswers() {
        answer(15, "no icon uses the part", start("part p bar 0 0 1 1; icon i;"), 0, x -> x.moveShape(0, 0, 1, 1));
        answer(15, "an icon that uses the part twice counts once", start("part p bar 0 0 1 1; icon i p, p;"), 1,
                x -> x.moveShape(0, 0, 1, 1));
        answer(15, "all 8 icons use the part", FULL, 8, x -> x.moveShape(0, 0, 1, 1));
        answer(15, "one of 8 icons uses the part", FULL, 1, x -> x.moveShape(5, 0, 1, 1));
        answer(15, "a move by nothing is a change", LIVELY, 3, x -> {
            x.moveShape(0, 0, 0, 0);
            return x.undo();
        });
        edge(15, "the other shapes and parts stay as they are", () -> {
            IconSetBuilder x = KINDS.make();
            x.moveShape(0, 1, 2, -3);
            shapeIs(x, 0, 0, 0, 1, 2, 3, 4, 0);
            shapeIs(x, 0, 1, 1, 7, 3, 7, 8, 9);
            shapeIs(x, 0, 2, 2, 10, 11, 13, 14, 12);
            shapeIs(x, 1, 0, 0, 47, 0, 48, 1, 0);
        });
        edge(15, "all icons that use the part change", () -> {
            IconSetBuilder x = of("size 4; part p bar 0 0 12 12; icon a p; icon b p at 12 0; icon c;");
            x.moveShape(0, 0, 0, 36);
            yes(x.isInked(0, 0, 0, 3));
            yes(x.isInked(1, 0, 1, 3));
            due(x.measure(0, 0, 0), 1);
            due(x.measure(2, 0, 0), 0);
        });
    }

    private static void copyShape() {
        Start middle = start("part p line 24 24 24 24 1; part q bar 47 0 1 1; icon i p;");
        range(16, "dx", middle, (x, v) -> x.copyShape(0, 0, v, 0)).fits(-24, 1).fits(24, 1).refuses(ARGUMENT, -25, 25, -49, 49);
        range(16, "dy", middle, (x, v) -> x.copyShape(0, 0, 0, v)).fits(-24, 1).fits(24, 1).refuses(ARGUMENT, -25, 25, -49, 49);
        range(16, "dx of a line at the left", start("part p line 0 0 0 0 1;"), (x, v) -> x.copyShape(0, 0, v, 0)).fits(48, 1)
                .refuses(ARGUMENT, 49, -1);
        range(16, "dy of a line at the bottom", start("part p line 48 48 48 48 1;"), (x, v) -> x.copyShape(0, 0, 0, v)).fits(-48, 1)
                .refuses(ARGUMENT, -49, 1);
        range(16, "dx of a bar at the right", middle, (x, v) -> x.copyShape(1, 0, v, 0)).fits(-47, 1).fits(0, 1)
                .refuses(ARGUMENT, -48, 1);
        range(16, "part", LIVELY, (x, v) -> x.copyShape(v, 0, 0, 0)).fits(0, 3).fits(2, 1).refuses(INDEX, -1, 3);
        range(16, "shape", LIVELY, (x, v) -> x.copyShape(0, v, 0, 0)).fits(0, 3).fits(2, 3).refuses(INDEX, -1, 3);
        range(16, "shape of one", LIVELY, (x, v) -> x.copyShape(1, v, 0, 0)).fits(0, 1).refuses(INDEX, -1, 1);
        refusal(16, "two exceptions: no such part, dx too large", LIVELY, INDEX, x -> x.copyShape(3, 0, 49, 0));
        refusal(16, "two exceptions: no such shape, dy too small", LIVELY, INDEX, x -> x.copyShape(0, 3, 0, -49));
        refusal(16, "the second point of a line would be out of range", start("part p line 0 0 48 0 1;"), ARGUMENT,
                x -> x.copyShape(0, 0, 1, 0));
        edge(16, "a copy of each kind stands behind the others, and the shape itself stays", () -> {
            IconSetBuilder x = KINDS.make();
            due(x.copyShape(0, 2, 34, -11), 3);
            due(x.copyShape(0, 1, -5, 41), 4);
            due(x.copyShape(0, 0, 46, 45), 5);
            shapeIs(x, 0, 0, 0, 1, 2, 3, 4, 0);
            shapeIs(x, 0, 1, 1, 5, 6, 7, 8, 9);
            shapeIs(x, 0, 2, 2, 10, 11, 13, 14, 12);
            shapeIs(x, 0, 3, 2, 44, 0, 47, 3, 12);
            shapeIs(x, 0, 4, 1, 0, 47, 7, 8, 9);
            shapeIs(x, 0, 5, 0, 47, 47, 3, 4, 0);
            shapeIs(x, 1, 0, 0, 47, 0, 48, 1, 0);
        });
        edge(16, "a copy that does not move is a shape of its own", () -> {
            IconSetBuilder x = of("part p bar 1 2 3 4;");
            due(x.copyShape(0, 0, 0, 0), 1);
            x.setShape(0, 0, 1, 40);
            shapeIs(x, 0, 1, 0, 1, 2, 3, 4, 0);
        });
        edge(16, "a copy of a copy", () -> {
            IconSetBuilder x = of("part p bar 1 2 3 4;");
            due(x.copyShape(0, 0, 1, 1), 1);
            due(x.copyShape(0, 1, 1, 1), 2);
            shapeIs(x, 0, 2, 0, 3, 4, 3, 4, 0);
        });
        edge(16, "all icons that use the part change", () -> {
            IconSetBuilder x = of("size 4; part p bar 0 0 12 12; icon a p; icon b p at 12 0; icon c;");
            x.copyShape(0, 0, 24, 24);
            due(x.measure(0, 0, 0), 2);
            due(x.measure(1, 0, 0), 2);
            due(x.measure(2, 0, 0), 0);
        });
    }

    private static void copyShapeOfAFullPart() {
        Start five = start("part p " + repeated("bar 0 0 1 1", ",", 5) + "; part q bar 47 0 1 1;");
        Start six = start("part p " + repeated("bar 0 0 1 1", ",", 6) + "; part q bar 47 0 1 1;");
        answer(16, "a sixth shape just fits", five, 5, x -> x.copyShape(0, 4, 0, 0));
        refusal(16, "a seventh shape does not fit", six, STATE, x -> x.copyShape(0, 0, 0, 0));
        refusal(16, "a seventh shape does not fit: a copy of the sixth", six, STATE, x -> x.copyShape(0, 5, 47, 47));
        refusal(16, "a seventh shape of a part between others", FULL, STATE, x -> x.copyShape(3, 0, 0, 0));
        answer(16, "another part has 6 shapes", six, 1, x -> x.copyShape(1, 0, 0, 0));
        answer(16, "there is room again when one of 6 shapes is gone", six, 5, x -> {
            x.removeShape(0, 2);
            return x.copyShape(0, 0, 0, 0);
        });
        refusal(16, "two exceptions: dx too large, 6 shapes", six, ARGUMENT, x -> x.copyShape(0, 0, 49, 0));
        refusal(16, "two exceptions: dy too small, 6 shapes", six, ARGUMENT, x -> x.copyShape(0, 0, 0, -49));
        refusal(16, "two exceptions: x would be -1, 6 shapes", six, ARGUMENT, x -> x.copyShape(0, 0, -1, 0));
        refusal(16, "two exceptions: y would be 48, 6 shapes", six, ARGUMENT, x -> x.copyShape(0, 0, 0, 48));
        refusal(16, "two exceptions: no such shape, 6 shapes", six, INDEX, x -> x.copyShape(0, 6, 0, 0));
        refusal(16, "three exceptions: no such shape, dx too large, 6 shapes", six, INDEX, x -> x.copyShape(0, 6, 49, 0));
        edge(16, "a copy where a removed shape had another kind has the numbers of its own", () -> {
            IconSetBuilder x = of("part p bar 1 2 3 4, line 5 6 7 8 9;");
            x.removeShape(0, 1);
            due(x.copyShape(0, 0, 0, 0), 1);
            shapeIs(x, 0, 1, 0, 1, 2, 3, 4, 0);
        });
    }

    private static void removeShape() {
        range(17, "part", LIVELY, (x, v) -> x.removeShape(v, 0)).fits(0, 2).refuses(INDEX, -1, 3);
        range(17, "part of eight", FULL, (x, v) -> x.removeShape(v, 0)).fits(0, 5).fits(7, 5).refuses(INDEX, -1, 8);
        range(17, "shape of three", LIVELY, (x, v) -> x.removeShape(0, v)).fits(0, 2).fits(2, 2).refuses(INDEX, -1, 3);
        range(17, "shape of six", FULL, (x, v) -> x.removeShape(7, v)).fits(0, 5).fits(5, 5).refuses(INDEX, -1, 6);
        refusal(17, "the only shape of a part between others", LIVELY, STATE, x -> x.removeShape(1, 0));
        refusal(17, "the only shape of the last part", LIVELY, STATE, x -> x.removeShape(2, 0));
        refusal(17, "two exceptions: no such shape of a part with one", LIVELY, INDEX, x -> x.removeShape(1, 1));
        refusal(17, "two exceptions: a shape below 0 of a part with one", LIVELY, INDEX, x -> x.removeShape(1, -1));
        edge(17, "those behind the first one get lower numbers", () -> {
            IconSetBuilder x = KINDS.make();
            due(x.removeShape(0, 0), 2);
            shapeIs(x, 0, 0, 1, 5, 6, 7, 8, 9);
            shapeIs(x, 0, 1, 2, 10, 11, 13, 14, 12);
            thrown(INDEX, () -> x.shape(0, 2, 0));
        });
        edge(17, "the one before and the one behind a shape between", () -> {
            IconSetBuilder x = KINDS.make();
            due(x.removeShape(0, 1), 2);
            shapeIs(x, 0, 0, 0, 1, 2, 3, 4, 0);
            shapeIs(x, 0, 1, 2, 10, 11, 13, 14, 12);
        });
        edge(17, "none is behind the last one", () -> {
            IconSetBuilder x = KINDS.make();
            due(x.removeShape(0, 2), 2);
            shapeIs(x, 0, 0, 0, 1, 2, 3, 4, 0);
            shapeIs(x, 0, 1, 1, 5, 6, 7, 8, 9);
        });
        edge(17, "all shapes but the only one that is left", () -> {
            IconSetBuilder x = of("part p " + repeated("bar 0 0 1 1", ",", 5) + ", bar 9 9 9 9; part q bar 1 2 3 4;");
            for (int left = 5; left >= 1; left--) {
                due(x.removeShape(0, 0), left);
            }
            thrown(STATE, () -> x.removeShape(0, 0));
            shapeIs(x, 0, 0, 0, 9, 9, 9, 9, 0);
            shapeIs(x, 1, 0, 0, 1, 2, 3, 4, 0);
        });
        edge(17, "the other parts keep their shapes", () -> {
            IconSetBuilder x = FULL.make();
            x.removeShape(3, 0);
            due(x.part(2, 0), 6);
            due(x.part(4, 0), 6);
            due(x.count(3), 47);
            shapeIs(x, 2, 5, 0, 47, 47, 1, 1, 0);
            shapeIs(x, 4, 0, 0, 0, 0, 1, 1, 0);
        });
        edge(17, "a shape can go when the only one got a second one", () -> {
            IconSetBuilder x = of("part p bar 1 2 3 4;");
            x.copyShape(0, 0, 5, 5);
            due(x.removeShape(0, 0), 1);
            shapeIs(x, 0, 0, 0, 6, 7, 3, 4, 0);
        });
        edge(17, "all icons that use the part change", () -> {
            IconSetBuilder x = of("size 4; part p bar 0 0 12 12, bar 0 36 48 12; icon a p; icon b p at 12 0;");
            x.removeShape(0, 1);
            due(x.measure(0, 0, 0), 1);
            due(x.measure(1, 0, 0), 1);
        });
    }
}
