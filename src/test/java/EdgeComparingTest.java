/** The edges of promises 29 to 33: a case for each sentence. */
public final class EdgeComparingTest extends Checks {
    /** A frame: with 12 pixels and the extras -2 to 2 its weights are 305, 555, 750, 888 and 972. */
    private static final String FRAME = "part p box 0 0 48 48 12; icon i p;";

    public static void main(String[] args) {
        keepsTopology();
        keepsTopologyAtEachSize();
        smallest();
        extreme();
        bestExtra();
        bestExtraOfSeveral();
        indifferent();
        finish("EdgeComparingTest", 29, 33);
    }

    // ---- promise 29

    private static void keeps(String sentence, String set, boolean kept) {
        answer(29, sentence, start(set), bit(kept), x -> bit(x.keepsTopology(0)));
    }

    private static void keepsTopology() {
        Start two = start("size 4; size 12; part p box 16 16 16 16 1; icon a; icon b p; icon c p, p at 0 1;");
        range(29, "icon", two, (x, v) -> bit(x.keepsTopology(v))).fits(0, 1).fits(1, 0).refuses(INDEX, -1, 3);
        range(29, "icon of a lively set", LIVELY, (x, v) -> bit(x.keepsTopology(v))).refuses(INDEX, -1, 3);
        range(29, "icon of none", start("size 8; size 9;"), (x, v) -> bit(x.keepsTopology(v))).refuses(INDEX, -1, 0);
        range(29, "icon of eight", FULL, (x, v) -> bit(x.keepsTopology(v))).refuses(INDEX, -1, 8);
        String ring = "part p box 16 16 16 16 1; icon i p;";
        keeps("no size", ring, true);
        keeps("one size", "size 12;" + ring, true);
        keeps("one size at which the icon has no hole", "size 4;" + ring, true);
        keeps("two sizes of the same topology", "size 12; size 24;" + ring, true);
        keeps("two sizes, the holes alone are not the same", "size 4; size 12;" + ring, false);
        keeps("two sizes, the pieces alone are not the same",
                "size 4; size 12; part p bar 0 0 12 12, bar 16 0 12 12; icon i p;", false);
        // one piece and one hole with 6 pixels, two pieces and no hole with 12 pixels
        String swapped = "size 6; size 12 extra 2; part p box 0 0 24 24 8, bar 26 0 8 8; icon i p;";
        keeps("two sizes, as many pieces and holes together, but not the same pair", swapped, false);
        edge(29, "the pair of this case is 1 and 1, then 2 and 0", () -> {
            IconSetBuilder x = of(swapped);
            due(x.measure(0, 0, 2), 1);
            due(x.measure(0, 0, 3), 1);
            due(x.measure(0, 1, 2), 2);
            due(x.measure(0, 1, 3), 0);
        });
        keeps("no ink at any size", "size 4; size 5; icon i;", true);
        keeps("ink at one of two sizes", "size 4; size 32; part p bar 47 0 1 1; icon i p;", false);
        keeps("the inks are not the same, but the topologies are", "size 4; size 32; part p bar 0 0 48 48; icon i p;", true);
    }

    /** With 7 and 9 to 12 pixels the ring has a hole, but with the extra 2 it has none. */
    private static void keepsTopologyAtEachSize() {
        String set = "size 7; size 9; size 10; size 11; size 12; part p box 16 16 16 16 1; icon i p;";
        keeps("5 sizes of the same topology", set, true);
        for (int size = 0; size < 5; size++) {
            int s = size;
            edge(29, "the extra changes the topology of size " + size + " of 5", () -> {
                IconSetBuilder x = of(set);
                x.setExtra(s, 2);
                due(x.measure(0, s, 3), 0);
                no(x.keepsTopology(0));
                x.undo();
                yes(x.keepsTopology(0));
            });
        }
        edge(29, "the extra changes the topology of all 5 sizes", () -> {
            IconSetBuilder x = of(set);
            for (int size = 0; size < 5; size++) {
                x.setExtra(size, 2);
            }
            yes(x.keepsTopology(0));
        });
    }

    // ---- promise 30

    private static void smallest() {
        Start lively = start("size 9 extra 2; part p box 0 0 29 29 1; icon a; icon b p; icon c p, p;");
        range(30, "icon", lively, (x, v) -> x.smallest(v)).fits(0, 4).fits(2, 5).refuses(INDEX, -1, 3);
        range(30, "icon of a lively set", LIVELY, (x, v) -> x.smallest(v)).refuses(INDEX, -1, 3);
        range(30, "icon of none", start("size 8;"), (x, v) -> x.smallest(v)).refuses(INDEX, -1, 0);
        found("no ink: 4 pixels", "icon i;", 4);
        found("all ink: 4 pixels", "part p bar 0 0 48 48; icon i p;", 4);
        found("a hole that is closed with 4 pixels: 5 pixels", "part p box 0 0 29 29 1; icon i p;", 5);
        found("a hole that is there with 4 pixels", "part p box 0 0 30 30 1; icon i p;", 4);
        // a hole of 2 by 2 pixels with 32 pixels, that the extra 1 would close; 3 by 3 pixels in all with 10
        found("a stroke that would close the hole if it were one pixel more", "part p box 0 0 12 12 4; icon i p;", 10);
        // no hole with 32 pixels, but with the extra -1 there would be one; 7 by 7 pixels with the stroke 3 with 27
        found("a stroke that would open a hole if it were one pixel less", "part p box 0 0 12 12 6; icon i p;", 28);
        // a gap of one unit that is drawn with 32, and with 31 and again with 8 pixels, but not with 30
        found("two pieces that touch with 30 pixels: 31 pixels", "part p bar 0 0 20 48, bar 21 0 27 48; icon i p;", 31);
        found("two pieces that touch with 31 pixels: 32 pixels", "part p bar 0 0 31 48, bar 32 0 16 48; icon i p;", 32);
        found("one piece that is two with 31 pixels: 32 pixels", "part p bar 0 0 32 48, bar 33 0 15 48; icon i p;", 32);
        edge(30, "the same topology below a gap does not count", () -> {
            IconSetBuilder x = of("size 8; size 30; size 32; part p bar 0 0 20 48, bar 21 0 27 48; icon i p;");
            due(x.measure(0, 0, 2), 2);
            due(x.measure(0, 1, 2), 1);
            due(x.measure(0, 2, 2), 2);
            due(x.smallest(0), 31);
        });
        edge(30, "sizes and their extras do not matter", () -> {
            IconSetBuilder x = of("size 5 extra 2; size 32 extra 2; part p box 0 0 29 29 1; icon i p;");
            due(x.measure(0, 0, 3), 0);
            due(x.smallest(0), 5);
            x.removeSize(1);
            x.removeSize(0);
            due(x.smallest(0), 5);
        });
    }

    private static void found(String sentence, String set, int pixels) {
        answer(30, sentence, start(set), pixels, x -> x.smallest(0));
    }

    // ---- promise 31

    private static void extremes(String sentence, String set, int greatest, int least) {
        edge(31, sentence, () -> {
            IconSetBuilder x = of(set);
            due(x.extreme(0, true), greatest);
            due(x.extreme(0, false), least);
        });
    }

    private static void extreme() {
        // weights at 4 pixels: 125, 250 and 0; at 8 pixels: 125, 125 and 0
        String set = "size 4; size 8; part p bar 0 0 24 12; part q bar 0 0 6 48; icon a p; icon b q; icon c;";
        range(31, "size for the greatest", start(set), (x, v) -> x.extreme(v, true)).fits(0, 1).fits(1, 0).refuses(INDEX, -1, 2);
        range(31, "size for the least", start(set), (x, v) -> x.extreme(v, false)).fits(0, 2).fits(1, 2).refuses(INDEX, -1, 2);
        range(31, "size of a lively set", LIVELY, (x, v) -> x.extreme(v, true)).refuses(INDEX, -1, 3);
        Start noIcons = start("size 4; size 5; part p bar 0 0 1 1;");
        refusal(31, "no icons for the greatest weight", noIcons, NO_ELEMENT, x -> x.extreme(0, true));
        refusal(31, "no icons for the least weight", noIcons, NO_ELEMENT, x -> x.extreme(1, false));
        refusal(31, "two exceptions: no such size, no icons", noIcons, INDEX, x -> x.extreme(2, true));
        refusal(31, "two exceptions: a size below 0, no icons", noIcons, INDEX, x -> x.extreme(-1, false));
        refusal(31, "two exceptions: no sizes, no icons", EMPTY, INDEX, x -> x.extreme(0, true));
        extremes("one icon without ink", "size 4; icon a;", 0, 0);
        extremes("one icon with all ink", "size 4; part p bar 0 0 48 48; icon a p;", 0, 0);
        extremes("all icons without ink: the lowest one", "size 4; icon a; icon b; icon c;", 0, 0);
        extremes("all icons with all ink: the lowest one", "size 4; part p bar 0 0 48 48; icon a p; icon b p;", 0, 0);
        extremes("the weights 1000 and 999",
                "size 32; part p bar 0 0 48 48; part q bar 0 0 48 47, bar 0 47 47 1; icon a p; icon b q;", 0, 1);
        extremes("the weights 0 and 1", "size 32; part q bar 0 0 3 1; icon a; icon b q;", 1, 0);
        String p = "size 4; part p bar 0 0 12 12; part q bar 0 0 24 12; ";
        extremes("the greatest is the first one", p + "icon a q; icon b p; icon c p;", 0, 1);
        extremes("the greatest is the last one", p + "icon a p; icon b p; icon c q;", 2, 0);
        extremes("of several with the greatest weight the lowest one", p + "icon a p; icon b q; icon c q;", 1, 0);
        extremes("of several with the least weight the lowest one", p + "icon a q; icon b; icon c;", 0, 1);
        extremes("of several with the least weight the lowest one, behind a greater one", p + "icon a q; icon b p; icon c p; icon d q;", 0, 1);
        extremes("the last of 8 icons",
                p + "icon a p; icon b p; icon c p; icon d p; icon e p; icon f p; icon g q; icon h;", 6, 7);
        // 2 and 1 pixels of 1024 have the weights 1 and 0
        extremes("weights are compared, which are rounded down: one pixel is no more than none",
                "size 32; part p bar 0 0 1 1; icon a; icon b p;", 0, 0);
        extremes("weights are compared, which are rounded down: two pixels are",
                "size 32; part p bar 0 0 3 1; icon a; icon b p;", 1, 0);
        edge(31, "the extra of the size counts", () -> {
            IconSetBuilder x = of("size 6; part p line 0 0 0 0 8; part q bar 0 0 16 8; icon a p; icon b q;");
            due(x.extreme(0, true), 1);
            x.setExtra(0, 1);
            due(x.extreme(0, true), 0);
        });
    }

    // ---- promise 32

    private static void best(String sentence, String sizes, int size, int extra) {
        answer(32, sentence, start(sizes + FRAME), extra, x -> x.bestExtra(size));
    }

    private static void bestExtra() {
        Start two = start("size 12 extra 2; size 24 extra -1;" + FRAME);
        range(32, "size", two, (x, v) -> x.bestExtra(v)).fits(0, 0).fits(1, -1).refuses(INDEX, -1, 2);
        range(32, "size of a lively set", LIVELY, (x, v) -> x.bestExtra(v)).refuses(INDEX, -1, 3);
        Start noIcons = start("size 4; size 5; part p bar 0 0 1 1;");
        refusal(32, "no icons", noIcons, NO_ELEMENT, x -> x.bestExtra(0));
        refusal(32, "no icons for the last size", noIcons, NO_ELEMENT, x -> x.bestExtra(1));
        refusal(32, "two exceptions: no such size, no icons", noIcons, INDEX, x -> x.bestExtra(2));
        refusal(32, "two exceptions: a size below 0, no icons", noIcons, INDEX, x -> x.bestExtra(-1));
        refusal(32, "two exceptions: no sizes, no icons", EMPTY, INDEX, x -> x.bestExtra(0));
        for (int extra = -2; extra <= 2; extra++) {
            best("the last size itself has the extra " + extra, "size 12 extra " + extra + ";", 0, extra);
        }
        // 24 pixels with the extras -2 to 2 have the weights 555, 659, 750, 826 and 888
        best("555 of the last size is closest with -1", "size 12; size 24 extra -2;", 0, -1);
        best("659 of the last size is closer to 750 than to 555", "size 12; size 24 extra -1;", 0, 0);
        best("750 of the last size is closest with 0", "size 12; size 24;", 0, 0);
        best("826 of the last size is closer to 888 than to 750", "size 12; size 24 extra 1;", 0, 1);
        best("888 of the last size is closest with 1", "size 12; size 24 extra 2;", 0, 1);
        best("the present extra of the size does not matter", "size 12 extra -2; size 24 extra 2;", 0, 1);
        best("the sizes between do not matter", "size 12; size 16 extra -2; size 24 extra 2;", 0, 1);
        best("the size ahead of the last one", "size 4; size 12 extra 2; size 24 extra -2;", 1, -1);
        edge(32, "nothing is changed by the question", () -> {
            IconSetBuilder x = two.make();
            x.bestExtra(0);
            due(x.size(0, 1), 2);
            due(x.size(1, 1), -1);
            due(x.undo(), 0);
        });
    }

    private static void bestExtraOfSeveral() {
        // with 4 pixels the extras -2 to 0 have one stroke: a frame of 12 pixels, 1 and 2 fill all
        best("of -2, -1 and 0 it is 0", "size 4 extra -2;", 0, 0);
        best("of 1 and 2 it is 1", "size 4 extra 2;", 0, 1);
        best("of -2 and -1 it is -1", "size 8 extra -2;", 0, -1);
        answer(32, "of all five it is 0", start("size 8 extra 2; size 9 extra -2; part p bar 0 0 9 9; icon i p;"), 0, x -> x.bestExtra(0));
        answer(32, "of all five it is 0, without ink", start("size 8 extra -2; icon i;"), 0, x -> x.bestExtra(0));
        // a bar of one row, 83 with 12 pixels and 41 with 24: the means are 485, 416 and 433 at last
        answer(32, "the mean of several icons counts, and not the first one",
                start("size 12; size 24 extra 1;" + FRAME + " part q bar 0 0 48 2; icon j q;"), 0, x -> x.bestExtra(0));
        // a line at 4 pixels has the weights 250, 500 and 750 with the extras up to 0, 1 and 2; with 8 pixels
        // it has 250, 375 and 500 with 0 to 2: 375 is as far from 250 as from 500
        Start line = start("size 4; size 8 extra 1; part p line 0 12 48 12 12; icon i p;");
        edge(32, "of 0 and 1, as far away, it is 0", () -> {
            IconSetBuilder x = line.make();
            due(x.size(1, 2), 375);
            due(x.size(0, 2), 250);
            due(x.bestExtra(0), 0);
            x.setExtra(0, 1);
            due(x.size(0, 2), 500);
            due(x.bestExtra(0), 0);
        });
        edge(32, "of -1 and 0, as far away, it is 0", () -> {
            IconSetBuilder x = of("size 8; size 16 extra -1; part p line 0 12 48 12 12; icon i p; icon j; icon k;");
            due(x.size(1, 2), 62);
            due(x.size(0, 2), 83);
            due(x.bestExtra(0), 0);
            x.setExtra(0, -1);
            due(x.size(0, 2), 41);
            due(x.bestExtra(0), 0);
        });
    }

    // ---- promise 33

    private static void indifferent() {
        Start set = start("size 4; size 32; part p bar 0 0 12 12; part q bar 0 0 48 48; part r bar 0 0 1 1;"
                + " icon a p; icon b; icon c q, p; icon d p, p; icon e q; icon f p at 48 0; icon g p, r; icon h r, p at 12 0;");
        // p matters in a, d and h at 4 pixels and in a, d, g and h at 32 pixels
        range(33, "part", set, (x, v) -> x.indifferent(v, 0)).fits(0, 5).fits(2, 7).refuses(INDEX, -1, 3);
        range(33, "size", set, (x, v) -> x.indifferent(0, v)).fits(0, 5).fits(1, 4).refuses(INDEX, -1, 2);
        range(33, "part of a lively set", LIVELY, (x, v) -> x.indifferent(v, 0)).refuses(INDEX, -1, 3);
        range(33, "size of a lively set", LIVELY, (x, v) -> x.indifferent(0, v)).refuses(INDEX, -1, 3);
        range(33, "part of none", start("size 4; icon i;"), (x, v) -> x.indifferent(v, 0)).refuses(INDEX, -1, 0);
        range(33, "size of none", start("part p bar 0 0 1 1;"), (x, v) -> x.indifferent(0, v)).refuses(INDEX, -1, 0);
        answer(33, "no icons", start("size 4; part p bar 0 0 1 1;"), 0, x -> x.indifferent(0, 0));
        String p = "size 4; part p bar 0 0 12 12; part q bar 0 0 48 48; ";
        answer(33, "icons that do not use the part", start(p + "icon a; icon b q;"), 2, x -> x.indifferent(0, 0));
        answer(33, "an icon whose only ink is the part", start(p + "icon a p;"), 0, x -> x.indifferent(0, 0));
        answer(33, "an icon that uses the part twice in one place", start(p + "icon a p, p;"), 0, x -> x.indifferent(0, 0));
        answer(33, "an icon in which another part covers it", start(p + "icon a p, q;"), 1, x -> x.indifferent(0, 0));
        answer(33, "an icon in which the part covers another one", start(p + "icon a p, q;"), 0, x -> x.indifferent(1, 0));
        answer(33, "an icon in which one of two uses is covered", start("size 4; part p bar 0 0 12 12; part q bar 0 0 24 48; icon a q, p, p at 24 0;"),
                0, x -> x.indifferent(0, 0));
        answer(33, "an icon in which the part lies outside", start(p + "icon a p at 0 48;"), 1, x -> x.indifferent(0, 0));
        // with the extra 1 the line of p has 4 pixels, one of them that of q
        Start extra = start("size 6 extra 1; part p line 0 0 0 0 8; part q bar 0 0 8 8; icon a p, q;");
        answer(33, "the extra of the size counts for the part", extra, 0, x -> x.indifferent(0, 0));
        answer(33, "the extra of the size counts for the other parts", extra, 1, x -> x.indifferent(1, 0));
        answer(33, "all of 8 icons", start(p + "icon a; icon b; icon c; icon d q; icon e q, p; icon f; icon g; icon h;"), 8,
                x -> x.indifferent(0, 0));
    }
}
