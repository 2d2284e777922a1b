/** The edges of promises 6 to 10: a case for each sentence. */
public final class EdgeSizesTest extends Checks {
    private static final Start THREE = start("size 8 extra 1; size 16 extra 2; size 24 extra -1;");
    private static final Start FIVE = start("size 4; size 8; size 12; size 16; size 32;");

    public static void main(String[] args) {
        addSize();
        removeSize();
        size();
        meanWeight();
        setExtra();
        stroke();
        strokeAtLeastOne();
        finish("EdgeSizesTest", 6, 10);
    }

    private static void sizesAre(IconSetBuilder x, int... pixelsAndExtras) {
        due(x.count(0), pixelsAndExtras.length / 2);
        for (int size = 0; size < pixelsAndExtras.length / 2; size++) {
            due(x.size(size, 0), pixelsAndExtras[2 * size]);
            due(x.size(size, 1), pixelsAndExtras[2 * size + 1]);
        }
    }

    private static void addSize() {
        range(6, "pixels", LIVELY, (x, v) -> x.addSize(v)).fits(4, 0).fits(32, 3).refuses(ARGUMENT, 3, 33, 0, -1, -8);
        range(6, "pixels of the first size", EMPTY, (x, v) -> x.addSize(v)).fits(4, 0).fits(32, 0).refuses(ARGUMENT, 3, 33);
        edge(6, "the extra is 0, and the other sizes keep theirs: in front", () -> {
            IconSetBuilder x = THREE.make();
            due(x.addSize(7), 0);
            sizesAre(x, 7, 0, 8, 1, 16, 2, 24, -1);
        });
        edge(6, "the extra is 0, and the other sizes keep theirs: between", () -> {
            IconSetBuilder x = THREE.make();
            due(x.addSize(17), 2);
            sizesAre(x, 8, 1, 16, 2, 17, 0, 24, -1);
        });
        edge(6, "the extra is 0, and the other sizes keep theirs: behind", () -> {
            IconSetBuilder x = THREE.make();
            due(x.addSize(25), 3);
            sizesAre(x, 8, 1, 16, 2, 24, -1, 25, 0);
        });
        edge(6, "the extra is 0 where a removed size had another one", () -> {
            IconSetBuilder x = THREE.make();
            x.removeSize(2);
            due(x.addSize(24), 2);
            sizesAre(x, 8, 1, 16, 2, 24, 0);
        });
        edge(6, "a fifth size just fits", () -> {
            IconSetBuilder x = THREE.make();
            due(x.addSize(4), 0);
            due(x.addSize(32), 4);
            sizesAre(x, 4, 0, 8, 1, 16, 2, 24, -1, 32, 0);
        });
        refusal(6, "a sixth size", FIVE, STATE, x -> x.addSize(31));
        refusal(6, "a sixth size of a full set", FULL, STATE, x -> x.addSize(31));
        edge(6, "there is room again when one of 5 sizes is gone", () -> {
            IconSetBuilder x = FIVE.make();
            x.removeSize(2);
            due(x.addSize(31), 3);
            thrown(STATE, () -> x.addSize(30));
        });
        refusal(6, "the pixels of the first size", LIVELY, STATE, x -> x.addSize(8));
        refusal(6, "the pixels of a size between", LIVELY, STATE, x -> x.addSize(12));
        refusal(6, "the pixels of the last size", LIVELY, STATE, x -> x.addSize(16));
        refusal(6, "the pixels of one of 5 sizes", FIVE, STATE, x -> x.addSize(32));
        answer(6, "the pixels of a size that was removed", LIVELY, 1, x -> {
            x.removeSize(1);
            return x.addSize(12);
        });
        answer(6, "the pixels of a size that was undone", LIVELY, 3, x -> {
            x.addSize(20);
            x.undo();
            return x.addSize(20);
        });
        refusal(6, "two exceptions: too few pixels for a sixth size", FIVE, ARGUMENT, x -> x.addSize(3));
        refusal(6, "two exceptions: too many pixels for a sixth size", FIVE, ARGUMENT, x -> x.addSize(33));
    }

    private static void removeSize() {
        range(7, "size of three", LIVELY, (x, v) -> x.removeSize(v)).fits(0, 2).fits(2, 2).refuses(INDEX, -1, 3);
        range(7, "size of one", start("size 8;"), (x, v) -> x.removeSize(v)).fits(0, 0).refuses(INDEX, -1, 1);
        range(7, "size of none", EMPTY, (x, v) -> x.removeSize(v)).refuses(INDEX, -1, 0);
        range(7, "size of five", FULL, (x, v) -> x.removeSize(v)).fits(0, 4).fits(4, 4).refuses(INDEX, -1, 5);
        edge(7, "those behind the first one get lower numbers", () -> {
            IconSetBuilder x = THREE.make();
            x.removeSize(0);
            sizesAre(x, 16, 2, 24, -1);
        });
        edge(7, "the one before and the one behind a size between", () -> {
            IconSetBuilder x = THREE.make();
            x.removeSize(1);
            sizesAre(x, 8, 1, 24, -1);
        });
        edge(7, "none is behind the last one", () -> {
            IconSetBuilder x = THREE.make();
            x.removeSize(2);
            sizesAre(x, 8, 1, 16, 2);
        });
        edge(7, "all sizes, one by one", () -> {
            IconSetBuilder x = FIVE.make();
            for (int left = 4; left >= 0; left--) {
                due(x.removeSize(left / 2), left);
            }
            thrown(INDEX, () -> x.removeSize(0));
        });
        edge(7, "the first of five takes four others along", () -> {
            IconSetBuilder x = FULL.make();
            int extra = x.size(4, 1);
            x.removeSize(0);
            sizesAre(x, 8, 1, 12, 0, 16, -1, 32, extra);
        });
    }

    private static void size() {
        for (int what = 0; what <= 2; what++) {
            int w = what;
            range(8, "size for what " + what, LIVELY, (x, v) -> x.size(v, w)).refuses(INDEX, -1, 3);
        }
        range(8, "size with its pixels", LIVELY, (x, v) -> x.size(v, 0)).fits(0, 8).fits(2, 16);
        range(8, "size with its extra", LIVELY, (x, v) -> x.size(v, 1)).fits(0, 2).fits(2, -2);
        range(8, "size of none", start("icon i;"), (x, v) -> x.size(v, 0)).refuses(INDEX, -1, 0);
        range(8, "what", start("size 8 extra -2; icon i;"), (x, v) -> x.size(0, v)).fits(0, 8).fits(1, -2).fits(2, 0)
                .refuses(ARGUMENT, -1, 3);
        refusal(8, "two exceptions: no such size, what too large", LIVELY, INDEX, x -> x.size(3, 3));
        refusal(8, "two exceptions: no such size, what too small", LIVELY, INDEX, x -> x.size(-1, -1));
        answer(8, "the extra is 0 at first", start("size 8;"), 0, x -> x.size(0, 1));
    }

    /** At 12 pixels, of 144, one pixel has the weight 6.94 and two pixels have 13.89. */
    private static void meanWeight() {
        String one = "size 12; part p bar 0 0 4 4; part q bar 0 0 8 4; ";
        answer(8, "the mean weight without icons is 0", start(one), 0, x -> x.size(0, 2));
        answer(8, "the mean weight of one icon is its weight, rounded down", start(one + "icon i p;"), 6, x -> x.size(0, 2));
        answer(8, "the mean weight is that of rounded weights, rounded down", start(one + "icon i p; icon j q;"), 9,
                x -> x.size(0, 2));
        answer(8, "icons without ink count for the mean weight", start(one + "icon i q; icon j; icon k;"), 4, x -> x.size(0, 2));
        answer(8, "the mean weight of icons without ink is 0", start(one + "icon i; icon j;"), 0, x -> x.size(0, 2));
        answer(8, "the mean weight of full icons is 1000",
                start("size 32; part p bar 0 0 48 48; icon i p; icon j p;"), 1000, x -> x.size(0, 2));
        answer(8, "the mean weight of 8 icons, the last of them the one with ink",
                start("size 4; part p bar 0 0 48 48; icon a; icon b; icon c; icon d; icon e; icon f; icon g; icon h p;"), 125,
                x -> x.size(0, 2));
        answer(8, "the mean weight is that with the extra",
                start("size 8 extra 1; part p box 0 0 48 48 6; icon i p;"), 750, x -> x.size(0, 2));
    }

    private static void setExtra() {
        range(9, "extra", LIVELY, (x, v) -> x.setExtra(2, v)).fits(-2, -2).fits(2, -2).refuses(ARGUMENT, -3, 3);
        range(9, "size", LIVELY, (x, v) -> x.setExtra(v, 1)).fits(0, 2).fits(2, -2).refuses(INDEX, -1, 3);
        refusal(9, "two exceptions: no such size, extra too large", LIVELY, INDEX, x -> x.setExtra(3, 3));
        refusal(9, "two exceptions: no such size, extra too small", LIVELY, INDEX, x -> x.setExtra(-1, -3));
        edge(9, "each extra is answered as the previous one", () -> {
            IconSetBuilder x = start("size 8;").make();
            int[] extras = {-2, -1, 0, 1, 2, 2, -2};
            int previous = 0;
            for (int extra : extras) {
                due(x.setExtra(0, extra), previous);
                due(x.size(0, 1), extra);
                previous = extra;
            }
        });
        edge(9, "the other sizes keep their extras", () -> {
            IconSetBuilder x = THREE.make();
            x.setExtra(1, -2);
            sizesAre(x, 8, 1, 16, -2, 24, -1);
        });
        answer(9, "the same extra again is a change", LIVELY, 3, x -> {
            x.setExtra(0, 2);
            return x.undo();
        });
        edge(9, "drawings, strokes and weights follow the extra", () -> {
            IconSetBuilder x = of("size 6; part p box 0 0 48 48 8; icon i p;");
            due(x.measure(0, 0, 0), 20);
            due(x.stroke(0, 8), 1);
            x.setExtra(0, 1);
            due(x.measure(0, 0, 0), 32);
            due(x.stroke(0, 8), 2);
            due(x.size(0, 2), 888);
            x.undo();
            due(x.measure(0, 0, 0), 20);
        });
    }

    private static void stroke() {
        range(10, "thickness", LIVELY, (x, v) -> x.stroke(1, v)).fits(1, 1).fits(12, 4).refuses(ARGUMENT, 0, 13, -1);
        range(10, "size", LIVELY, (x, v) -> x.stroke(v, 12)).fits(0, 4).fits(2, 2).refuses(INDEX, -1, 3);
        range(10, "size of none", EMPTY, (x, v) -> x.stroke(v, 1)).refuses(INDEX, -1, 0);
        refusal(10, "two exceptions: no such size, thickness too small", LIVELY, INDEX, x -> x.stroke(3, 0));
        refusal(10, "two exceptions: no such size, thickness too large", LIVELY, INDEX, x -> x.stroke(-1, 13));
        // with 24 pixels a unit is half a pixel
        int[] halves = {1, 1, 2, 2, 3, 3, 4, 4, 5, 5, 6, 6};
        for (int thickness = 1; thickness <= 12; thickness++) {
            int t = thickness;
            answer(10, "half a pixel is rounded up for thickness " + thickness, start("size 24;"), halves[t - 1], x -> x.stroke(0, t));
        }
        answer(10, "a pixel and a third are rounded down", start("size 32;"), 1, x -> x.stroke(0, 2));
        answer(10, "two thirds of a pixel are rounded up", start("size 32;"), 1, x -> x.stroke(0, 1));
        answer(10, "the greatest stroke", start("size 32 extra 2;"), 10, x -> x.stroke(0, 12));
    }

    /** Thickness 12 is 3 pixels with 12 pixels, 2 with 8 and 1 with 4; thickness 1 is none with 4. */
    private static void strokeAtLeastOne() {
        answer(10, "3 pixels and the extra -2 are 1", start("size 12 extra -2;"), 1, x -> x.stroke(0, 12));
        answer(10, "3 pixels and the extra -1 are 2", start("size 12 extra -1;"), 2, x -> x.stroke(0, 12));
        answer(10, "2 pixels and the extra -1 are 1", start("size 8 extra -1;"), 1, x -> x.stroke(0, 12));
        answer(10, "2 pixels and the extra -2 are 1, not 0", start("size 8 extra -2;"), 1, x -> x.stroke(0, 12));
        answer(10, "1 pixel and the extra -2 are 1, not -1", start("size 4 extra -2;"), 1, x -> x.stroke(0, 12));
        answer(10, "no pixel and the extra -2 are 1, not -2", start("size 4 extra -2;"), 1, x -> x.stroke(0, 1));
        answer(10, "no pixel and the extra 0 are 1", start("size 4;"), 1, x -> x.stroke(0, 5));
        answer(10, "no pixel and the extra 1 are 1, not 2", start("size 4 extra 1;"), 1, x -> x.stroke(0, 5));
        answer(10, "no pixel and the extra 2 are 2, not 3", start("size 4 extra 2;"), 2, x -> x.stroke(0, 5));
        answer(10, "half a pixel and the extra 2 are 3", start("size 4 extra 2;"), 3, x -> x.stroke(0, 6));
    }
}
