/** The edges of promises 24 to 28 and of the document's drawing rules: a case for each sentence. */
public final class EdgeDrawingsTest extends Checks {
    private static final String NO_INK_OF_4 = ".... .... .... ....";
    /** An icon with all ink and one without ink, at the least and the greatest pixels and between. */
    private static final Start ALL_AND_NONE = start("size 4; size 8; size 32; part p bar 0 0 48 48; icon all p; icon none;");

    public static void main(String[] args) {
        isInkedIndexes();
        bars();
        barsOutside();
        boxes();
        boxesOutside();
        lines();
        lineStrokes();
        linesOutside();
        severalShapesAndUses();
        measureArguments();
        inkAndWeight();
        extents();
        pieces();
        holes();
        holesAtTheEdges();
        isMirrored();
        difference();
        alone();
        finish("EdgeDrawingsTest", 24, 28);
    }

    /** A case with shapes alone at a size. */
    private static void draws(String sentence, String size, String shapes, String rows) {
        draws(sentence, size, shapes, "0 0", rows);
    }

    private static void draws(String sentence, String size, String shapes, String shift, String rows) {
        edge(24, sentence, () -> same(drawn(size, shapes, shift), rows));
    }

    // ---- promise 24

    private static void isInkedIndexes() {
        int[] pixels = {4, 8, 32};
        for (int size = 0; size < 3; size++) {
            int s = size;
            int last = pixels[size] - 1;
            range(24, "column with " + pixels[size] + " pixels", ALL_AND_NONE, (x, v) -> bit(x.isInked(0, s, v, last)))
                    .fits(0, 1).fits(last, 1).refuses(INDEX, -1, last + 1);
            range(24, "row with " + pixels[size] + " pixels", ALL_AND_NONE, (x, v) -> bit(x.isInked(0, s, last, v)))
                    .fits(0, 1).fits(last, 1).refuses(INDEX, -1, last + 1);
        }
        range(24, "icon", ALL_AND_NONE, (x, v) -> bit(x.isInked(v, 0, 3, 3))).fits(0, 1).fits(1, 0).refuses(INDEX, -1, 2);
        range(24, "size", ALL_AND_NONE, (x, v) -> bit(x.isInked(0, v, 3, 3))).fits(0, 1).fits(2, 1).refuses(INDEX, -1, 3);
        range(24, "icon of none", start("size 8;"), (x, v) -> bit(x.isInked(v, 0, 0, 0))).refuses(INDEX, -1, 0);
        range(24, "size of none", start("icon i;"), (x, v) -> bit(x.isInked(0, v, 0, 0))).refuses(INDEX, -1, 0);
        range(24, "icon of a lively set", LIVELY, (x, v) -> bit(x.isInked(v, 0, 0, 0))).refuses(INDEX, -1, 3);
        refusal(24, "column and row are both at an end of int", LIVELY, INDEX, x -> bit(x.isInked(0, 0, HIGH, LOW)));
        edge(24, "column and row are not exchanged, in all four corners of the greatest size", () -> {
            IconSetBuilder x = of("size 32; part p bar 0 0 1 1; icon a p; icon b p at 47 0; icon c p at 0 47; icon d p at 47 47;");
            for (int icon = 0; icon < 4; icon++) {
                int column = icon % 2 * 31;
                int row = icon / 2 * 31;
                yes(x.isInked(icon, 0, column, row));
                no(x.isInked(icon, 0, 31 - column, row));
                no(x.isInked(icon, 0, column, 31 - row));
                due(x.measure(icon, 0, 0), 1);
            }
        });
    }

    /** With 4 pixels a pixel is 12 units: 5 units are less than half a pixel, 6 are half of one. */
    private static void bars() {
        draws("a bar's left edge just less than half a pixel in", "4", "bar 5 0 12 12", "#... .... .... ....");
        draws("a bar's left edge half a pixel in", "4", "bar 6 0 12 12", ".#.. .... .... ....");
        draws("a bar's right edge just less than half a pixel in", "4", "bar 0 0 17 12", "#... .... .... ....");
        draws("a bar's right edge half a pixel in", "4", "bar 0 0 18 12", "##.. .... .... ....");
        draws("a bar's upper edge just less than half a pixel in", "4", "bar 0 5 12 12", "#... .... .... ....");
        draws("a bar's upper edge half a pixel in", "4", "bar 0 6 12 12", ".... #... .... ....");
        draws("a bar's lower edge just less than half a pixel in", "4", "bar 0 0 12 17", "#... .... .... ....");
        draws("a bar's lower edge half a pixel in", "4", "bar 0 0 12 18", "#... #... .... ....");
        draws("a bar from the first to the last pixel", "4", "bar 0 0 48 48", "#### #### #### ####");
        draws("a bar of some columns and rows", "4", "bar 12 24 24 12", ".... .... .##. ....");
        draws("x and x + width are the same: one column", "4", "bar 6 0 11 24", ".#.. .#.. .... ....");
        draws("y and y + height are the same: one row", "4", "bar 0 6 24 11", ".... ##.. .... ....");
        draws("both are the same: one pixel", "4", "bar 18 6 1 1", ".... ..#. .... ....");
        draws("both are 0: the first pixel", "4", "bar 0 0 5 5", "#... .... .... ....");
        draws("x + width is one more than x: one column, too", "4", "bar 0 0 6 6", "#... .... .... ....");
        draws("x + width is two more than x: two columns", "4", "bar 5 5 13 13", "##.. ##.. .... ....");
        draws("the extra of the size does not matter to bars", "4 extra 2", "bar 18 6 1 1", ".... ..#. .... ....");
        draws("one unit is more than half a pixel with 32 pixels", "32", "bar 0 0 1 1",
                "#" + repeated(".", "", 31) + repeated(" " + repeated(".", "", 32), "", 31));
        edge(24, "the last of 32 columns and rows", () -> {
            IconSetBuilder x = of("size 32; part p bar 47 47 1 1; icon i p;");
            yes(x.isInked(0, 0, 31, 31));
            due(x.measure(0, 0, 0), 1);
        });
    }

    private static void barsOutside() {
        draws("minus half a pixel is 0", "4", "bar 0 0 48 12", "-6 0", "#### .... .... ....");
        draws("a little less than minus half a pixel is -1", "4", "bar 0 0 48 12", "-7 0", "###. .... .... ....");
        draws("minus half a pixel is 0, upward", "4", "bar 0 0 12 48", "0 -6", "#... #... #... #...");
        draws("a little less than minus half a pixel is -1, upward", "4", "bar 0 0 12 48", "0 -7", "#... #... #... ....");
        draws("x and x + width are both 0, x being negative", "4", "bar 0 0 1 48", "-6 0", "#... #... #... #...");
        draws("x is -1 and x + width is 0", "4", "bar 0 0 1 48", "-7 0", NO_INK_OF_4);
        draws("x and x + width are both -1", "4", "bar 0 0 1 48", "-8 0", NO_INK_OF_4);
        draws("y and y + height are both 0, y being negative", "4", "bar 0 0 48 1", "0 -6", "#### .... .... ....");
        draws("y is -1 and y + height is 0", "4", "bar 0 0 48 1", "0 -7", NO_INK_OF_4);
        draws("y and y + height are both -1", "4", "bar 0 0 48 1", "0 -8", NO_INK_OF_4);
        draws("x is the last column", "4", "bar 41 0 1 48", "...# ...# ...# ...#");
        draws("x is the column behind the last one", "4", "bar 42 0 1 48", NO_INK_OF_4);
        draws("y is the last row", "4", "bar 0 41 48 1", ".... .... .... ####");
        draws("y is the row behind the last one", "4", "bar 0 42 48 1", NO_INK_OF_4);
        draws("a bar reaches beyond the right edge", "4", "bar 36 0 48 12", "...# .... .... ....");
        draws("a bar reaches beyond the lower edge", "4", "bar 0 36 12 48", ".... .... .... #...");
        draws("a bar that a shift takes to the left but for a column", "4", "bar 0 0 48 48", "-42 0", "#... #... #... #...");
        draws("a bar that a shift takes wholly to the left", "4", "bar 0 0 48 48", "-43 0", NO_INK_OF_4);
        draws("a bar that a shift takes to the right but for a column", "4", "bar 0 0 48 48", "41 0", "...# ...# ...# ...#");
        draws("a bar that a shift takes wholly to the right", "4", "bar 0 0 48 48", "42 0", NO_INK_OF_4);
        draws("a bar that a shift takes upward but for a row", "4", "bar 0 0 48 48", "0 -42", "#### .... .... ....");
        draws("a bar that a shift takes wholly upward", "4", "bar 0 0 48 48", "0 -43", NO_INK_OF_4);
        draws("a bar that a shift takes downward but for a row", "4", "bar 0 0 48 48", "0 41", ".... .... .... ####");
        draws("a bar that a shift takes wholly downward", "4", "bar 0 0 48 48", "0 42", NO_INK_OF_4);
        edge(24, "the farthest shifts of the farthest bar, box and line, at the greatest size", () -> {
            IconSetBuilder x = of("size 32 extra 2; part p bar 47 47 48 48, box 47 47 48 48 12, line 48 48 48 48 12;"
                    + " part q bar 0 0 48 48, box 0 0 48 48 12; icon i p at 48 48; icon j q at -48 -48;");
            due(x.measure(0, 0, 0), 0);
            due(x.measure(1, 0, 0), 0);
        });
    }

    /** With 6 pixels a pixel is 8 units. */
    private static void boxes() {
        draws("a box with the stroke 1", "6", "box 0 0 48 48 8", "###### #....# #....# #....# #....# ######");
        draws("a box with the stroke 2", "6 extra 1", "box 0 0 48 48 8", "###### ###### ##..## ##..## ###### ######");
        draws("twice the stroke is the width", "6 extra 2", "box 0 0 48 48 8", "###### ###### ###### ###### ###### ######");
        draws("twice the stroke is one less than the width", "6 extra 1", "box 0 0 40 40 8",
                "#####. #####. ##.##. #####. #####. ......");
        draws("twice the stroke is one more than the width", "6 extra 2", "box 0 0 40 40 8",
                "#####. #####. #####. #####. #####. ......");
        draws("the stroke is more than width and height", "6 extra 2", "box 16 16 8 8 12",
                "...... ...... ..#... ...... ...... ......");
        draws("the stroke is more than the width alone", "6 extra 2", "box 16 16 8 24 12",
                "...... ...... ..#... ..#... ..#... ......");
        draws("the stroke is more than the height alone", "6 extra 2", "box 16 16 24 8 12",
                "...... ...... ..###. ...... ...... ......");
        draws("the stroke is more than the width of a box at the right", "6 extra 2", "box 32 0 8 24 12",
                "....#. ....#. ....#. ...... ...... ......");
        draws("the stroke is more than the height of a box below", "6 extra 2", "box 0 32 24 8 12",
                "...... ...... ...... ...... ###... ......");
        draws("a box of two rows has ink all over", "6", "box 0 0 48 16 8", "###### ###### ...... ...... ...... ......");
        draws("a box of three rows", "6", "box 0 0 48 24 8", "###### #....# ###### ...... ...... ......");
        draws("a box of two columns has ink all over", "6", "box 0 0 16 24 8", "##.... ##.... ##.... ...... ...... ......");
        draws("a box of three columns", "6", "box 8 8 24 32 1", "...... .###.. .#.#.. .#.#.. .###.. ......");
        draws("x and x + width of a box are the same: one column", "6", "box 9 9 1 20 1",
                "...... .#.... .#.... .#.... ...... ......");
        draws("y and y + height of a box are the same: one row", "6", "box 9 9 20 1 12",
                "...... .###.. ...... ...... ...... ......");
        draws("a stroke that would be 0 is 1", "6 extra -2", "box 0 0 48 48 12", "###### #....# #....# #....# #....# ######");
        draws("a stroke that would be -1 is 1", "6 extra -2", "box 0 0 48 48 8", "###### #....# #....# #....# #....# ######");
        draws("a box's edges are snapped like a bar's", "4", "box 5 6 36 36 1", ".... ###. #.#. ###.");
    }

    private static void boxesOutside() {
        draws("the left edge lies outside", "6", "box 0 0 48 48 8", "-16 0", "####.. ...#.. ...#.. ...#.. ...#.. ####..");
        draws("the right edge lies outside", "6", "box 0 0 48 48 8", "16 0", "..#### ..#... ..#... ..#... ..#... ..####");
        draws("the upper edge lies outside", "6", "box 0 0 48 48 8", "0 -16", "#....# #....# #....# ###### ...... ......");
        draws("the lower edge lies outside", "6", "box 0 0 48 48 8", "0 16", "...... ...... ###### #....# #....# #....#");
        draws("the first of two columns of the stroke lies outside", "6 extra 1", "box 0 0 48 48 8", "-8 0",
                "#####. #####. #..##. #..##. #####. #####.");
        draws("the last of two rows of the stroke lies outside", "6 extra 1", "box 0 0 48 48 8", "0 8",
                "...... ###### ###### ##..## ##..## ######");
        draws("nothing but the inside of a box is on the square", "4", "box 0 0 48 48 1", "0 0", "#### #..# #..# ####");
        draws("all edges but one lie outside", "4", "box 12 12 48 48 1", ".... .### .#.. .#..");
        draws("a box that a shift takes away but for its last column", "6", "box 0 0 48 48 8", "-40 0",
                "#..... #..... #..... #..... #..... #.....");
        draws("a box that a shift takes wholly away", "6", "box 0 0 48 48 8", "-48 0", "...... ...... ...... ...... ...... ......");
    }

    private static void lines() {
        draws("a line of one point has one pixel", "4", "line 12 24 12 24 12", ".... .... .#.. ....");
        draws("a line whose points are snapped to one", "4", "line 6 18 17 29 12", ".... .... .#.. ....");
        draws("both ends of a flat line", "4", "line 0 12 36 12 12", ".... #### .... ....");
        draws("both ends of a flat line, told from its right end", "4", "line 36 12 0 12 12", ".... #### .... ....");
        draws("both ends of an upright line", "4", "line 12 0 12 36 12", ".#.. .#.. .#.. .#..");
        draws("both ends of an upright line, told from its lower end", "4", "line 12 36 12 0 12", ".#.. .#.. .#.. .#..");
        draws("a line downward to the right", "4", "line 0 0 36 36 12", "#... .#.. ..#. ...#");
        draws("a line upward to the right", "4", "line 0 36 36 0 12", "...# ..#. .#.. #...");
        draws("a line downward to the left", "4", "line 36 0 0 36 12", "...# ..#. .#.. #...");
        draws("a line upward to the left", "4", "line 36 36 0 0 12", "#... .#.. ..#. ...#");
        draws("a third of a row down", "4", "line 0 0 36 12 12", "##.. ..## .... ....");
        draws("a third of a row up, to the left", "4", "line 36 12 0 0 12", "##.. ..## .... ....");
        draws("a third of a row up, to the right", "4", "line 0 12 36 0 12", "..## ##.. .... ....");
        draws("a third of a row down, to the left", "4", "line 36 0 0 12 12", "..## ##.. .... ....");
        draws("a third of a column to the right, downward", "4", "line 0 0 12 36 12", "#... #... .#.. .#..");
        draws("a third of a column to the left, upward", "4", "line 12 36 0 0 12", "#... #... .#.. .#..");
        draws("a third of a column to the left, downward", "4", "line 12 0 0 36 12", ".#.. .#.. #... #...");
        draws("half a row down is a whole one", "4", "line 0 0 24 12 12", "#... .##. .... ....");
        draws("half a row up is none, to the left", "4", "line 24 12 0 0 12", "#... .##. .... ....");
        draws("half a row up is none, to the right", "4", "line 0 12 24 0 12", "..#. ##.. .... ....");
        draws("half a row down is a whole one, to the left", "4", "line 24 0 0 12 12", "..#. ##.. .... ....");
        draws("half a column to the right is a whole one", "4", "line 0 0 12 24 12", "#... .#.. .#.. ....");
        draws("half a column to the left is none", "4", "line 12 0 0 24 12", ".#.. .#.. #... ....");
        draws("two thirds of a row down, away from the corner", "6", "line 8 8 32 24 8", "...... .#.... ..##.. ....#. ...... ......");
        draws("two thirds of a row up, away from the corner", "6", "line 32 24 8 8 8", "...... .#.... ..##.. ....#. ...... ......");
        draws("two thirds of a column on, away from the corner", "6", "line 8 8 24 32 8", "...... .#.... ..#... ..#... ...#.. ......");
        draws("two thirds of a column back, away from the corner", "6", "line 24 32 8 8 8",
                "...... .#.... ..#... ..#... ...#.. ......");
        draws("a line's points are snapped: just less than half a pixel", "4", "line 5 5 41 5 1", "#### .... .... ....");
        draws("a line's points are snapped: half a pixel", "4", "line 6 6 42 6 1", ".... .### .... ....");
    }

    private static void lineStrokes() {
        draws("the square of the stroke 1", "4", "line 12 12 12 12 12", ".... .#.. .... ....");
        draws("the square of the stroke 2 begins at the pixel", "4 extra 1", "line 12 12 12 12 12", ".... .##. .##. ....");
        draws("the square of the stroke 3 begins one pixel ahead", "4 extra 2", "line 12 12 12 12 12", "###. ###. ###. ....");
        draws("the square of the stroke 4 begins one pixel ahead", "8 extra 2", "line 24 24 24 24 12",
                "........ ........ ........ ...####. ...####. ...####. ...####. ........");
        edge(24, "the square of the stroke 5 begins two pixels ahead", () -> {
            IconSetBuilder x = of("size 12 extra 2; part p line 24 20 24 20 12; icon i p;");
            int[] measures = {25, 173, 1, 0, 4, 3, 8, 7};
            for (int what = 0; what <= 7; what++) {
                due(x.measure(0, 0, what), measures[what]);
            }
        });
        draws("a line's stroke that would be 0 is 1", "4", "line 12 12 12 12 1", ".... .#.. .... ....");
        draws("a line's stroke that would be -2 is 1", "4 extra -2", "line 12 12 24 12 1", ".... .##. .... ....");
        draws("each pixel of a line has its square", "6 extra 1", "line 0 0 16 16 8", "##.... ###... .###.. ..##.. ...... ......");
    }

    private static void linesOutside() {
        draws("both points of a line are moved", "4", "line 0 0 36 12 12", "12 24", ".... .... .##. ...#");
        draws("a line goes out to the right", "4", "line 0 0 48 0 12", "12 12", ".... .### .... ....");
        draws("a line comes in from the left", "4", "line 0 0 48 48 12", "-12 0", ".... #... .#.. ..#.");
        draws("a line goes out at the top", "4", "line 0 36 36 0 12", "0 -24", ".#.. #... .... ....");
        draws("a line one row below the last one", "4", "line 0 48 48 48 12", NO_INK_OF_4);
        draws("a line one column behind the last one", "4", "line 48 0 48 48 12", NO_INK_OF_4);
        draws("the stroke 2 of a line one row below does not reach in", "4 extra 1", "line 0 48 48 48 12", NO_INK_OF_4);
        draws("the stroke 3 of a line one row below reaches in", "4 extra 2", "line 0 48 48 48 12", ".... .... .... ####");
        draws("the stroke 3 of a line one column behind reaches in", "4 extra 2", "line 48 0 48 48 12", "...# ...# ...# ...#");
        draws("the stroke 2 of a line one column ahead reaches in", "4 extra 1", "line 0 0 0 48 12", "-12 0", "#... #... #... #...");
        draws("the stroke 2 of a line one row above reaches in", "4 extra 1", "line 0 0 48 0 12", "0 -12", "#### .... .... ....");
        draws("the stroke 1 of a line one column ahead does not reach in", "4", "line 0 0 0 48 12", "-12 0", NO_INK_OF_4);
        draws("minus half a pixel of a line is 0", "4", "line 0 0 0 0 12", "-6 -6", "#... .... .... ....");
        draws("a little less than minus half a pixel of a line is -1", "4", "line 0 0 0 0 12", "-7 0", NO_INK_OF_4);
        draws("the part of a line that lies outside counts for its pixels inside", "4", "line 0 0 48 24 12", "-24 -12",
                "#... .##. .... ....");
    }

    private static void severalShapesAndUses() {
        edge(24, "all 6 uses draw all 6 shapes", () -> {
            StringBuilder shapes = new StringBuilder();
            StringBuilder uses = new StringBuilder();
            for (int i = 0; i < 6; i++) {
                shapes.append(i == 0 ? "" : ",").append("bar ").append(6 * i).append(" 0 1 1");
                uses.append(i == 0 ? "" : ",").append("p at 6 ").append(6 * i);
            }
            IconSetBuilder x = of("size 8; part p " + shapes + "; icon i " + uses + ";");
            same(rows(x, 0, 0), ".######. .######. .######. .######. .######. .######. ........ ........");
        });
        edge(24, "what two shapes ink is inked once", () -> {
            IconSetBuilder x = of("size 4; part p bar 0 0 24 12, bar 12 0 24 12; icon i p, p;");
            same(rows(x, 0, 0), "###. .... .... ....");
            due(x.measure(0, 0, 0), 3);
        });
        edge(24, "an icon without uses has no ink", () -> {
            IconSetBuilder x = ALL_AND_NONE.make();
            same(rows(x, 1, 0), NO_INK_OF_4);
        });
        edge(24, "each size has its own extra", () -> {
            IconSetBuilder x = of("size 4; size 6 extra 1; part p line 0 0 0 0 8; icon i p;");
            due(x.measure(0, 0, 0), 1);
            due(x.measure(0, 1, 0), 4);
        });
    }

    // ---- promise 25

    private static void measureArguments() {
        for (int what = 0; what <= 7; what++) {
            int w = what;
            int[] all = {16, 1000, 1, 0, 0, 0, 3, 3};
            int[] greatest = {1024, 1000, 1, 0, 0, 0, 31, 31};
            int[] none = {0, 0, 0, 0, -1, -1, -1, -1};
            range(25, "icon for what " + what, ALL_AND_NONE, (x, v) -> x.measure(v, 0, w)).fits(0, all[what])
                    .fits(1, none[what]).refuses(INDEX, -1, 2);
            range(25, "size for what " + what, ALL_AND_NONE, (x, v) -> x.measure(0, v, w)).fits(0, all[what])
                    .fits(2, greatest[what]).refuses(INDEX, -1, 3);
        }
        range(25, "what", ALL_AND_NONE, (x, v) -> x.measure(0, 0, v)).fits(0, 16).fits(7, 3).refuses(ARGUMENT, -1, 8);
        range(25, "what of a lively set", LIVELY, (x, v) -> x.measure(1, 0, v)).fits(0, 0).fits(7, -1).refuses(ARGUMENT, -1, 8);
        range(25, "icon of none", start("size 8;"), (x, v) -> x.measure(v, 0, 0)).refuses(INDEX, -1, 0);
        range(25, "size of none", start("icon i;"), (x, v) -> x.measure(0, v, 0)).refuses(INDEX, -1, 0);
        refusal(25, "two exceptions: no such icon, what too large", LIVELY, INDEX, x -> x.measure(3, 0, 8));
        refusal(25, "two exceptions: no such size, what too small", LIVELY, INDEX, x -> x.measure(0, 3, -1));
    }

    private static void measures(String sentence, String set, int icon, int what, int value) {
        answer(25, sentence, start(set), value, x -> x.measure(icon, 0, what));
    }

    private static void inkAndWeight() {
        measures("the weight 48.6 is 48", "size 12; part p bar 0 0 28 4; icon i p;", 0, 1, 48);
        measures("the weight 0.98 is 0", "size 32; part p bar 0 0 1 1; icon i p;", 0, 1, 0);
        measures("the weight 1.95 is 1", "size 32; part p bar 0 0 3 1; icon i p;", 0, 1, 1);
        String allButOne = "size 32; part p bar 0 0 48 47, bar 0 47 47 1; icon i p;";
        measures("the ink of all pixels but one", allButOne, 0, 0, 1023);
        measures("the weight 999.02 is 999", allButOne, 0, 1, 999);
        measures("the weight of a quarter is 250", "size 4; part p bar 0 0 24 24; icon i p;", 0, 1, 250);
        measures("the ink counts no pixel outside of the square", "size 4; part p bar 36 36 48 48; icon i p;", 0, 0, 1);
    }

    private static void extents() {
        edge(25, "four unlike edges of the ink", () -> {
            IconSetBuilder x = of("size 8; part p bar 6 12 18 30; icon i p;");
            int[] measures = {15, 234, 1, 0, 1, 2, 3, 6};
            for (int what = 0; what <= 7; what++) {
                due(x.measure(0, 0, what), measures[what]);
            }
        });
        edge(25, "one pixel in each corner", () -> {
            IconSetBuilder x = of("size 32; part p bar 0 0 1 1; icon a p; icon b p at 47 0; icon c p at 0 47; icon d p at 47 47;");
            for (int icon = 0; icon < 4; icon++) {
                for (int what = 4; what <= 7; what++) {
                    due(x.measure(icon, 0, what), what % 2 == 0 ? icon % 2 * 31 : icon / 2 * 31);
                }
            }
        });
        edge(25, "the first and the last ink of two pixels that lie across", () -> {
            IconSetBuilder x = of("size 4; part p bar 0 0 1 1; icon i p at 12 36, p at 24 0;");
            int[] extents = {1, 0, 2, 3};
            for (int what = 4; what <= 7; what++) {
                due(x.measure(0, 0, what), extents[what - 4]);
            }
        });
        edge(25, "ink that lies wholly outside is no ink", () -> {
            IconSetBuilder x = of("size 4; part p bar 0 0 48 48; icon i p at 48 0;");
            for (int what = 0; what <= 7; what++) {
                due(x.measure(0, 0, what), what < 4 ? 0 : -1);
            }
        });
    }

    private static String dots(String... places) {
        StringBuilder text = new StringBuilder("size 6; part d bar 0 0 1 1; icon i");
        for (int i = 0; i < places.length; i++) {
            text.append(i == 0 ? " d at " : ", d at ").append(places[i]);
        }
        return text.append(';').toString();
    }

    private static void pieces() {
        measures("no ink, no piece", dots(), 0, 2, 0);
        measures("one pixel is a piece", dots("8 8"), 0, 2, 1);
        measures("neighbors beside are one piece", dots("8 8", "16 8"), 0, 2, 1);
        measures("neighbors above are one piece", dots("8 8", "8 16"), 0, 2, 1);
        measures("neighbors at the lower right are one piece", dots("8 8", "16 16"), 0, 2, 1);
        measures("neighbors at the lower left are one piece", dots("16 8", "8 16"), 0, 2, 1);
        measures("a column between makes two pieces", dots("8 8", "24 8"), 0, 2, 2);
        measures("a row between makes two pieces", dots("8 8", "8 24"), 0, 2, 2);
        measures("a column between makes two pieces, one row down", dots("8 8", "24 16"), 0, 2, 2);
        measures("a row between makes two pieces, one column on", dots("8 8", "16 24"), 0, 2, 2);
        measures("the last pixel of a row and the first one of the next row are apart", dots("40 8", "0 16"), 0, 2, 2);
        measures("the last pixel of a row and the first one of it are apart", dots("40 8", "0 8"), 0, 2, 2);
        measures("pieces in all four corners", dots("0 0", "40 0", "0 40", "40 40"), 0, 2, 4);
        measures("a piece that is connected by its last pixel alone", dots("0 0", "0 16", "8 8"), 0, 2, 1);
        measures("a piece in the form of a U", dots("0 0", "0 8", "8 16", "16 8", "16 0"), 0, 2, 1);
        measures("a piece in the form of an arch", dots("0 16", "0 8", "8 0", "16 8", "16 16"), 0, 2, 1);
        measures("a piece that goes on to the left of where it begins", "size 6; part p bar 40 0 8 8, bar 0 8 48 8; icon i p;", 0, 2, 1);
        measures("a piece in the form of a U through the last of 32 rows",
                "size 32; part p bar 0 0 1 48, bar 0 47 48 1, bar 47 0 1 48; icon i p;", 0, 2, 1);
        measures("a piece in the form of an arch through the first of 32 rows",
                "size 32; part p bar 0 0 1 48, bar 0 0 48 1, bar 47 0 1 48; icon i p;", 0, 2, 1);
        measures("pieces in all four corners of 32 rows",
                "size 32; part p bar 0 0 1 1; icon i p, p at 47 0, p at 0 47, p at 47 47;", 0, 2, 4);
        // upright bars two pixels apart, connected below and above by turns
        measures("a piece with many turns up and down", "size 16; part p bar 0 0 3 48, bar 6 0 3 48, bar 0 45 9 3, bar 6 0 9 3;"
                + " icon i p, p at 12 0, p at 24 0, p at 36 0;", 0, 2, 1);
        measures("a piece around another one",
                "size 12; part p box 0 0 48 48 1, box 16 16 16 16 1; icon i p;", 0, 2, 2);
        measures("as many pieces as can be drawn", "size 32; part p " + repeated("bar 0 0 1 1", ",", 5)
                + ", bar 40 40 1 1; icon i p, p at 3 3, p at 6 0, p at 0 6, p at 6 6;", 0, 2, 10);
    }

    private static void holes() {
        measures("no ink, no hole", dots(), 0, 3, 0);
        measures("all ink, no hole", "size 6; part p bar 0 0 48 48; icon i p;", 0, 3, 0);
        measures("a pixel that four diagonal ones shut in", dots("8 16", "24 16", "16 8", "16 24"), 0, 3, 1);
        measures("a pixel that is open on one side", dots("8 16", "24 16", "16 8"), 0, 3, 0);
        measures("a hole with the least pixels", "size 4; part p box 0 0 36 36 1; icon i p;", 0, 3, 1);
        String two = "size 6; part p bar 8 8 32 8, bar 8 32 32 8, bar 8 8 8 32, bar 32 8 8 32, bar 24 16 8 8, bar 16 24 8 8; icon i p;";
        edge(25, "pixels without ink that touch at a corner are two holes", () -> {
            IconSetBuilder x = of(two);
            same(rows(x, 0, 0), "...... .####. .#.##. .##.#. .####. ......");
            due(x.measure(0, 0, 3), 2);
            due(x.measure(0, 0, 2), 1);
            x.removeShape(0, 4);
            due(x.measure(0, 0, 3), 1);
        });
        edge(25, "pixels without ink that touch at the other corner are two holes", () -> {
            IconSetBuilder x = of(two.replace("bar 24 16 8 8, bar 16 24 8 8", "bar 16 16 8 8, bar 24 24 8 8"));
            same(rows(x, 0, 0), "...... .####. .##.#. .#.##. .####. ......");
            due(x.measure(0, 0, 3), 2);
        });
        measures("a hole does not leak through the corner of its frame", "size 6; part p bar 16 8 16 8, bar 8 16 8 16,"
                + " bar 32 16 8 16, bar 16 32 16 8; icon i p;", 0, 3, 1);
        measures("a hole around a piece, and one in it",
                "size 12; part p box 0 0 48 48 1, box 16 16 16 16 1; icon i p;", 0, 3, 2);
        measures("a hole from the second to the last column but one", "size 32; part p box 0 0 48 48 1; icon i p;", 0, 3, 1);
        measures("a hole that goes on to the left of where it begins",
                "size 6; part p box 0 0 48 48 8, bar 8 8 24 8, bar 8 24 32 16; icon i p;", 0, 3, 1);
        measures("a hole in the form of a U", "size 32; part p box 0 0 48 48 1, bar 21 0 6 40; icon i p;", 0, 3, 1);
        measures("a hole in the form of an arch", "size 32; part p box 0 0 48 48 1, bar 21 8 6 40; icon i p;", 0, 3, 1);
        // a frame with bars from above and from below by turns: one way through between them
        measures("a hole with many turns up and down", "size 16; part f box 0 0 48 48 3; part p bar 6 3 3 39, bar 12 6 3 39;"
                + " icon i f, p, p at 12 0, p at 24 0;", 0, 3, 1);
        measures("two holes beside each other", "size 6; part p box 0 0 24 48 8, box 16 0 32 48 8; icon i p;", 0, 3, 2);
        measures("the group outside of a ring is no hole", "size 6; part p box 8 8 32 32 8; icon i p;", 0, 3, 1);
    }

    /** A pixel without ink that is shut in, but at an edge, or that one edge keeps from being a hole. */
    private static void holesAtTheEdges() {
        measures("a group at the first row is no hole", dots("8 0", "24 0", "16 8"), 0, 3, 0);
        measures("a group at the last row is no hole", dots("8 40", "24 40", "16 32"), 0, 3, 0);
        measures("a group at the first column is no hole", dots("0 8", "0 24", "8 16"), 0, 3, 0);
        measures("a group at the last column is no hole", dots("40 8", "40 24", "32 16"), 0, 3, 0);
        measures("a group in the first corner is no hole", dots("8 0", "0 8"), 0, 3, 0);
        measures("a group in the last corner is no hole", dots("32 40", "40 32"), 0, 3, 0);
        measures("a hole beside the first row", dots("8 8", "24 8", "16 0", "16 16"), 0, 3, 1);
        measures("a hole beside the last row", dots("8 32", "24 32", "16 24", "16 40"), 0, 3, 1);
        measures("a hole beside the first column", dots("0 8", "16 8", "8 0", "8 16"), 0, 3, 1);
        measures("a hole beside the last column", dots("40 32", "24 32", "32 24", "32 40"), 0, 3, 1);
        measures("a frame whose lower edge lies outside has no hole", "size 6; part p box 8 8 32 40 8; icon i p at 0 8;", 0, 3, 0);
        measures("a frame whose right edge lies outside has no hole", "size 6; part p box 8 8 40 32 8; icon i p at 8 0;", 0, 3, 0);
        measures("a frame whose left edge lies outside has no hole", "size 6; part p box 0 8 32 32 8; icon i p at -8 0;", 0, 3, 0);
        measures("a frame whose upper edge lies outside has no hole", "size 6; part p box 8 0 32 32 8; icon i p at 0 -8;", 0, 3, 0);
    }

    // ---- promise 26

    private static void mirrored(String sentence, String set, boolean leftToRight, boolean upsideDown) {
        edge(26, sentence, () -> {
            IconSetBuilder x = of(set);
            due(bit(x.isMirrored(0, 0, false)), bit(leftToRight));
            due(bit(x.isMirrored(0, 0, true)), bit(upsideDown));
        });
    }

    private static void isMirrored() {
        range(26, "icon", ALL_AND_NONE, (x, v) -> bit(x.isMirrored(v, 0, false))).fits(0, 1).fits(1, 1).refuses(INDEX, -1, 2);
        range(26, "size", ALL_AND_NONE, (x, v) -> bit(x.isMirrored(0, v, true))).fits(0, 1).fits(2, 1).refuses(INDEX, -1, 3);
        range(26, "icon of a lively set", LIVELY, (x, v) -> bit(x.isMirrored(v, 0, true))).refuses(INDEX, -1, 3);
        range(26, "size of a lively set", LIVELY, (x, v) -> bit(x.isMirrored(0, v, false))).refuses(INDEX, -1, 3);
        Start unlike = start("size 4; size 5; part p bar 20 0 8 48; part q bar 0 0 1 1; icon a p; icon b q; icon c;");
        range(26, "icon among unlike ones", unlike, (x, v) -> bit(x.isMirrored(v, 1, false))).fits(0, 1).fits(1, 0).fits(2, 1);
        range(26, "size at which the icon is unlike", unlike, (x, v) -> bit(x.isMirrored(0, v, false))).fits(0, 0).fits(1, 1);
        mirrored("no ink is the same either way", dots(), true, true);
        mirrored("the first column alone", "size 6; part p bar 0 0 8 48; icon i p;", false, true);
        mirrored("the first row alone", "size 6; part p bar 0 0 48 8; icon i p;", true, false);
        mirrored("the first and the last column", "size 6; part p bar 0 0 8 48; icon i p, p at 40 0;", true, true);
        mirrored("a pixel in a corner", dots("0 0"), false, false);
        mirrored("pixels in two corners above", dots("0 0", "40 0"), true, false);
        mirrored("pixels in two corners at the left", dots("0 0", "0 40"), false, true);
        mirrored("pixels in corners across", dots("0 0", "40 40"), false, false);
        mirrored("pixels in all corners", dots("0 0", "40 0", "0 40", "40 40"), true, true);
        mirrored("two of the four pixels in the middle, beside", dots("16 16", "24 16"), true, false);
        mirrored("two of the four pixels in the middle, one above the other", dots("16 16", "16 24"), false, true);
        mirrored("a pixel beside the middle of an even number", dots("16 16"), false, false);
        mirrored("the pixel in the middle of an odd number", "size 5; part p bar 20 20 1 1; icon i p;", true, true);
        mirrored("a pixel beside the middle of an odd number", "size 5; part p bar 30 20 1 1; icon i p;", false, true);
        mirrored("a pixel above the middle of an odd number", "size 5; part p bar 20 10 1 1; icon i p;", true, false);
        mirrored("corners of the greatest size", "size 32; part p bar 0 0 1 1; icon i p, p at 47 0;", true, false);
        mirrored("a line in the middle of the grid, drawn beside the middle of the pixels",
                "size 4; part p line 24 0 24 48 12; icon i p;", false, true);
        edge(26, "an icon may be the same at one size and not at another one", () -> {
            IconSetBuilder x = of("size 4; size 5; part p bar 20 0 8 48; icon i p;");
            same(rows(x, 0, 0), "..#. ..#. ..#. ..#.");
            no(x.isMirrored(0, 0, false));
            yes(x.isMirrored(0, 1, false));
        });
    }

    // ---- promise 27

    private static void difference() {
        range(27, "icon", ALL_AND_NONE, (x, v) -> x.difference(v, 1, 0)).fits(0, 16).fits(1, 0).refuses(INDEX, -1, 2);
        range(27, "other", ALL_AND_NONE, (x, v) -> x.difference(0, v, 0)).fits(0, 0).fits(1, 16).refuses(INDEX, -1, 2);
        range(27, "size", ALL_AND_NONE, (x, v) -> x.difference(1, 0, v)).fits(0, 16).fits(2, 1024).refuses(INDEX, -1, 3);
        range(27, "icon of a lively set", LIVELY, (x, v) -> x.difference(v, 0, 0)).refuses(INDEX, -1, 3);
        range(27, "other of a lively set", LIVELY, (x, v) -> x.difference(0, v, 0)).refuses(INDEX, -1, 3);
        range(27, "size of a lively set", LIVELY, (x, v) -> x.difference(0, 1, v)).refuses(INDEX, -1, 3);
        Start four = start("size 4; part p bar 0 0 24 12; part q bar 0 36 48 12; icon a p; icon b p at 12 0; icon c p; icon d q;"
                + " icon e p at 48 0; icon f;");
        answer(27, "the same icon", four, 0, x -> x.difference(3, 3, 0));
        answer(27, "two icons with the same ink", four, 0, x -> x.difference(0, 2, 0));
        answer(27, "two icons without ink", four, 0, x -> x.difference(4, 5, 0));
        answer(27, "ink that overlaps in part", four, 2, x -> x.difference(0, 1, 0));
        answer(27, "ink that overlaps in part, the other way round", four, 2, x -> x.difference(1, 0, 0));
        answer(27, "ink that does not overlap", four, 6, x -> x.difference(0, 3, 0));
        answer(27, "ink and no ink", four, 4, x -> x.difference(3, 5, 0));
        answer(27, "no ink and ink", four, 4, x -> x.difference(5, 3, 0));
    }

    // ---- promise 28

    private static void alone() {
        Start uses = start("size 4; size 32; part p bar 0 0 24 12; part q bar 0 0 48 48; part r bar 0 0 12 12, bar 0 0 12 12;"
                + " icon a p, p at 12 0; icon b p, p; icon c p, q; icon d q; icon e r; icon f p, p at 12 0, p at 24 0;"
                + " icon g p, p at 0 48; icon h;");
        range(28, "icon", uses, (x, v) -> x.alone(v, 0, 0)).fits(0, 1).fits(6, 2).refuses(INDEX, -1, 8, 7);
        range(28, "use of two", uses, (x, v) -> x.alone(0, v, 0)).fits(0, 1).fits(1, 1).refuses(INDEX, -1, 2);
        range(28, "use of none", uses, (x, v) -> x.alone(7, v, 0)).refuses(INDEX, -1, 0);
        range(28, "size", uses, (x, v) -> x.alone(3, 0, v)).fits(0, 16).fits(1, 1024).refuses(INDEX, -1, 2);
        range(28, "icon of a lively set", LIVELY, (x, v) -> x.alone(v, 0, 0)).refuses(INDEX, -1, 3, 1);
        range(28, "use of a lively set", LIVELY, (x, v) -> x.alone(2, v, 0)).refuses(INDEX, -1, 3);
        range(28, "size of a lively set", LIVELY, (x, v) -> x.alone(0, 0, v)).refuses(INDEX, -1, 3);
        answer(28, "the only use inks all pixels alone", uses, 16, x -> x.alone(3, 0, 0));
        answer(28, "the same use twice: neither is alone", uses, 0, x -> x.alone(1, 1, 0));
        answer(28, "a use that lies in another one", uses, 0, x -> x.alone(2, 0, 0));
        answer(28, "a use around another one", uses, 14, x -> x.alone(2, 1, 0));
        answer(28, "a pixel of two shapes of one use is inked by the use alone", uses, 1, x -> x.alone(4, 0, 0));
        answer(28, "the first of three uses in a row", uses, 1, x -> x.alone(5, 0, 0));
        answer(28, "the one between two uses", uses, 0, x -> x.alone(5, 1, 0));
        answer(28, "the last of three uses in a row", uses, 1, x -> x.alone(5, 2, 0));
        // with the extra 1 the line of p has 4 pixels, one of them that of q
        Start extra = start("size 6 extra 1; part p line 0 0 0 0 8; part q bar 0 0 8 8; icon a p, q;");
        answer(28, "the extra of the size counts for the use", extra, 3, x -> x.alone(0, 0, 0));
        answer(28, "the extra of the size counts for the other uses", extra, 0, x -> x.alone(0, 1, 0));
        answer(28, "a use that lies outside", uses, 0, x -> x.alone(6, 1, 0));
    }
}
