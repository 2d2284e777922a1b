/** The edges of promises 18 to 23: a case for each sentence. */
public final class EdgeIconsTest extends Checks {
    /** Icons with 3, no and 6 uses of two parts. */
    private static final Start USES = start("part p bar 0 0 1 1; part q bar 1 1 1 1;"
            + " icon a p at 1 2, q at 3 4, p at -5 -6; icon b; icon c q,q,q,q,q,q at 7 8;");

    public static void main(String[] args) {
        findIcon();
        uses();
        use();
        addUse();
        addUseOfAFullIcon();
        moveUse();
        removeUse();
        finish("EdgeIconsTest", 18, 23);
    }

    private static void useIs(IconSetBuilder x, int icon, int use, int part, int right, int down) {
        due(x.use(icon, use, 0), part);
        due(x.use(icon, use, 1), right);
        due(x.use(icon, use, 2), down);
    }

    private static void findIcon() {
        Start names = start("part p bar 0 0 1 1; part pa bar 0 0 1 1; icon a; icon z; icon aaaaaaaa; icon zzzzzzzz; icon ab;");
        answer(18, "the first letter", names, 0, x -> x.findIcon(1));
        answer(18, "the last letter", names, 1, x -> x.findIcon(26));
        answer(18, "8 first letters", names, 2, x -> x.findIcon(name("aaaaaaaa")));
        answer(18, "8 last letters", names, 3, x -> x.findIcon(name("zzzzzzzz")));
        answer(18, "the last letter stands in the lowest group", names, 4, x -> x.findIcon(1 << 5 | 2));
        answer(18, "the letters of an icon the other way round", names, -1, x -> x.findIcon(2 << 5 | 1));
        answer(18, "7 of 8 letters", names, -1, x -> x.findIcon(name("zzzzzzz")));
        answer(18, "9 letters, the last 8 of them an icon's", names, -1, x -> x.findIcon(26L << 40 | name("zzzzzzzz")));
        answer(18, "a bit above 8 letters", names, -1, x -> x.findIcon(1L << 62 | 1));
        answer(18, "the sign bit and an icon's letters", names, -1, x -> x.findIcon(Long.MIN_VALUE | 1));
        answer(18, "a letter with an empty group behind it", names, -1, x -> x.findIcon(1 << 5));
        answer(18, "a group over 26", names, -1, x -> x.findIcon(27));
        answer(18, "the number ahead of the first letter", names, -1, x -> x.findIcon(0));
        answer(18, "a negative number", names, -1, x -> x.findIcon(-1));
        answer(18, "a number that has an icon's lower half", names, -1, x -> x.findIcon(1L << 32 | 1));
        answer(18, "the low end of long", names, -1, x -> x.findIcon(Long.MIN_VALUE));
        answer(18, "the high end of long", names, -1, x -> x.findIcon(Long.MAX_VALUE));
        answer(18, "the name of a part", names, -1, x -> x.findIcon(name("p")));
        answer(18, "no letter in a set without icons", EMPTY, -1, x -> x.findIcon(0));
        answer(18, "the first of 8 icons", FULL, 0, x -> x.findIcon(1));
        answer(18, "the last of 8 icons", FULL, 7, x -> x.findIcon(8));
        answer(18, "a ninth name", FULL, -1, x -> x.findIcon(9));
        answer(18, "an icon of the same name as a part", start("part p bar 0 0 1 1; icon i; icon p;"), 1, x -> x.findIcon(name("p")));
        answer(18, "an icon that undo brought back", LIVELY, 2, x -> {
            x.load(0);
            x.undo();
            return x.findIcon(name("c"));
        });
    }

    private static void uses() {
        range(19, "icon", LIVELY, (x, v) -> x.uses(v)).fits(0, 2).fits(1, 0).fits(2, 3).refuses(INDEX, -1, 3);
        range(19, "icon of none", start("part p bar 0 0 1 1;"), (x, v) -> x.uses(v)).refuses(INDEX, -1, 0);
        range(19, "icon of eight", FULL, (x, v) -> x.uses(v)).fits(0, 6).fits(7, 6).refuses(INDEX, -1, 8);
        edge(19, "0 to 6 uses, one after the other", () -> {
            IconSetBuilder x = of("part p bar 0 0 1 1; icon i;");
            for (int use = 0; use < 6; use++) {
                due(x.uses(0), use);
                x.addUse(0, 0, 0, 0);
            }
            due(x.uses(0), 6);
            for (int left = 5; left >= 0; left--) {
                x.removeUse(0, 0);
                due(x.uses(0), left);
            }
        });
    }

    private static void use() {
        range(20, "icon", LIVELY, (x, v) -> x.use(v, 0, 1)).fits(0, 3).fits(2, -48).refuses(INDEX, -1, 3, 1);
        range(20, "icon of eight", FULL, (x, v) -> x.use(v, 5, 0)).fits(0, 0).fits(7, 7).refuses(INDEX, -1, 8);
        range(20, "use of three", USES, (x, v) -> x.use(0, v, 2)).fits(0, 2).fits(2, -6).refuses(INDEX, -1, 3);
        range(20, "use of none", USES, (x, v) -> x.use(1, v, 0)).refuses(INDEX, -1, 0);
        range(20, "use of six", USES, (x, v) -> x.use(2, v, 1)).fits(0, 0).fits(5, 7).refuses(INDEX, -1, 6);
        range(20, "what", LIVELY, (x, v) -> x.use(2, 0, v)).fits(0, 1).fits(1, -48).fits(2, 48).refuses(ARGUMENT, -1, 3);
        refusal(20, "two exceptions: no such icon, what too large", LIVELY, INDEX, x -> x.use(3, 0, 3));
        refusal(20, "two exceptions: no such use, what too small", LIVELY, INDEX, x -> x.use(0, 2, -1));
        edge(20, "all numbers of several uses", () -> {
            IconSetBuilder x = USES.make();
            useIs(x, 0, 0, 0, 1, 2);
            useIs(x, 0, 1, 1, 3, 4);
            useIs(x, 0, 2, 0, -5, -6);
            useIs(x, 2, 4, 1, 0, 0);
            useIs(x, 2, 5, 1, 7, 8);
        });
    }

    private static void addUse() {
        range(21, "icon", LIVELY, (x, v) -> x.addUse(v, 0, 0, 0)).fits(0, 2).fits(2, 3).refuses(INDEX, -1, 3);
        range(21, "part", LIVELY, (x, v) -> x.addUse(1, v, 0, 0)).fits(0, 0).fits(2, 0).refuses(INDEX, -1, 3);
        range(21, "part of none", start("icon i;"), (x, v) -> x.addUse(0, v, 0, 0)).refuses(INDEX, -1, 0);
        range(21, "dx", LIVELY, (x, v) -> x.addUse(0, 0, v, 0)).fits(-48, 2).fits(48, 2).refuses(ARGUMENT, -49, 49);
        range(21, "dy", LIVELY, (x, v) -> x.addUse(0, 0, 0, v)).fits(-48, 2).fits(48, 2).refuses(ARGUMENT, -49, 49);
        refusal(21, "two exceptions: no such icon, dx too large", LIVELY, INDEX, x -> x.addUse(3, 0, 49, 0));
        refusal(21, "two exceptions: no such part, dy too small", LIVELY, INDEX, x -> x.addUse(0, 3, 0, -49));
        refusal(21, "two exceptions: neither icon nor part", LIVELY, INDEX, x -> x.addUse(-1, -1, 0, 0));
        edge(21, "the use has the part and the shifts at both ends", () -> {
            IconSetBuilder x = USES.make();
            due(x.addUse(0, 1, -48, 48), 3);
            due(x.addUse(0, 0, 48, -48), 4);
            useIs(x, 0, 3, 1, -48, 48);
            useIs(x, 0, 4, 0, 48, -48);
        });
        edge(21, "the first use of an icon without a use", () -> {
            IconSetBuilder x = USES.make();
            due(x.addUse(1, 1, 1, 2), 0);
            useIs(x, 1, 0, 1, 1, 2);
        });
        edge(21, "the other uses and icons stay as they are", () -> {
            IconSetBuilder x = USES.make();
            x.addUse(1, 1, 9, 9);
            useIs(x, 0, 2, 0, -5, -6);
            useIs(x, 2, 0, 1, 0, 0);
            useIs(x, 2, 5, 1, 7, 8);
            due(x.uses(0), 3);
            due(x.uses(2), 6);
        });
        answer(21, "the same use again is another use", USES, 3, x -> x.addUse(0, 0, 1, 2));
    }

    private static void addUseOfAFullIcon() {
        Start five = start("part p bar 0 0 1 1; icon a p,p,p,p,p; icon b;");
        answer(21, "a sixth use just fits", five, 5, x -> x.addUse(0, 0, 0, 0));
        refusal(21, "a seventh use does not fit", USES, STATE, x -> x.addUse(2, 0, 0, 0));
        refusal(21, "a seventh use of an icon between others", FULL, STATE, x -> x.addUse(3, 7, -48, 48));
        answer(21, "another icon has 6 uses", USES, 0, x -> x.addUse(1, 0, 0, 0));
        answer(21, "there is room again when one of 6 uses is gone", USES, 5, x -> {
            x.removeUse(2, 3);
            return x.addUse(2, 0, 0, 0);
        });
        refusal(21, "two exceptions: dx too large, 6 uses", USES, ARGUMENT, x -> x.addUse(2, 0, 49, 0));
        refusal(21, "two exceptions: dy too small, 6 uses", USES, ARGUMENT, x -> x.addUse(2, 0, 0, -49));
        refusal(21, "two exceptions: no such part, 6 uses", USES, INDEX, x -> x.addUse(2, 2, 0, 0));
        refusal(21, "three exceptions: no such part, dx too large, 6 uses", USES, INDEX, x -> x.addUse(2, 2, 49, 0));
    }

    private static void moveUse() {
        range(22, "icon", LIVELY, (x, v) -> x.moveUse(v, 0, 0, 0)).fits(0, 0).fits(2, 1).refuses(INDEX, -1, 3, 1);
        range(22, "icon of eight", FULL, (x, v) -> x.moveUse(v, 5, 0, 0)).fits(0, 0).fits(7, 7).refuses(INDEX, -1, 8);
        range(22, "use of three", USES, (x, v) -> x.moveUse(0, v, 0, 0)).fits(0, 0).fits(1, 1).fits(2, 0).refuses(INDEX, -1, 3);
        range(22, "use of none", USES, (x, v) -> x.moveUse(1, v, 0, 0)).refuses(INDEX, -1, 0);
        range(22, "use of six", USES, (x, v) -> x.moveUse(2, v, 0, 0)).fits(0, 1).fits(5, 1).refuses(INDEX, -1, 6);
        range(22, "dx", LIVELY, (x, v) -> x.moveUse(0, 1, v, 0)).fits(-48, 1).fits(48, 1).refuses(ARGUMENT, -49, 49);
        range(22, "dy", LIVELY, (x, v) -> x.moveUse(0, 1, 0, v)).fits(-48, 1).fits(48, 1).refuses(ARGUMENT, -49, 49);
        refusal(22, "two exceptions: no such icon, dx too large", LIVELY, INDEX, x -> x.moveUse(3, 0, 49, 0));
        refusal(22, "two exceptions: no such use, dy too small", LIVELY, INDEX, x -> x.moveUse(0, 2, 0, -49));
        edge(22, "the shift is the new one, not one more", () -> {
            IconSetBuilder x = USES.make();
            x.moveUse(0, 0, 48, -48);
            useIs(x, 0, 0, 0, 48, -48);
            x.moveUse(0, 0, -48, 48);
            useIs(x, 0, 0, 0, -48, 48);
            x.moveUse(0, 0, 0, 0);
            useIs(x, 0, 0, 0, 0, 0);
        });
        edge(22, "the other uses of the icon and of the part stay", () -> {
            IconSetBuilder x = USES.make();
            due(x.moveUse(0, 1, 10, 11), 1);
            useIs(x, 0, 0, 0, 1, 2);
            useIs(x, 0, 1, 1, 10, 11);
            useIs(x, 0, 2, 0, -5, -6);
            useIs(x, 2, 0, 1, 0, 0);
            due(x.uses(0), 3);
        });
        answer(22, "the same shift again is a change", LIVELY, 3, x -> {
            x.moveUse(0, 0, 3, 4);
            return x.undo();
        });
    }

    private static void removeUse() {
        range(23, "icon", LIVELY, (x, v) -> x.removeUse(v, 0)).fits(0, 1).fits(2, 2).refuses(INDEX, -1, 3, 1);
        range(23, "icon of eight", FULL, (x, v) -> x.removeUse(v, 5)).fits(0, 5).fits(7, 5).refuses(INDEX, -1, 8);
        range(23, "use of three", USES, (x, v) -> x.removeUse(0, v)).fits(0, 2).fits(2, 2).refuses(INDEX, -1, 3);
        range(23, "use of none", USES, (x, v) -> x.removeUse(1, v)).refuses(INDEX, -1, 0);
        range(23, "use of six", USES, (x, v) -> x.removeUse(2, v)).fits(0, 5).fits(5, 5).refuses(INDEX, -1, 6);
        edge(23, "those behind the first one get lower numbers", () -> {
            IconSetBuilder x = USES.make();
            x.removeUse(0, 0);
            useIs(x, 0, 0, 1, 3, 4);
            useIs(x, 0, 1, 0, -5, -6);
            thrown(INDEX, () -> x.use(0, 2, 0));
        });
        edge(23, "the one before and the one behind a use between", () -> {
            IconSetBuilder x = USES.make();
            x.removeUse(0, 1);
            useIs(x, 0, 0, 0, 1, 2);
            useIs(x, 0, 1, 0, -5, -6);
        });
        edge(23, "none is behind the last one", () -> {
            IconSetBuilder x = USES.make();
            x.removeUse(0, 2);
            useIs(x, 0, 0, 0, 1, 2);
            useIs(x, 0, 1, 1, 3, 4);
        });
        edge(23, "the last one of six", () -> {
            IconSetBuilder x = USES.make();
            due(x.removeUse(2, 5), 5);
            useIs(x, 2, 4, 1, 0, 0);
            thrown(INDEX, () -> x.use(2, 5, 0));
        });
        edge(23, "all uses, one by one", () -> {
            IconSetBuilder x = USES.make();
            for (int left = 5; left >= 0; left--) {
                due(x.removeUse(2, left / 2), left);
            }
            thrown(INDEX, () -> x.removeUse(2, 0));
            due(x.uses(0), 3);
            due(x.count(2), 3);
        });
        edge(23, "the part of the last use stays", () -> {
            IconSetBuilder x = of("part p bar 1 2 3 4; icon i p;");
            x.removeUse(0, 0);
            due(x.count(1), 1);
            due(x.shape(0, 0, 4), 4);
            due(x.addUse(0, 0, 0, 0), 0);
        });
    }
}
