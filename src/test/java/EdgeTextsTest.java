import java.util.LinkedHashMap;
import java.util.Map;

/** The edges of promises 34 to 36 and of the document's rules for changes: a case for each sentence. */
public final class EdgeTextsTest extends Checks {
    /** A set with several changes, without an error and with nothing in the text buffer. */
    private static final Start CHANGED = () -> {
        IconSetBuilder x = of("size 8 extra 1; size 12 extra -1; size 16; part p bar 1 2 3 4, box 5 6 7 8 9, line 10 11 13 14 12;"
                + " part q bar 0 0 48 24; icon a p, q at 1 -2; icon b; icon c q at -48 48, p, p at 5 5;");
        x.setExtra(2, 2);
        x.moveUse(0, 1, 7, 8);
        x.writeIcon(0, 0);
        return x;
    };

    private static final Start CHANGED_BUT_NOT_WRITTEN = start("size 4; part p bar 0 0 48 48; icon i p;");

    public static void main(String[] args) {
        writeIcon();
        writeIconAgain();
        writtenByte();
        writtenTextStays();
        undoOfNothing();
        undoOfEight();
        undoAndNewChanges();
        undoOfEachChange();
        undoLeaves();
        whatIsNoChange();
        whatIsAChange();
        finish("EdgeTextsTest", 34, 36);
    }

    // ---- promise 34

    private static void writeIcon() {
        Start three = start("size 4; size 5; size 32; part p bar 0 0 48 48; icon a p; icon b; icon c p;");
        range(34, "icon", three, (x, v) -> x.writeIcon(v, 0)).fits(0, 20).fits(2, 20).refuses(INDEX, -1, 3);
        range(34, "size", three, (x, v) -> x.writeIcon(0, v)).fits(0, 20).fits(1, 30).fits(2, 1056).refuses(INDEX, -1, 3);
        range(34, "icon of a lively set", LIVELY, (x, v) -> x.writeIcon(v, 0)).refuses(INDEX, -1, 3);
        range(34, "size of a lively set", LIVELY, (x, v) -> x.writeIcon(0, v)).refuses(INDEX, -1, 3);
        range(34, "icon of none", start("size 8;"), (x, v) -> x.writeIcon(v, 0)).refuses(INDEX, -1, 0);
        range(34, "size of none", start("icon i;"), (x, v) -> x.writeIcon(0, v)).refuses(INDEX, -1, 0);
        edge(34, "a full stop for each pixel without ink", () -> same(written(three.make(), 1, 0), "....\n....\n....\n....\n"));
        edge(34, "a # for each inked pixel", () -> same(written(three.make(), 0, 0), "####\n####\n####\n####\n"));
        edge(34, "rows from above, pixels from the left", () -> {
            IconSetBuilder x = of("size 4; part p bar 12 0 12 12, bar 36 12 12 12, bar 0 36 12 12; icon i p;");
            same(written(x, 0, 0), ".#..\n...#\n....\n#...\n");
        });
        edge(34, "the bytes are 35, 46 and 10", () -> {
            IconSetBuilder x = of("size 4; part p bar 0 0 12 12; icon i p;");
            x.writeIcon(0, 0);
            due(x.writtenByte(0), 35);
            due(x.writtenByte(1), 46);
            due(x.writtenByte(4), 10);
        });
        edge(34, "a line feed behind each of 32 rows, also the last one", () -> {
            IconSetBuilder x = three.make();
            x.writeIcon(0, 2);
            for (int row = 0; row < 32; row++) {
                due(x.writtenByte(33 * row), '#');
                due(x.writtenByte(33 * row + 31), '#');
                due(x.writtenByte(33 * row + 32), 10);
            }
        });
        answer(34, "it is no change", LIVELY, 2, x -> {
            x.writeIcon(2, 2);
            return x.undo();
        });
    }

    private static void writeIconAgain() {
        Start two = start("size 4; size 32; part p bar 0 0 48 48; icon a p; icon b;");
        edge(34, "a shorter text in place of a longer one: no byte of that is left", () -> {
            IconSetBuilder x = two.make();
            x.writeIcon(0, 1);
            due(x.writeIcon(1, 0), 20);
            due(x.writtenByte(0), '.');
            due(x.writtenByte(19), 10);
            thrown(INDEX, () -> x.writtenByte(20));
            thrown(INDEX, () -> x.writtenByte(1055));
        });
        edge(34, "a longer text in place of a shorter one", () -> {
            IconSetBuilder x = two.make();
            x.writeIcon(1, 0);
            due(x.writeIcon(0, 1), 1056);
            due(x.writtenByte(0), '#');
            due(x.writtenByte(1055), 10);
            thrown(INDEX, () -> x.writtenByte(1056));
        });
        edge(34, "a refused call leaves the text that was written before", () -> {
            IconSetBuilder x = two.make();
            x.writeIcon(0, 0);
            thrown(INDEX, () -> x.writeIcon(1, 2));
            thrown(INDEX, () -> x.writeIcon(2, 1));
            due(x.writtenByte(0), '#');
            thrown(INDEX, () -> x.writtenByte(20));
        });
    }

    // ---- promise 35

    private static void writtenByte() {
        range(35, "index of no text", EMPTY, (x, v) -> x.writtenByte(v)).refuses(INDEX, -1, 0);
        range(35, "index of no text in a set", CHANGED_BUT_NOT_WRITTEN, (x, v) -> x.writtenByte(v)).refuses(INDEX, -1, 0);
        range(35, "index of a text of 72 bytes", CHANGED, (x, v) -> x.writtenByte(v)).fits(0, '#').fits(71, 10)
                .refuses(INDEX, -1, 72);
        range(35, "index of a text of 1056 bytes", FULL, (x, v) -> x.writtenByte(v)).fits(0, '#').fits(1055, 10)
                .refuses(INDEX, -1, 1056);
        Start shortest = () -> {
            IconSetBuilder x = of("size 4; icon i;");
            x.writeIcon(0, 0);
            return x;
        };
        range(35, "index of a text of 20 bytes", shortest, (x, v) -> x.writtenByte(v)).fits(0, '.').fits(3, '.').fits(4, 10)
                .fits(5, '.').fits(18, '.').fits(19, 10).refuses(INDEX, -1, 20);
    }

    private static void writtenTextStays() {
        Map<String, Call> calls = new LinkedHashMap<>();
        calls.putAll(changes());
        calls.putAll(questions());
        calls.put("a text with an error", x -> load(x, "?"));
        calls.put("undo", x -> x.undo());
        calls.put("a refused writeIcon", x -> bit(Trace.answer(y -> y.writeIcon(3, 0), x).equals(INDEX)));
        calls.forEach((name, call) -> edge(35, "the text stays as it was written after " + name, () -> {
            IconSetBuilder x = CHANGED.make();
            StringBuilder before = new StringBuilder();
            StringBuilder after = new StringBuilder();
            for (int index = 0; index < 72; index++) {
                before.append((char) x.writtenByte(index));
            }
            call.on(x);
            for (int index = 0; index < 72; index++) {
                after.append((char) x.writtenByte(index));
            }
            same(after.toString(), before.toString());
            thrown(INDEX, () -> x.writtenByte(72));
        }));
    }

    // ---- promise 36

    private static void undoOfNothing() {
        refusal(36, "no change was made", EMPTY, STATE, x -> x.undo());
        refusal(36, "the only change is undone", () -> {
            IconSetBuilder x = of("size 8;");
            x.undo();
            return x;
        }, STATE, x -> x.undo());
        refusal(36, "all of 8 changes are undone", () -> {
            IconSetBuilder x = FULL.make();
            for (int change = 0; change < 8; change++) {
                x.undo();
            }
            return x;
        }, STATE, x -> x.undo());
        refusal(36, "a text with an error was the only one", () -> {
            IconSetBuilder x = new IconSetBuilder();
            load(x, "size 8; ?");
            return x;
        }, STATE, x -> x.undo());
        refusal(36, "calls were made that failed", () -> {
            IconSetBuilder x = new IconSetBuilder();
            thrown(ARGUMENT, () -> x.addSize(3));
            thrown(INDEX, () -> x.removeSize(0));
            thrown(ARGUMENT, () -> x.load(1));
            thrown(STATE, () -> x.undo());
            return x;
        }, STATE, x -> x.undo());
    }

    /** Makes the changes number 1 to the given one: each sets another pair of an extra and a shift. */
    private static IconSetBuilder changedTimes(int changes) {
        IconSetBuilder x = of("size 8; part p bar 0 0 1 1; icon i p;");
        for (int change = 1; change < changes; change++) {
            x.moveUse(0, 0, change, -change);
        }
        return x;
    }

    private static void undoOfEight() {
        for (int changes : new int[] {1, 2, 7, 8, 9, 10, 16, 17, 24, 25, 40}) {
            edge(36, "of " + changes + " changes the latest 8 at most can be undone", () -> {
                IconSetBuilder x = changedTimes(changes);
                int undone = Math.min(changes, 8);
                for (int left = undone - 1; left >= 0; left--) {
                    due(x.undo(), left);
                    int change = changes - 1 - (undone - 1 - left);
                    due(x.count(2), change == 0 ? 0 : 1);
                    if (change > 0) {
                        due(x.use(0, 0, 1), change - 1);
                        due(x.use(0, 0, 2), 1 - change);
                    }
                }
                thrown(STATE, () -> x.undo());
            });
        }
        edge(36, "the 512th call is answered like others", () -> {
            IconSetBuilder x = new IconSetBuilder();
            x.addSize(8);
            for (int call = 2; call < 512; call++) {
                x.setExtra(0, call % 5 - 2);
            }
            due(x.undo(), 7);
        });
        edge(36, "a full set comes back 8 times", () -> {
            IconSetBuilder x = FULL.make();
            for (int left = 7; left >= 0; left--) {
                due(x.undo(), left);
                for (int what = 0; what <= 5; what++) {
                    due(x.count(what), new int[] {5, 8, 8, 48, 48, 0}[what]);
                }
            }
        });
    }

    private static void undoAndNewChanges() {
        edge(36, "an undone change is not undone again: undo goes on back", () -> {
            IconSetBuilder x = changedTimes(4);
            due(x.undo(), 3);
            due(x.use(0, 0, 1), 2);
            due(x.undo(), 2);
            due(x.use(0, 0, 1), 1);
        });
        edge(36, "a new change comes on top of those that are left", () -> {
            IconSetBuilder x = changedTimes(4);
            x.undo();
            x.undo();
            x.moveUse(0, 0, 40, 40);
            due(x.undo(), 2);
            due(x.use(0, 0, 1), 1);
            due(x.undo(), 1);
            due(x.use(0, 0, 1), 0);
        });
        edge(36, "changes and undo by turns, more often than 8 times", () -> {
            IconSetBuilder x = changedTimes(3);
            for (int turn = 0; turn < 20; turn++) {
                x.addSize(20);
                due(x.count(0), 2);
                due(x.undo(), 3);
                due(x.count(0), 1);
            }
            due(x.use(0, 0, 1), 2);
        });
        edge(36, "two changes and one undo by turns: 8 of them can be undone at last", () -> {
            IconSetBuilder x = changedTimes(1);
            for (int turn = 1; turn <= 10; turn++) {
                x.moveUse(0, 0, turn, turn);
                x.addSize(20);
                due(x.undo(), Math.min(turn + 1, 7));
            }
            due(x.use(0, 0, 1), 10);
            due(x.undo(), 6);
            due(x.use(0, 0, 1), 9);
        });
        edge(36, "after all is undone 8 new changes can be undone", () -> {
            IconSetBuilder x = changedTimes(12);
            for (int undone = 0; undone < 8; undone++) {
                x.undo();
            }
            due(x.use(0, 0, 1), 3);
            for (int change = 0; change < 9; change++) {
                x.moveUse(0, 0, 20 + change, 0);
            }
            for (int left = 7; left >= 0; left--) {
                due(x.undo(), left);
                due(x.use(0, 0, 1), 20 + left);
            }
            thrown(STATE, () -> x.undo());
        });
    }

    private static Map<String, Call> changes() {
        Map<String, Call> calls = new LinkedHashMap<>();
        calls.put("load", x -> load(x, "size 30; part other bar 0 0 1 1; icon other other;"));
        calls.put("load of a text without a statement", x -> x.load(0));
        calls.put("addSize in front", x -> x.addSize(4));
        calls.put("addSize behind", x -> x.addSize(32));
        calls.put("removeSize of the first one", x -> x.removeSize(0));
        calls.put("removeSize of the last one", x -> x.removeSize(2));
        calls.put("setExtra", x -> x.setExtra(1, 2));
        calls.put("setShape", x -> x.setShape(0, 2, 5, 1));
        calls.put("moveShape", x -> x.moveShape(0, 2, 1, 1));
        calls.put("copyShape", x -> x.copyShape(0, 1, 1, 1));
        calls.put("removeShape of the first one", x -> x.removeShape(0, 0));
        calls.put("removeShape of the last one", x -> x.removeShape(0, 2));
        calls.put("addUse", x -> x.addUse(1, 1, 9, -9));
        calls.put("moveUse", x -> x.moveUse(2, 2, -5, -5));
        calls.put("removeUse of the first one", x -> x.removeUse(2, 0));
        calls.put("removeUse of the last one", x -> x.removeUse(2, 2));
        return calls;
    }

    private static void undoOfEachChange() {
        changes().forEach((name, change) -> {
            edge(36, "all is as before after undo of " + name, () -> {
                String trace = Trace.of(() -> {
                    IconSetBuilder x = CHANGED.make();
                    change.on(x);
                    x.undo();
                    return x;
                });
                same(Trace.firstUnlike(trace, Trace.of(CHANGED)), "no unlike line");
            });
            answer(36, "3 changes can be undone behind " + name + ", itself undone", CHANGED, 3, x -> {
                change.on(x);
                return x.undo();
            });
        });
    }

    private static void undoLeaves() {
        edge(36, "the text buffer stays", () -> {
            IconSetBuilder x = LIVELY.make();
            x.undo();
            due(x.append(SPACES, SPACES, SPACES, SPACES, SPACES), 40);
            due(x.load(40), 1);
            due(x.findIcon(name("waiting")), 0);
        });
        edge(36, "the text buffer stays empty after undo of load", () -> {
            IconSetBuilder x = of("size 8;");
            x.undo();
            thrown(ARGUMENT, () -> x.load(1));
            due(x.append(0, 0, 0, 0, 0), 20);
        });
        edge(36, "the position of the error stays", () -> {
            IconSetBuilder x = LIVELY.make();
            x.undo();
            x.undo();
            x.undo();
            due(x.errorPosition(), 7);
        });
        edge(36, "no error stays no error after undo of load", () -> {
            IconSetBuilder x = new IconSetBuilder();
            load(x, "?");
            load(x, "size 8;");
            x.undo();
            due(x.errorPosition(), -1);
        });
        edge(36, "the written text stays, also that of an icon that is gone", () -> {
            IconSetBuilder x = of("size 4; part p bar 0 0 48 48; icon i p;");
            x.writeIcon(0, 0);
            x.undo();
            due(x.count(2), 0);
            due(x.writtenByte(0), '#');
            due(x.writtenByte(19), 10);
            thrown(INDEX, () -> x.writtenByte(20));
        });
    }

    private static Map<String, Call> questions() {
        Map<String, Call> calls = new LinkedHashMap<>();
        calls.put("errorPosition", x -> x.errorPosition());
        calls.put("count", x -> x.count(5));
        calls.put("size", x -> x.size(1, 2));
        calls.put("stroke", x -> x.stroke(1, 12));
        calls.put("findPart", x -> x.findPart(1));
        calls.put("part", x -> x.part(1, 2));
        calls.put("shape", x -> x.shape(0, 2, 5));
        calls.put("findIcon", x -> x.findIcon(1));
        calls.put("uses", x -> x.uses(2));
        calls.put("use", x -> x.use(2, 2, 2));
        calls.put("isInked", x -> bit(x.isInked(2, 2, 3, 4)));
        for (int what = 0; what <= 7; what++) {
            int w = what;
            calls.put("measure " + what, x -> x.measure(2, 2, w));
        }
        calls.put("isMirrored left to right", x -> bit(x.isMirrored(2, 2, false)));
        calls.put("isMirrored upside down", x -> bit(x.isMirrored(2, 2, true)));
        calls.put("difference", x -> x.difference(2, 1, 2));
        calls.put("alone", x -> x.alone(2, 2, 2));
        calls.put("keepsTopology", x -> bit(x.keepsTopology(2)));
        calls.put("smallest", x -> x.smallest(2));
        calls.put("extreme", x -> x.extreme(2, true));
        calls.put("bestExtra", x -> x.bestExtra(1));
        calls.put("indifferent", x -> x.indifferent(1, 2));
        calls.put("writtenByte", x -> x.writtenByte(71));
        return calls;
    }

    private static void whatIsNoChange() {
        questions().forEach((name, question) -> edge(36, "nothing is changed by " + name, () -> {
            String trace = Trace.of(() -> {
                IconSetBuilder x = LIVELY.make();
                question.on(x);
                return x;
            });
            same(Trace.firstUnlike(trace, Trace.of(LIVELY)), "no unlike line");
        }));
        answer(36, "writeIcon is no change", CHANGED, 2, x -> {
            x.writeIcon(1, 1);
            return x.undo();
        });
        answer(36, "append is no change", CHANGED, 2, x -> {
            x.append(1, 2, 3, 4, 5);
            return x.undo();
        });
        answer(36, "a text with an error is no change", CHANGED, 2, x -> {
            load(x, "size 8; icon x y;");
            return x.undo();
        });
        answer(36, "a refused load is no change", CHANGED, 2, x -> {
            thrown(ARGUMENT, () -> x.load(1));
            return x.undo();
        });
    }

    private static void whatIsAChange() {
        changes().forEach((name, change) -> edge(36, name + " is a change", () -> {
            IconSetBuilder x = CHANGED.make();
            change.on(x);
            for (int left = 3; left >= 0; left--) {
                due(x.undo(), left);
            }
            thrown(STATE, () -> x.undo());
        }));
        answer(36, "a load that leaves nothing as nothing is a change", EMPTY, 0, x -> {
            x.load(0);
            return x.undo();
        });
        answer(36, "a move of a shape by nothing is a change", CHANGED, 3, x -> {
            x.moveShape(0, 0, 0, 0);
            return x.undo();
        });
        answer(36, "a use that is moved to where it is, is a change", CHANGED, 3, x -> {
            x.moveUse(0, 1, 7, 8);
            return x.undo();
        });
    }
}
