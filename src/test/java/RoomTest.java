import java.lang.management.ManagementFactory;

/**
 * All calls of a run share one room, so calls make no objects: all rows are made by the
 * constructor and used again. What a thread has made is read before and behind many calls.
 */
public final class RoomTest {
    /** Two calls a round stay under the 512 calls for which an object is good. */
    private static final int ROUNDS = 200;
    /** Far less than one array a call; the reading itself may make a little. */
    private static final long SPARE_BYTES = 8 * ROUNDS;
    /** A run may make hundreds of objects of the class: each is to stay far below the room's elements. */
    private static final long OBJECT_BYTES = 64 * 1024;

    private static final com.sun.management.ThreadMXBean THREADS =
            (com.sun.management.ThreadMXBean) ManagementFactory.getThreadMXBean();

    private static int wrong = 0;
    private static long answers = 0;

    private interface Call {
        long on(IconSetBuilder x);
    }

    public static void main(String[] args) {
        constructorMakesLittle();
        questionsMakeNothing();
        changesMakeNothing();
        System.out.println(wrong == 0 ? "RoomTest: calls make no objects" : "RoomTest: " + wrong + " faults");
        if (wrong != 0) {
            System.exit(1);
        }
    }

    private static long made() {
        return THREADS.getThreadAllocatedBytes(Thread.currentThread().getId());
    }

    private static void constructorMakesLittle() {
        answers += new IconSetBuilder().count(0);
        long before = made();
        answers += new IconSetBuilder().count(0);
        long bytes = made() - before;
        if (bytes > OBJECT_BYTES) {
            wrong++;
            System.out.println("an object takes " + bytes + " bytes");
        }
    }

    /** A set with three parts and two icons, a frame and a crossed one. */
    private static IconSetBuilder filled() {
        IconSetBuilder x = new IconSetBuilder();
        Checks.load(x, "size 16; size 24 extra 1; part p box 0 0 48 48 3; part q line 0 0 48 48 2, line 0 48 48 0 2;"
                + " part r bar 9 9 9 9; icon i p; icon j p, q at 1 -1;");
        return x;
    }

    private static void makesNothing(String name, Call call) {
        IconSetBuilder warm = filled();
        answers += call.on(warm);
        IconSetBuilder x = filled();
        long before = made();
        for (int round = 0; round < ROUNDS; round++) {
            answers += call.on(x);
        }
        long bytes = made() - before;
        if (bytes > SPARE_BYTES) {
            wrong++;
            System.out.println(ROUNDS + " calls of " + name + " made " + bytes + " bytes");
        }
    }

    private static long bit(boolean value) {
        return value ? 1 : 0;
    }

    private static void questionsMakeNothing() {
        makesNothing("errorPosition", x -> x.errorPosition());
        makesNothing("count", x -> x.count(5));
        makesNothing("size", x -> x.size(1, 2));
        makesNothing("stroke", x -> x.stroke(1, 12));
        makesNothing("findPart", x -> x.findPart(17));
        makesNothing("part", x -> x.part(0, 2));
        makesNothing("shape", x -> x.shape(1, 1, 5));
        makesNothing("findIcon", x -> x.findIcon(10));
        makesNothing("uses", x -> x.uses(1));
        makesNothing("use", x -> x.use(1, 1, 2));
        makesNothing("isInked", x -> bit(x.isInked(1, 1, 3, 3)));
        for (int what = 0; what <= 7; what++) {
            int asked = what;
            makesNothing("measure", x -> x.measure(1, 1, asked));
        }
        makesNothing("isMirrored", x -> bit(x.isMirrored(0, 0, true)) + bit(x.isMirrored(0, 0, false)));
        makesNothing("difference", x -> x.difference(0, 1, 1));
        makesNothing("alone", x -> x.alone(1, 1, 1));
        makesNothing("keepsTopology", x -> bit(x.keepsTopology(1)));
        makesNothing("smallest", x -> x.smallest(1));
        makesNothing("extreme", x -> x.extreme(1, true) + x.extreme(1, false));
        makesNothing("bestExtra", x -> x.bestExtra(0));
        makesNothing("indifferent", x -> x.indifferent(1, 1));
        makesNothing("writeIcon and writtenByte", x -> x.writeIcon(1, 1) + x.writtenByte(5));
    }

    private static void changesMakeNothing() {
        makesNothing("append and load", x -> x.append(0x69636f6e, 0x20613b20, 0x69636f6e, 0x20623b20, 0x20202020) + x.load(20));
        makesNothing("append and load of an error", x -> x.append(0x69636f6e, 0x20613b20, 0, 0, 0) + x.load(20));
        makesNothing("addSize and removeSize", x -> x.addSize(20) + x.removeSize(1));
        makesNothing("setExtra", x -> x.setExtra(0, 2));
        makesNothing("setShape", x -> x.setShape(0, 0, 1, 2));
        makesNothing("moveShape", x -> x.moveShape(2, 0, 1, 1) + x.moveShape(2, 0, -1, -1));
        makesNothing("copyShape and removeShape", x -> x.copyShape(1, 0, 0, 0) + x.removeShape(1, 2));
        makesNothing("addUse and removeUse", x -> x.addUse(0, 1, 5, 6) + x.removeUse(0, 1));
        makesNothing("moveUse", x -> x.moveUse(1, 1, -48, 48));
        makesNothing("a change and undo", x -> x.setExtra(1, -1) + x.undo());
    }
}
