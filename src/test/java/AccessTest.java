/** Promises 22 and 23: reads and writes, the errors of an access in their order, and pins. */
public final class AccessTest {
    private static final Due T = new Due("AccessTest");
    private static final int MIN = Integer.MIN_VALUE;
    private static final int MAX = Integer.MAX_VALUE;

    public static void main(String[] args) {
        orderOfErrors();
        readAndWrite();
        stale();
        blocked();
        conversionFailed();
        conversionByWrite();
        errorsPinNothing();
        onlyTheTopFrameActs();
        T.end();
    }

    /** The same error is due from a read and from a write. */
    private static void both(LiveUpgrader x, int thread, int object, int field, int want) {
        if (x.read(thread, object, field) != want || x.write(thread, object, field, 1) != want) {
            T.fail("access(" + thread + ", " + object + ", " + field + "), due is " + want);
        }
        T.due(x.write(thread, object, field, 1000001), LiveUpgrader.BAD_VALUE);
        T.due(x.write(thread, object, field, -1000001), LiveUpgrader.BAD_VALUE);
        T.due(x.write(thread, object, field, MIN), LiveUpgrader.BAD_VALUE);
        T.due(x.write(thread, object, field, MAX), LiveUpgrader.BAD_VALUE);
    }

    private static void nextVersion(LiveUpgrader x, int factor) {
        x.stage(0);
        x.scaleField(0, 0, factor);
        x.activate(0);
    }

    private static void orderOfErrors() {
        LiveUpgrader x = new LiveUpgrader();
        x.addClass(1);
        x.addClass(2);
        both(x, 4, 9, 9, LiveUpgrader.NO_SUCH_THREAD);
        both(x, -1, 0, 0, LiveUpgrader.NO_SUCH_THREAD);
        both(x, MAX, 0, 0, LiveUpgrader.NO_SUCH_THREAD);
        both(x, 0, 9, 9, LiveUpgrader.NO_FRAME);
        x.call(0, 0);
        x.call(1, 1);
        both(x, 0, 0, 0, LiveUpgrader.NO_SUCH_OBJECT);
        both(x, 0, -1, 9, LiveUpgrader.NO_SUCH_OBJECT);
        both(x, 0, 24, 0, LiveUpgrader.NO_SUCH_OBJECT);
        both(x, 0, MIN, 0, LiveUpgrader.NO_SUCH_OBJECT);
        both(x, 0, MAX, 0, LiveUpgrader.NO_SUCH_OBJECT);
        x.create(0);
        both(x, 1, 0, 0, LiveUpgrader.WRONG_CLASS);
        both(x, 1, 0, 1, LiveUpgrader.WRONG_CLASS);
        both(x, 1, 0, 9, LiveUpgrader.WRONG_CLASS);
        both(x, 0, 0, 1, LiveUpgrader.NO_SUCH_FIELD);
        both(x, 0, 0, -1, LiveUpgrader.NO_SUCH_FIELD);
        both(x, 0, 0, 8, LiveUpgrader.NO_SUCH_FIELD);
        both(x, 0, 0, 32, LiveUpgrader.NO_SUCH_FIELD);
        both(x, 0, 0, MIN, LiveUpgrader.NO_SUCH_FIELD);
        both(x, 0, 0, MAX, LiveUpgrader.NO_SUCH_FIELD);
        T.due(x.peek(0, 0), 0);
    }

    private static void readAndWrite() {
        LiveUpgrader x = new LiveUpgrader();
        x.addClass(255);
        x.call(3, 0);
        x.create(3);
        x.create(3);
        for (int field = 0; field < 8; field++) {
            T.due(x.write(3, 0, field, field - 4), 0);
            T.due(x.write(3, 0, field, 100 * field), field - 4);
        }
        for (int field = 0; field < 8; field++) {
            T.due(x.read(3, 0, field), 100 * field);
            T.due(x.read(3, 1, field), 0);
        }
        T.due(x.write(3, 1, 2, 1000000), 0);
        T.due(x.write(3, 1, 2, -1000000), 1000000);
        T.due(x.write(3, 1, 2, 1000001), LiveUpgrader.BAD_VALUE);
        T.due(x.read(3, 1, 2), -1000000);
        T.due(x.conversions(1), 0);
    }

    private static void stale() {
        LiveUpgrader x = new LiveUpgrader();
        x.addClass(1);
        x.call(0, 0);
        x.stage(0);
        x.addField(0, 1, 1);
        x.activate(0);
        x.call(1, 0);
        x.create(1);
        both(x, 0, 0, 0, LiveUpgrader.STALE);
        // field 1 is one of the object's, but not of the frame's version
        both(x, 0, 0, 1, LiveUpgrader.NO_SUCH_FIELD);
        T.due(x.pinnedBy(0), 1);
        x.finish(1);
        T.due(x.pinnedBy(0), LiveUpgrader.NONE);
        both(x, 0, 0, 0, LiveUpgrader.STALE);
        // after the rollback the object is gone; one that is only converted back can be used
        T.due(x.create(0), 1);
        x.finish(0);
        x.call(2, 0);
        T.due(x.read(2, 1, 1), 1);
        x.finish(2);
        T.due(x.rollback(0), 0);
        x.call(0, 0);
        both(x, 0, 0, 0, LiveUpgrader.NO_SUCH_OBJECT);
        T.due(x.read(0, 1, 0), 0);
        both(x, 0, 1, 1, LiveUpgrader.NO_SUCH_FIELD);
    }

    private static void blocked() {
        LiveUpgrader x = new LiveUpgrader();
        x.addClass(1);
        x.call(0, 0);
        x.create(0);
        x.write(0, 0, 0, 900000);
        nextVersion(x, 2);
        x.call(1, 0);
        // blocked comes before the conversion that would fail
        both(x, 1, 0, 0, LiveUpgrader.BLOCKED);
        both(x, 1, 0, 3, LiveUpgrader.NO_SUCH_FIELD);
        T.due(x.objectVersion(0), 0);
        T.due(x.read(0, 0, 0), 900000);
        x.finish(0);
        both(x, 1, 0, 0, LiveUpgrader.CONVERSION_FAILED);

        // each of two old frames blocks, also one that lies below the frame that asks
        LiveUpgrader y = new LiveUpgrader();
        y.addClass(1);
        y.call(0, 0);
        y.create(0);
        y.call(1, 0);
        T.due(y.read(1, 0, 0), 0);
        nextVersion(y, 2);
        y.call(0, 0);
        both(y, 0, 0, 0, LiveUpgrader.BLOCKED);
        y.finish(0);
        y.finish(0);
        y.call(0, 0);
        both(y, 0, 0, 0, LiveUpgrader.BLOCKED);
        T.due(y.pinnedBy(0), 0);
        T.due(y.convertAll(0), 0);
        y.finish(1);
        T.due(y.read(0, 0, 0), 0);
        T.due(y.pinnedBy(0), 1);
        // a frame of the same version doesn't block
        y.call(2, 0);
        T.due(y.read(2, 0, 0), 0);
        // and an old frame that has not touched the object doesn't either
        nextVersion(y, 2);
        y.call(3, 0);
        T.due(y.create(0), 1);
        both(y, 3, 1, 0, LiveUpgrader.BLOCKED);
        y.finish(0);
        T.due(y.read(3, 1, 0), 0);
        T.due(y.objectVersion(1), 2);
        both(y, 3, 0, 0, LiveUpgrader.BLOCKED);
        y.finish(2);
        T.due(y.read(3, 0, 0), 0);
    }

    private static void conversionFailed() {
        LiveUpgrader x = new LiveUpgrader();
        x.addClass(1);
        x.call(0, 0);
        x.create(0);
        x.write(0, 0, 0, 600);
        x.finish(0);
        nextVersion(x, 1000);
        x.call(1, 0);
        nextVersion(x, 2);
        x.call(2, 0);
        both(x, 2, 0, 0, LiveUpgrader.CONVERSION_FAILED);
        T.due(x.objectVersion(0), 0);
        T.due(x.conversions(0), 0);
        T.due(x.peek(0, 0), 600);
        T.due(x.pinnedBy(0), LiveUpgrader.NONE);
        // the frame of version 1 converts to its own version, not to the current one
        T.due(x.read(1, 0, 0), 600000);
        T.due(x.objectVersion(0), 1);
        T.due(x.conversions(0), 1);
        both(x, 2, 0, 0, LiveUpgrader.BLOCKED);
        T.due(x.write(1, 0, 0, 500000), 600000);
        x.finish(1);
        T.due(x.read(2, 0, 0), 1000000);
        T.due(x.conversions(0), 2);
    }

    private static void conversionByWrite() {
        LiveUpgrader x = new LiveUpgrader();
        x.addClass(3);
        x.call(0, 0);
        x.create(0);
        x.write(0, 0, 0, 6);
        x.write(0, 0, 1, 7);
        x.finish(0);
        nextVersion(x, -5);
        nextVersion(x, 2);
        x.call(0, 0);
        T.due(x.write(0, 0, 0, 1000001), LiveUpgrader.BAD_VALUE);
        T.due(x.objectVersion(0), 0);
        T.due(x.write(0, 0, 0, 1), -60);
        T.due(x.objectVersion(0), 2);
        T.due(x.conversions(0), 2);
        T.due(x.pinnedBy(0), 2);
        T.due(x.read(0, 0, 0), 1);
        T.due(x.read(0, 0, 1), 7);
        x.finish(0);
        // the values that were kept are those before the write
        T.due(x.rollback(0), 1);
        T.due(x.peek(0, 0), -30);
        T.due(x.rollback(0), 0);
        T.due(x.peek(0, 0), 6);
    }

    private static void errorsPinNothing() {
        LiveUpgrader x = new LiveUpgrader();
        x.addClass(1);
        x.addClass(1);
        x.call(0, 0);
        x.create(0);
        x.write(0, 0, 0, 900000);
        x.finish(0);
        x.call(1, 1);
        both(x, 1, 0, 0, LiveUpgrader.WRONG_CLASS);
        x.call(1, 0);
        both(x, 1, 0, 1, LiveUpgrader.NO_SUCH_FIELD);
        T.due(x.pinnedBy(0), LiveUpgrader.NONE);
        nextVersion(x, 1);
        x.call(2, 0);
        T.due(x.read(2, 0, 0), 900000);
        both(x, 1, 0, 0, LiveUpgrader.STALE);
        x.finish(2);
        T.due(x.pinnedBy(0), LiveUpgrader.NONE);
        nextVersion(x, 2);
        x.call(2, 0);
        both(x, 2, 0, 0, LiveUpgrader.CONVERSION_FAILED);
        T.due(x.pinnedBy(0), LiveUpgrader.NONE);
        T.due(x.objectVersion(0), 1);
    }

    private static void onlyTheTopFrameActs() {
        LiveUpgrader x = new LiveUpgrader();
        x.addClass(1);
        x.addClass(2);
        x.call(0, 0);
        x.create(0);
        x.call(0, 1);
        both(x, 0, 0, 0, LiveUpgrader.WRONG_CLASS);
        T.due(x.create(0), 1);
        T.due(x.read(0, 1, 1), 0);
        x.finish(0);
        T.due(x.read(0, 0, 0), 0);
        both(x, 0, 1, 1, LiveUpgrader.WRONG_CLASS);
        T.due(x.pinnedBy(1), LiveUpgrader.NONE);
        // a pin belongs to the frame, not to the thread
        T.due(x.pinnedBy(0), 0);
        x.call(0, 0);
        x.read(0, 0, 0);
        x.finish(0);
        T.due(x.pinnedBy(0), 0);
        x.finish(0);
        T.due(x.pinnedBy(0), LiveUpgrader.NONE);
    }
}
