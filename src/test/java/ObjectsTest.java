/** Promises 21 and 24 to 29: objects, what is told of them, and their conversion all at once. */
public final class ObjectsTest {
    private static final Due T = new Due("ObjectsTest");
    private static final int MIN = Integer.MIN_VALUE;
    private static final int MAX = Integer.MAX_VALUE;

    public static void main(String[] args) {
        create();
        createByAnOlderFrame();
        deletedObjectsCount();
        peek();
        objectVersionAndConversions();
        pinnedBy();
        outdated();
        convertAll();
        convertAllInOneGo();
        T.end();
    }

    private static void nextVersion(LiveUpgrader x, int type) {
        x.stage(type);
        x.activate(type);
    }

    private static void create() {
        LiveUpgrader x = new LiveUpgrader();
        x.addClass(1);
        x.addClass(255);
        T.due(x.create(4), LiveUpgrader.NO_SUCH_THREAD);
        T.due(x.create(-1), LiveUpgrader.NO_SUCH_THREAD);
        T.due(x.create(0), LiveUpgrader.NO_FRAME);
        x.call(0, 0);
        x.call(0, 1);
        T.due(x.create(1), LiveUpgrader.NO_FRAME);
        T.due(x.create(0), 0);
        for (int field = 0; field < 8; field++) {
            T.due(x.peek(0, field), 0);
        }
        T.due(x.objectVersion(0), 0);
        T.due(x.conversions(0), 0);
        T.due(x.pinnedBy(0), 0);
        x.finish(0);
        T.due(x.pinnedBy(0), LiveUpgrader.NONE);
        for (int object = 1; object < 24; object++) {
            T.due(x.create(0), object);
            T.due(x.peek(object, 1), LiveUpgrader.NO_SUCH_FIELD);
        }
        T.due(x.create(0), LiveUpgrader.TOO_MANY);
        T.due(x.create(1), LiveUpgrader.NO_FRAME);
        T.due(x.create(4), LiveUpgrader.NO_SUCH_THREAD);
        T.due(x.objectVersion(24), LiveUpgrader.NO_SUCH_OBJECT);
        T.due(x.pinnedBy(23), 0);
    }

    private static void createByAnOlderFrame() {
        LiveUpgrader x = new LiveUpgrader();
        x.addClass(1);
        nextVersion(x, 0);
        x.call(0, 0);
        nextVersion(x, 0);
        T.due(x.create(0), 0);
        T.due(x.objectVersion(0), 1);
        T.due(x.outdated(0), 1);
        T.due(x.pinnedBy(0), 1);
        T.due(x.rollback(0), 1);
        T.due(x.objectVersion(0), 1);
        T.due(x.rollback(0), LiveUpgrader.BUSY);
        x.finish(0);
        T.due(x.rollback(0), 0);
        T.due(x.objectVersion(0), LiveUpgrader.NO_SUCH_OBJECT);
    }

    private static void deletedObjectsCount() {
        LiveUpgrader x = new LiveUpgrader();
        x.addClass(1);
        nextVersion(x, 0);
        x.call(0, 0);
        for (int object = 0; object < 23; object++) {
            T.due(x.create(0), object);
        }
        x.finish(0);
        T.due(x.rollback(0), 0);
        x.call(0, 0);
        T.due(x.objectVersion(22), LiveUpgrader.NO_SUCH_OBJECT);
        T.due(x.create(0), 23);
        T.due(x.create(0), LiveUpgrader.TOO_MANY);
        T.due(x.outdated(0), 0);
        T.due(x.pinnedBy(23), 0);
        T.due(x.pinnedBy(22), LiveUpgrader.NO_SUCH_OBJECT);
        nextVersion(x, 0);
        T.due(x.outdated(0), 1);
        x.finish(0);
        T.due(x.convertAll(0), 1);
    }

    private static void peek() {
        LiveUpgrader x = new LiveUpgrader();
        x.addClass(129);
        x.call(0, 0);
        x.create(0);
        x.write(0, 0, 0, -8);
        x.write(0, 0, 7, 1000000);
        T.due(x.peek(-1, 0), LiveUpgrader.NO_SUCH_OBJECT);
        T.due(x.peek(1, 9), LiveUpgrader.NO_SUCH_OBJECT);
        T.due(x.peek(MAX, 0), LiveUpgrader.NO_SUCH_OBJECT);
        T.due(x.peek(MIN, 0), LiveUpgrader.NO_SUCH_OBJECT);
        T.due(x.peek(0, -1), LiveUpgrader.NO_SUCH_FIELD);
        T.due(x.peek(0, 1), LiveUpgrader.NO_SUCH_FIELD);
        T.due(x.peek(0, 8), LiveUpgrader.NO_SUCH_FIELD);
        T.due(x.peek(0, 32), LiveUpgrader.NO_SUCH_FIELD);
        T.due(x.peek(0, MIN), LiveUpgrader.NO_SUCH_FIELD);
        T.due(x.peek(0, 0), -8);
        T.due(x.peek(0, 7), 1000000);
        x.finish(0);
        x.stage(0);
        x.dropField(0, 7);
        x.addField(0, 3, 3);
        x.activate(0);
        T.due(x.peek(0, 7), 1000000);
        T.due(x.peek(0, 3), LiveUpgrader.NO_SUCH_FIELD);
        T.due(x.objectVersion(0), 0);
        T.due(x.pinnedBy(0), LiveUpgrader.NONE);
    }

    private static void objectVersionAndConversions() {
        LiveUpgrader x = new LiveUpgrader();
        x.addClass(1);
        T.due(x.objectVersion(0), LiveUpgrader.NO_SUCH_OBJECT);
        T.due(x.conversions(0), LiveUpgrader.NO_SUCH_OBJECT);
        nextVersion(x, 0);
        x.call(0, 0);
        x.create(0);
        T.due(x.objectVersion(0), 1);
        T.due(x.conversions(0), 0);
        T.due(x.objectVersion(-1), LiveUpgrader.NO_SUCH_OBJECT);
        T.due(x.conversions(-1), LiveUpgrader.NO_SUCH_OBJECT);
        T.due(x.objectVersion(1), LiveUpgrader.NO_SUCH_OBJECT);
        T.due(x.conversions(1), LiveUpgrader.NO_SUCH_OBJECT);
        T.due(x.objectVersion(24), LiveUpgrader.NO_SUCH_OBJECT);
        T.due(x.conversions(MAX), LiveUpgrader.NO_SUCH_OBJECT);
        x.finish(0);
        for (int version = 2; version < 8; version++) {
            nextVersion(x, 0);
        }
        T.due(x.convertAll(0), 1);
        T.due(x.objectVersion(0), 7);
        T.due(x.conversions(0), 6);
        T.due(x.rollback(0), 6);
        T.due(x.objectVersion(0), 6);
        T.due(x.conversions(0), 5);
        nextVersion(x, 0);
        T.due(x.conversions(0), 5);
        x.convertAll(0);
        T.due(x.conversions(0), 6);
    }

    private static void pinnedBy() {
        LiveUpgrader x = new LiveUpgrader();
        x.addClass(1);
        T.due(x.pinnedBy(0), LiveUpgrader.NO_SUCH_OBJECT);
        nextVersion(x, 0);
        nextVersion(x, 0);
        x.call(0, 0);
        x.call(1, 0);
        x.call(1, 0);
        x.create(0);
        T.due(x.pinnedBy(-1), LiveUpgrader.NO_SUCH_OBJECT);
        T.due(x.pinnedBy(1), LiveUpgrader.NO_SUCH_OBJECT);
        T.due(x.pinnedBy(MAX), LiveUpgrader.NO_SUCH_OBJECT);
        T.due(x.pinnedBy(0), 2);
        x.read(1, 0, 0);
        x.finish(0);
        T.due(x.pinnedBy(0), 2);
        x.finish(1);
        T.due(x.pinnedBy(0), LiveUpgrader.NONE);
        x.write(1, 0, 0, 1);
        T.due(x.pinnedBy(0), 2);
        x.finish(1);
        T.due(x.pinnedBy(0), LiveUpgrader.NONE);
        x.call(1, 0);
        T.due(x.read(1, 0, 3), LiveUpgrader.NO_SUCH_FIELD);
        T.due(x.write(1, 0, 0, 1000001), LiveUpgrader.BAD_VALUE);
        T.due(x.pinnedBy(0), LiveUpgrader.NONE);
    }

    private static void outdated() {
        LiveUpgrader x = new LiveUpgrader();
        T.due(x.outdated(0), LiveUpgrader.NO_SUCH_CLASS);
        x.addClass(1);
        x.addClass(1);
        T.due(x.outdated(-1), LiveUpgrader.NO_SUCH_CLASS);
        T.due(x.outdated(2), LiveUpgrader.NO_SUCH_CLASS);
        x.call(0, 0);
        x.call(1, 1);
        x.create(0);
        x.create(1);
        x.create(0);
        T.due(x.outdated(0), 0);
        x.stage(0);
        T.due(x.outdated(0), 0);
        x.activate(0);
        T.due(x.outdated(0), 2);
        T.due(x.outdated(1), 0);
        nextVersion(x, 0);
        T.due(x.outdated(0), 2);
        x.finish(0);
        x.call(0, 0);
        x.read(0, 2, 0);
        T.due(x.outdated(0), 1);
        x.finish(0);
        nextVersion(x, 0);
        T.due(x.outdated(0), 2);
        x.rollback(0);
        T.due(x.outdated(0), 1);
        x.rollback(0);
        T.due(x.outdated(0), 1);
        x.rollback(0);
        T.due(x.outdated(0), 0);
    }

    private static void convertAll() {
        LiveUpgrader x = new LiveUpgrader();
        T.due(x.convertAll(0), LiveUpgrader.NO_SUCH_CLASS);
        x.addClass(1);
        x.addClass(1);
        T.due(x.convertAll(-1), LiveUpgrader.NO_SUCH_CLASS);
        T.due(x.convertAll(2), LiveUpgrader.NO_SUCH_CLASS);
        T.due(x.convertAll(0), 0);
        x.call(0, 0);
        x.create(0);
        x.create(0);
        x.create(0);
        x.create(0);
        x.write(0, 1, 0, 800000);
        x.write(0, 3, 0, 4);
        x.finish(0);
        x.call(0, 0);
        x.read(0, 2, 0);
        x.call(1, 1);
        x.create(1);
        nextVersion(x, 1);
        x.finish(1);
        T.due(x.convertAll(0), 0);
        x.stage(0);
        x.scaleField(0, 0, 2);
        x.activate(0);
        x.call(2, 0);
        T.due(x.create(2), 5);
        // 1 fails, 2 is pinned, 4 has another class, 5 is there already
        T.due(x.convertAll(0), 2);
        T.due(x.objectVersion(0), 1);
        T.due(x.objectVersion(1), 0);
        T.due(x.objectVersion(2), 0);
        T.due(x.objectVersion(3), 1);
        T.due(x.objectVersion(4), 0);
        T.due(x.objectVersion(5), 1);
        T.due(x.peek(1, 0), 800000);
        T.due(x.peek(3, 0), 8);
        T.due(x.pinnedBy(3), LiveUpgrader.NONE);
        T.due(x.convertAll(0), 0);
        x.finish(0);
        T.due(x.convertAll(0), 1);
        T.due(x.objectVersion(2), 1);
        T.due(x.conversions(2), 1);
        T.due(x.outdated(0), 1);
        T.due(x.convertAll(1), 1);
        T.due(x.objectVersion(4), 1);
    }

    private static void convertAllInOneGo() {
        LiveUpgrader x = new LiveUpgrader();
        x.addClass(1);
        x.call(0, 0);
        x.create(0);
        x.create(0);
        x.write(0, 0, 0, 30);
        x.write(0, 1, 0, 20);
        x.finish(0);
        x.stage(0);
        x.scaleField(0, 0, 100);
        x.activate(0);
        x.stage(0);
        x.scaleField(0, 0, 400);
        x.activate(0);
        // the first object passes version 1 and fails on the way to 2: it stays at 0
        T.due(x.convertAll(0), 1);
        T.due(x.objectVersion(0), 0);
        T.due(x.peek(0, 0), 30);
        T.due(x.conversions(0), 0);
        T.due(x.objectVersion(1), 2);
        T.due(x.peek(1, 0), 800000);
        T.due(x.rollback(0), 1);
        T.due(x.objectVersion(1), 1);
        T.due(x.peek(1, 0), 2000);
        T.due(x.convertAll(0), 1);
        T.due(x.peek(0, 0), 3000);
    }
}
