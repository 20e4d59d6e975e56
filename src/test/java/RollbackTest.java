/** Promise 14: rollback of the current version. */
public final class RollbackTest {
    private static final Due T = new Due("RollbackTest");

    public static void main(String[] args) {
        errors();
        stagedIsDiscarded();
        objects();
        passedOnVersions();
        otherClasses();
        newVersionAfterRollback();
        allTwentyFour();
        T.end();
    }

    private static void nextVersion(LiveUpgrader x, int factor) {
        x.stage(0);
        x.scaleField(0, 0, factor);
        x.activate(0);
    }

    private static void errors() {
        LiveUpgrader x = new LiveUpgrader();
        T.due(x.rollback(0), LiveUpgrader.NO_SUCH_CLASS);
        x.addClass(1);
        T.due(x.rollback(-1), LiveUpgrader.NO_SUCH_CLASS);
        T.due(x.rollback(1), LiveUpgrader.NO_SUCH_CLASS);
        x.call(2, 0);
        x.stage(0);
        T.due(x.rollback(0), LiveUpgrader.NO_SUCH_VERSION);
        T.due(x.stagedFields(0), 1);
        x.activate(0);
        x.call(2, 0);
        x.call(2, 0);
        x.stage(0);
        x.addField(0, 4, 4);
        T.due(x.rollback(0), LiveUpgrader.BUSY);
        T.due(x.stagedFields(0), 17);
        x.finish(2);
        T.due(x.rollback(0), LiveUpgrader.BUSY);
        T.due(x.currentVersion(0), 1);
        x.finish(2);
        // the frame that is left runs version 0
        T.due(x.rollback(0), 0);
        T.due(x.rollback(0), LiveUpgrader.NO_SUCH_VERSION);
        T.due(x.depth(2), 1);
    }

    private static void stagedIsDiscarded() {
        LiveUpgrader x = new LiveUpgrader();
        x.addClass(1);
        x.stage(0);
        x.addField(0, 1, 1);
        x.activate(0);
        x.stage(0);
        x.addField(0, 2, 2);
        T.due(x.stagedFields(0), 7);
        T.due(x.rollback(0), 0);
        T.due(x.stagedFields(0), LiveUpgrader.NOT_STAGED);
        T.due(x.discard(0), LiveUpgrader.NOT_STAGED);
        T.due(x.currentVersion(0), 0);
        T.due(x.fields(0, 0), 1);
        T.due(x.fields(0, 1), LiveUpgrader.NO_SUCH_VERSION);
        T.due(x.stage(0), 1);
        T.due(x.stagedFields(0), 1);
        T.due(x.discard(0), 0);
    }

    private static void objects() {
        LiveUpgrader x = new LiveUpgrader();
        x.addClass(1);
        x.call(0, 0);
        x.create(0);
        x.create(0);
        x.create(0);
        x.write(0, 0, 0, 5);
        x.write(0, 1, 0, 6);
        x.write(0, 2, 0, 900000);
        x.finish(0);
        nextVersion(x, 10);
        x.call(0, 0);
        T.due(x.create(0), 3);
        T.due(x.read(0, 0, 0), 50);
        T.due(x.write(0, 0, 0, 51), 50);
        x.finish(0);
        T.due(x.rollback(0), 0);
        T.due(x.objectVersion(0), 0);
        T.due(x.peek(0, 0), 5);
        T.due(x.conversions(0), 0);
        T.due(x.objectVersion(1), 0);
        T.due(x.peek(1, 0), 6);
        T.due(x.peek(2, 0), 900000);
        T.due(x.objectVersion(3), LiveUpgrader.NO_SUCH_OBJECT);
        T.due(x.peek(3, 0), LiveUpgrader.NO_SUCH_OBJECT);
        T.due(x.conversions(3), LiveUpgrader.NO_SUCH_OBJECT);
        T.due(x.pinnedBy(3), LiveUpgrader.NO_SUCH_OBJECT);
        T.due(x.outdated(0), 0);
        x.call(0, 0);
        T.due(x.read(0, 3, 0), LiveUpgrader.NO_SUCH_OBJECT);
        T.due(x.write(0, 3, 0, 1), LiveUpgrader.NO_SUCH_OBJECT);
        T.due(x.create(0), 4);
        T.due(x.read(0, 0, 0), 5);
    }

    private static void passedOnVersions() {
        LiveUpgrader x = new LiveUpgrader();
        x.addClass(1);
        nextVersion(x, 1);
        x.call(0, 0);
        x.create(0);
        x.write(0, 0, 0, 7);
        x.finish(0);
        nextVersion(x, 2);
        nextVersion(x, 3);
        nextVersion(x, 4);
        T.due(x.convertAll(0), 1);
        T.due(x.peek(0, 0), 168);
        T.due(x.conversions(0), 3);
        T.due(x.rollback(0), 3);
        T.due(x.peek(0, 0), 42);
        T.due(x.conversions(0), 2);
        T.due(x.rollback(0), 2);
        T.due(x.peek(0, 0), 14);
        x.call(0, 0);
        T.due(x.write(0, 0, 0, 15), 14);
        x.finish(0);
        nextVersion(x, 5);
        T.due(x.convertAll(0), 1);
        T.due(x.peek(0, 0), 75);
        T.due(x.conversions(0), 2);
        T.due(x.rollback(0), 2);
        T.due(x.peek(0, 0), 15);
        T.due(x.rollback(0), 1);
        T.due(x.peek(0, 0), 7);
        T.due(x.conversions(0), 0);
        T.due(x.objectVersion(0), 1);
        T.due(x.rollback(0), 0);
        T.due(x.objectVersion(0), LiveUpgrader.NO_SUCH_OBJECT);
        T.due(x.rollback(0), LiveUpgrader.NO_SUCH_VERSION);
    }

    private static void otherClasses() {
        LiveUpgrader x = new LiveUpgrader();
        x.addClass(1);
        x.addClass(1);
        for (int type = 0; type < 2; type++) {
            x.stage(type);
            x.activate(type);
            x.call(type, type);
            T.due(x.create(type), type);
        }
        x.stage(1);
        x.finish(0);
        T.due(x.rollback(0), 0);
        T.due(x.objectVersion(0), LiveUpgrader.NO_SUCH_OBJECT);
        T.due(x.objectVersion(1), 1);
        T.due(x.currentVersion(1), 1);
        T.due(x.stagedFields(1), 1);
        T.due(x.rollback(1), LiveUpgrader.BUSY);
    }

    private static void newVersionAfterRollback() {
        LiveUpgrader x = new LiveUpgrader();
        x.addClass(1);
        x.call(0, 0);
        x.create(0);
        x.write(0, 0, 0, 3);
        x.finish(0);
        x.stage(0);
        x.addField(0, 1, 9);
        x.scaleField(0, 0, 2);
        x.activate(0);
        x.convertAll(0);
        x.rollback(0);
        T.due(x.stage(0), 1);
        T.due(x.addField(0, 2, 4), 1);
        T.due(x.activate(0), 1);
        T.due(x.fields(0, 1), 5);
        T.due(x.outdated(0), 1);
        x.call(0, 0);
        T.due(x.read(0, 0, 1), LiveUpgrader.NO_SUCH_FIELD);
        T.due(x.read(0, 0, 0), 3);
        T.due(x.read(0, 0, 2), 4);
        T.due(x.conversions(0), 1);
        T.due(x.create(0), 1);
        T.due(x.read(0, 1, 2), 0);
    }

    private static void allTwentyFour() {
        LiveUpgrader x = new LiveUpgrader();
        x.addClass(1);
        nextVersion(x, 1);
        x.call(0, 0);
        for (int object = 0; object < 24; object++) {
            T.due(x.create(0), object);
            x.write(0, object, 0, object);
        }
        x.finish(0);
        nextVersion(x, 2);
        T.due(x.convertAll(0), 24);
        T.due(x.rollback(0), 1);
        for (int object = 0; object < 24; object++) {
            T.due(x.peek(object, 0), object);
        }
        T.due(x.rollback(0), 0);
        for (int object = 0; object < 24; object++) {
            T.due(x.objectVersion(object), LiveUpgrader.NO_SUCH_OBJECT);
        }
        x.call(0, 0);
        T.due(x.create(0), LiveUpgrader.TOO_MANY);
    }
}
