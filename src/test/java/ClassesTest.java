/** Promises 1 to 6, 12 and 13: classes, versions, staged versions. */
public final class ClassesTest {
    private static final Due T = new Due("ClassesTest");

    public static void main(String[] args) {
        newObject();
        addClass();
        currentVersionAndFields();
        stage();
        stagedFields();
        activate();
        discard();
        separateSimulators();
        T.end();
    }

    private static void newObject() {
        LiveUpgrader x = new LiveUpgrader();
        for (int type = -1; type < 7; type++) {
            T.due(x.currentVersion(type), LiveUpgrader.NO_SUCH_CLASS);
        }
        for (int thread = 0; thread < 4; thread++) {
            T.due(x.depth(thread), 0);
        }
        for (int object = -1; object < 25; object++) {
            T.due(x.objectVersion(object), LiveUpgrader.NO_SUCH_OBJECT);
        }
    }

    private static void addClass() {
        LiveUpgrader x = new LiveUpgrader();
        T.due(x.addClass(-1), LiveUpgrader.BAD_VALUE);
        T.due(x.addClass(256), LiveUpgrader.BAD_VALUE);
        T.due(x.addClass(Integer.MIN_VALUE), LiveUpgrader.BAD_VALUE);
        T.due(x.addClass(Integer.MAX_VALUE), LiveUpgrader.BAD_VALUE);
        T.due(x.addClass(0), 0);
        T.due(x.addClass(255), 1);
        for (int type = 2; type < 6; type++) {
            T.due(x.addClass(1 << type), type);
        }
        T.due(x.addClass(1), LiveUpgrader.TOO_MANY);
        T.due(x.addClass(256), LiveUpgrader.BAD_VALUE);
        T.due(x.addClass(-1), LiveUpgrader.BAD_VALUE);
        T.due(x.fields(0, 0), 0);
        T.due(x.fields(1, 0), 255);
        for (int type = 2; type < 6; type++) {
            T.due(x.fields(type, 0), 1 << type);
            T.due(x.currentVersion(type), 0);
        }
        T.due(x.currentVersion(6), LiveUpgrader.NO_SUCH_CLASS);
    }

    private static void currentVersionAndFields() {
        LiveUpgrader x = new LiveUpgrader();
        x.addClass(5);
        x.addClass(9);
        T.due(x.currentVersion(-1), LiveUpgrader.NO_SUCH_CLASS);
        T.due(x.currentVersion(2), LiveUpgrader.NO_SUCH_CLASS);
        T.due(x.currentVersion(Integer.MAX_VALUE), LiveUpgrader.NO_SUCH_CLASS);
        T.due(x.currentVersion(Integer.MIN_VALUE), LiveUpgrader.NO_SUCH_CLASS);
        T.due(x.fields(-1, 0), LiveUpgrader.NO_SUCH_CLASS);
        T.due(x.fields(2, 0), LiveUpgrader.NO_SUCH_CLASS);
        T.due(x.fields(2, 9), LiveUpgrader.NO_SUCH_CLASS);
        T.due(x.fields(0, -1), LiveUpgrader.NO_SUCH_VERSION);
        T.due(x.fields(0, 1), LiveUpgrader.NO_SUCH_VERSION);
        T.due(x.fields(0, Integer.MAX_VALUE), LiveUpgrader.NO_SUCH_VERSION);
        T.due(x.fields(0, Integer.MIN_VALUE), LiveUpgrader.NO_SUCH_VERSION);
        x.stage(0);
        x.addField(0, 1, 0);
        T.due(x.currentVersion(0), 0);
        T.due(x.fields(0, 1), LiveUpgrader.NO_SUCH_VERSION);
        x.activate(0);
        T.due(x.currentVersion(0), 1);
        T.due(x.currentVersion(1), 0);
        T.due(x.fields(0, 0), 5);
        T.due(x.fields(0, 1), 7);
        T.due(x.fields(0, 2), LiveUpgrader.NO_SUCH_VERSION);
        T.due(x.fields(1, 0), 9);
        T.due(x.fields(1, 1), LiveUpgrader.NO_SUCH_VERSION);
    }

    private static void stage() {
        LiveUpgrader x = new LiveUpgrader();
        T.due(x.stage(0), LiveUpgrader.NO_SUCH_CLASS);
        x.addClass(6);
        T.due(x.stage(-1), LiveUpgrader.NO_SUCH_CLASS);
        T.due(x.stage(1), LiveUpgrader.NO_SUCH_CLASS);
        for (int version = 1; version < 8; version++) {
            T.due(x.stage(0), version);
            T.due(x.stage(0), LiveUpgrader.ALREADY);
            T.due(x.stagedFields(0), 6);
            T.due(x.activate(0), version);
        }
        T.due(x.stage(0), LiveUpgrader.TOO_MANY);
        T.due(x.stagedFields(0), LiveUpgrader.NOT_STAGED);
        T.due(x.currentVersion(0), 7);
        T.due(x.fields(0, 7), 6);
        T.due(x.fields(0, 8), LiveUpgrader.NO_SUCH_VERSION);
        T.due(x.rollback(0), 6);
        T.due(x.stage(0), 7);
        T.due(x.stage(0), LiveUpgrader.ALREADY);
    }

    private static void stagedFields() {
        LiveUpgrader x = new LiveUpgrader();
        T.due(x.stagedFields(0), LiveUpgrader.NO_SUCH_CLASS);
        x.addClass(6);
        x.addClass(128);
        T.due(x.stagedFields(0), LiveUpgrader.NOT_STAGED);
        T.due(x.stagedFields(2), LiveUpgrader.NO_SUCH_CLASS);
        T.due(x.stagedFields(-1), LiveUpgrader.NO_SUCH_CLASS);
        x.stage(0);
        T.due(x.stagedFields(0), 6);
        T.due(x.stagedFields(1), LiveUpgrader.NOT_STAGED);
        x.addField(0, 7, 1);
        T.due(x.stagedFields(0), 134);
        x.dropField(0, 1);
        T.due(x.stagedFields(0), 132);
        x.renameField(0, 7, 0);
        T.due(x.stagedFields(0), 5);
        x.scaleField(0, 0, 2);
        T.due(x.stagedFields(0), 5);
        x.mergeField(0, 0, 2);
        T.due(x.stagedFields(0), 4);
        T.due(x.fields(0, 0), 6);
        x.activate(0);
        T.due(x.stagedFields(0), LiveUpgrader.NOT_STAGED);
        x.stage(0);
        T.due(x.stagedFields(0), 4);
    }

    private static void activate() {
        LiveUpgrader x = new LiveUpgrader();
        T.due(x.activate(0), LiveUpgrader.NO_SUCH_CLASS);
        x.addClass(1);
        T.due(x.activate(0), LiveUpgrader.NOT_STAGED);
        T.due(x.activate(1), LiveUpgrader.NO_SUCH_CLASS);
        T.due(x.activate(-1), LiveUpgrader.NO_SUCH_CLASS);
        x.stage(0);
        T.due(x.activate(0), 1);
        T.due(x.activate(0), LiveUpgrader.NOT_STAGED);
        T.due(x.currentVersion(0), 1);
        T.due(x.discard(0), LiveUpgrader.NOT_STAGED);
        x.stage(0);
        T.due(x.activate(0), 2);
        T.due(x.currentVersion(0), 2);
    }

    private static void discard() {
        LiveUpgrader x = new LiveUpgrader();
        T.due(x.discard(0), LiveUpgrader.NO_SUCH_CLASS);
        x.addClass(1);
        T.due(x.discard(0), LiveUpgrader.NOT_STAGED);
        T.due(x.discard(1), LiveUpgrader.NO_SUCH_CLASS);
        T.due(x.discard(-1), LiveUpgrader.NO_SUCH_CLASS);
        x.stage(0);
        T.due(x.discard(0), 0);
        T.due(x.discard(0), LiveUpgrader.NOT_STAGED);
        x.stage(0);
        x.addField(0, 1, 5);
        x.addField(0, 2, 5);
        T.due(x.discard(0), 2);
        T.due(x.stagedFields(0), LiveUpgrader.NOT_STAGED);
        T.due(x.currentVersion(0), 0);
        T.due(x.fields(0, 1), LiveUpgrader.NO_SUCH_VERSION);
        T.due(x.stage(0), 1);
        T.due(x.stagedFields(0), 1);
        T.due(x.addField(0, 1, 6), 1);
        T.due(x.activate(0), 1);
        T.due(x.fields(0, 1), 3);
        x.stage(0);
        T.due(x.discard(0), 0);
    }

    private static void separateSimulators() {
        LiveUpgrader x = new LiveUpgrader();
        LiveUpgrader y = new LiveUpgrader();
        x.addClass(1);
        x.call(0, 0);
        x.create(0);
        T.due(y.currentVersion(0), LiveUpgrader.NO_SUCH_CLASS);
        T.due(y.depth(0), 0);
        T.due(y.objectVersion(0), LiveUpgrader.NO_SUCH_OBJECT);
        T.due(y.addClass(2), 0);
        T.due(x.fields(0, 0), 1);
    }
}
