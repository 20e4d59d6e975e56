/** The four examples of the document, call by call. */
public final class ExamplesTest {
    private static final Due T = new Due("ExamplesTest");

    public static void main(String[] args) {
        newVersion();
        olderFrame();
        failingConversion();
        allObjects();
        T.end();
    }

    private static void newVersion() {
        LiveUpgrader x = new LiveUpgrader();
        T.due(x.addClass(3), 0);
        T.due(x.call(0, 0), 1);
        T.due(x.create(0), 0);
        T.due(x.write(0, 0, 0, 5), 0);
        T.due(x.finish(0), 0);
        T.due(x.stage(0), 1);
        T.due(x.scaleField(0, 0, 10), 1);
        T.due(x.renameField(0, 1, 4), 2);
        T.due(x.activate(0), 1);
        T.due(x.call(0, 0), 1);
        T.due(x.peek(0, 0), 5);
        T.due(x.read(0, 0, 0), 50);
        T.due(x.objectVersion(0), 1);
        T.due(x.conversions(0), 1);
    }

    private static void olderFrame() {
        LiveUpgrader x = new LiveUpgrader();
        T.due(x.addClass(1), 0);
        T.due(x.call(0, 0), 1);
        T.due(x.create(0), 0);
        T.due(x.stage(0), 1);
        T.due(x.addField(0, 1, 7), 1);
        T.due(x.activate(0), 1);
        T.due(x.call(1, 0), 1);
        T.due(x.read(1, 0, 1), -2000013);
        T.due(x.pinnedBy(0), 0);
        T.due(x.finish(0), 0);
        T.due(x.read(1, 0, 1), 7);
        T.due(x.call(0, 0), 1);
        T.due(x.rollback(0), -2000015);
    }

    private static void failingConversion() {
        LiveUpgrader x = new LiveUpgrader();
        T.due(x.addClass(1), 0);
        T.due(x.call(0, 0), 1);
        T.due(x.create(0), 0);
        T.due(x.write(0, 0, 0, 900000), 0);
        T.due(x.finish(0), 0);
        T.due(x.stage(0), 1);
        T.due(x.scaleField(0, 0, 2), 1);
        T.due(x.activate(0), 1);
        T.due(x.call(0, 0), 1);
        T.due(x.read(0, 0, 0), -2000014);
        T.due(x.objectVersion(0), 0);
        T.due(x.convertAll(0), 0);
    }

    private static void allObjects() {
        LiveUpgrader x = new LiveUpgrader();
        T.due(x.addClass(1), 0);
        T.due(x.call(0, 0), 1);
        T.due(x.create(0), 0);
        T.due(x.write(0, 0, 0, 4), 0);
        T.due(x.finish(0), 0);
        T.due(x.stage(0), 1);
        T.due(x.scaleField(0, 0, 3), 1);
        T.due(x.activate(0), 1);
        T.due(x.convertAll(0), 1);
        T.due(x.peek(0, 0), 12);
        T.due(x.rollback(0), 0);
        T.due(x.peek(0, 0), 4);
        T.due(x.rollback(0), -2000002);
    }
}
