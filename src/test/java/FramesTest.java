/** Promises 15 to 20: threads and frames. */
public final class FramesTest {
    private static final Due T = new Due("FramesTest");
    private static final int MIN = Integer.MIN_VALUE;
    private static final int MAX = Integer.MAX_VALUE;

    public static void main(String[] args) {
        call();
        finish();
        depth();
        frameClassAndVersion();
        oldFrames();
        T.end();
    }

    private static void call() {
        LiveUpgrader x = new LiveUpgrader();
        T.due(x.call(4, 0), LiveUpgrader.NO_SUCH_THREAD);
        T.due(x.call(-1, 0), LiveUpgrader.NO_SUCH_THREAD);
        T.due(x.call(MIN, 0), LiveUpgrader.NO_SUCH_THREAD);
        T.due(x.call(MAX, MAX), LiveUpgrader.NO_SUCH_THREAD);
        T.due(x.call(3, 0), LiveUpgrader.NO_SUCH_CLASS);
        x.addClass(1);
        T.due(x.call(0, 1), LiveUpgrader.NO_SUCH_CLASS);
        T.due(x.call(0, -1), LiveUpgrader.NO_SUCH_CLASS);
        for (int thread = 0; thread < 4; thread++) {
            for (int frames = 1; frames <= 8; frames++) {
                T.due(x.call(thread, 0), frames);
            }
            T.due(x.call(thread, 0), LiveUpgrader.TOO_MANY);
            T.due(x.call(thread, 1), LiveUpgrader.NO_SUCH_CLASS);
            T.due(x.depth(thread), 8);
            T.due(x.frameClass(thread, 7), 0);
            T.due(x.frameClass(thread, 8), LiveUpgrader.NO_FRAME);
            T.due(x.frameVersion(thread, 8), LiveUpgrader.NO_FRAME);
        }
        T.due(x.finish(1), 7);
        T.due(x.call(1, 0), 8);
        T.due(x.call(1, 0), LiveUpgrader.TOO_MANY);
    }

    private static void finish() {
        LiveUpgrader x = new LiveUpgrader();
        x.addClass(1);
        T.due(x.finish(4), LiveUpgrader.NO_SUCH_THREAD);
        T.due(x.finish(-1), LiveUpgrader.NO_SUCH_THREAD);
        T.due(x.finish(0), LiveUpgrader.NO_FRAME);
        x.call(0, 0);
        x.call(0, 0);
        x.create(0);
        T.due(x.finish(1), LiveUpgrader.NO_FRAME);
        T.due(x.pinnedBy(0), 0);
        T.due(x.finish(0), 1);
        T.due(x.pinnedBy(0), LiveUpgrader.NONE);
        T.due(x.call(0, 0), 2);
        T.due(x.pinnedBy(0), LiveUpgrader.NONE);
        T.due(x.finish(0), 1);
        T.due(x.finish(0), 0);
        T.due(x.finish(0), LiveUpgrader.NO_FRAME);
        T.due(x.depth(0), 0);
    }

    private static void depth() {
        LiveUpgrader x = new LiveUpgrader();
        x.addClass(1);
        T.due(x.depth(-1), LiveUpgrader.NO_SUCH_THREAD);
        T.due(x.depth(4), LiveUpgrader.NO_SUCH_THREAD);
        T.due(x.depth(MIN), LiveUpgrader.NO_SUCH_THREAD);
        T.due(x.depth(MAX), LiveUpgrader.NO_SUCH_THREAD);
        T.due(x.depth(3), 0);
        x.call(3, 0);
        x.call(3, 0);
        T.due(x.depth(3), 2);
        T.due(x.depth(0), 0);
        x.finish(3);
        T.due(x.depth(3), 1);
    }

    private static void frameClassAndVersion() {
        LiveUpgrader x = new LiveUpgrader();
        x.addClass(1);
        x.addClass(2);
        T.due(x.frameClass(4, 0), LiveUpgrader.NO_SUCH_THREAD);
        T.due(x.frameClass(-1, -1), LiveUpgrader.NO_SUCH_THREAD);
        T.due(x.frameVersion(4, 0), LiveUpgrader.NO_SUCH_THREAD);
        T.due(x.frameVersion(-1, -1), LiveUpgrader.NO_SUCH_THREAD);
        T.due(x.frameClass(0, 0), LiveUpgrader.NO_FRAME);
        T.due(x.frameVersion(0, 0), LiveUpgrader.NO_FRAME);
        x.call(0, 0);
        x.stage(0);
        x.activate(0);
        x.call(0, 1);
        x.call(0, 0);
        x.stage(1);
        x.activate(1);
        x.stage(1);
        x.activate(1);
        x.call(0, 1);
        int[] classes = {0, 1, 0, 1};
        int[] versions = {0, 0, 1, 2};
        for (int index = 0; index < 4; index++) {
            T.due(x.frameClass(0, index), classes[index]);
            T.due(x.frameVersion(0, index), versions[index]);
        }
        int[] none = {-1, 4, 8, MIN, MAX};
        for (int index : none) {
            T.due(x.frameClass(0, index), LiveUpgrader.NO_FRAME);
            T.due(x.frameVersion(0, index), LiveUpgrader.NO_FRAME);
        }
        T.due(x.frameClass(1, 0), LiveUpgrader.NO_FRAME);
        T.due(x.frameVersion(1, 0), LiveUpgrader.NO_FRAME);
        x.finish(0);
        T.due(x.frameClass(0, 3), LiveUpgrader.NO_FRAME);
        T.due(x.frameVersion(0, 3), LiveUpgrader.NO_FRAME);
        T.due(x.frameVersion(0, 2), 1);
    }

    private static void oldFrames() {
        LiveUpgrader x = new LiveUpgrader();
        T.due(x.oldFrames(0), LiveUpgrader.NO_SUCH_CLASS);
        x.addClass(1);
        x.addClass(2);
        T.due(x.oldFrames(-1), LiveUpgrader.NO_SUCH_CLASS);
        T.due(x.oldFrames(2), LiveUpgrader.NO_SUCH_CLASS);
        T.due(x.oldFrames(0), 0);
        x.call(0, 0);
        x.call(0, 1);
        x.call(0, 0);
        x.call(3, 0);
        T.due(x.oldFrames(0), 0);
        x.stage(0);
        T.due(x.oldFrames(0), 0);
        x.activate(0);
        T.due(x.oldFrames(0), 3);
        T.due(x.oldFrames(1), 0);
        x.call(2, 0);
        T.due(x.oldFrames(0), 3);
        x.stage(0);
        x.activate(0);
        T.due(x.oldFrames(0), 4);
        T.due(x.rollback(0), 1);
        T.due(x.oldFrames(0), 3);
        x.finish(2);
        T.due(x.rollback(0), 0);
        T.due(x.oldFrames(0), 0);
        x.stage(1);
        x.activate(1);
        T.due(x.oldFrames(1), 1);
        x.finish(0);
        x.finish(0);
        T.due(x.oldFrames(1), 0);
    }
}
