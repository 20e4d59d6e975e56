/** What is said of threads and frames, and the promises 15 to 20. */
public final class FramesTest {
    private static final Due T = new Due("FramesTest");
    private static final String THREADS = "THREADS AND FRAMES";
    private static final String CALL = "Promise 15";
    private static final String FINISH = "Promise 16";
    private static final String DEPTH = "Promise 17";
    private static final String CLASS = "Promise 18";
    private static final String VERSION = "Promise 19";
    private static final String OLD = "Promise 20";
    private static final int MIN = Integer.MIN_VALUE;
    private static final int MAX = Integer.MAX_VALUE;

    public static void main(String[] args) {
        fourThreads();
        eightFrames();
        emptyFirst();
        currentAtTheCall();
        keepsItsVersion();
        call();
        callRefused();
        finish();
        finishedFramesPinNothing();
        depth();
        frameClass();
        frameVersion();
        oldFrames();
        T.end();
    }

    /** Class 0 has version 1, class 1 version 2; thread 0 has frames 0/0, 1/0, 0/1 and 1/2. */
    private static LiveUpgrader mixed() {
        LiveUpgrader x = Setting.classes(1, 2);
        x.call(0, 0);
        Setting.nextVersion(x, 0);
        x.call(0, 1);
        x.call(0, 0);
        Setting.nextVersion(x, 1);
        Setting.nextVersion(x, 1);
        x.call(0, 1);
        return x;
    }

    // ---- the description

    private static void fourThreads() {
        T.holds(THREADS, "There are 4 threads, numbered from 0");
        LiveUpgrader x = Setting.classes(1);
        T.due(x.call(-1, 0), LiveUpgrader.NO_SUCH_THREAD);
        T.due(x.call(4, 0), LiveUpgrader.NO_SUCH_THREAD);
        for (int thread = 0; thread < 4; thread++) {
            // each has a stack of its own
            for (int frames = 1; frames <= thread + 1; frames++) {
                T.due(x.call(thread, 0), frames);
            }
        }
        for (int thread = 0; thread < 4; thread++) {
            T.due(x.depth(thread), thread + 1);
        }
    }

    private static void eightFrames() {
        T.holds(THREADS, "Each has a stack of up to 8 frames, numbered from 0 from the bottom to "
                + "the top");
        LiveUpgrader x = Setting.classes(1, 1, 1);
        for (int thread = 0; thread < 4; thread++) {
            for (int index = 0; index < 8; index++) {
                T.due(x.call(thread, (index + thread) % 3), index + 1);
            }
            T.due(x.call(thread, 0), LiveUpgrader.TOO_MANY);
            T.due(x.depth(thread), 8);
        }
        for (int thread = 0; thread < 4; thread++) {
            for (int index = 0; index < 8; index++) {
                T.due(x.frameClass(thread, index), (index + thread) % 3);
            }
            T.due(x.frameClass(thread, -1), LiveUpgrader.NO_FRAME);
            T.due(x.frameClass(thread, 8), LiveUpgrader.NO_FRAME);
        }
        // there is room for one again when one has returned
        T.due(x.finish(1), 7);
        T.due(x.call(1, 2), 8);
        T.due(x.frameClass(1, 7), 2);
        T.due(x.call(1, 2), LiveUpgrader.TOO_MANY);
        T.due(x.call(2, 2), LiveUpgrader.TOO_MANY);
    }

    private static void emptyFirst() {
        T.holds(THREADS, "initially it is empty");
        for (int thread = 0; thread < 4; thread++) {
            T.due(Setting.classes(1).depth(thread), 0);
            T.due(Setting.classes(1).finish(thread), LiveUpgrader.NO_FRAME);
            T.due(Setting.classes(1).create(thread), LiveUpgrader.NO_FRAME);
            T.due(Setting.classes(1).frameClass(thread, 0), LiveUpgrader.NO_FRAME);
            T.due(Setting.classes(1).call(thread, 0), 1);
        }
    }

    private static void currentAtTheCall() {
        T.holds(THREADS, "A frame runs the code of one version of a class, which is the current "
                + "version of that class at the time of the call");
        LiveUpgrader x = mixed();
        int[] versions = {0, 0, 1, 2};
        for (int index = 0; index < 4; index++) {
            T.due(x.frameVersion(0, index), versions[index]);
        }
        // not a staged one, and not one that was rolled back
        x.stage(0);
        x.call(1, 0);
        T.due(x.frameVersion(1, 0), 1);
        x.activate(0);
        x.rollback(0);
        x.call(1, 0);
        T.due(x.frameVersion(1, 1), 1);
    }

    private static void keepsItsVersion() {
        T.holds(THREADS, "It keeps that version until it returns, whatever versions are activated "
                + "meanwhile");
        LiveUpgrader x = Setting.objects(1, 1);
        for (int version = 1; version < 8; version++) {
            x.stage(0);
            x.renameField(0, version - 1, version);
            x.activate(0);
            T.due(x.frameVersion(0, 0), 0);
            // and it goes on to use that version's fields
            T.due(x.write(0, 0, 0, version), version - 1);
            T.due(x.read(0, 0, version), LiveUpgrader.NO_SUCH_FIELD);
        }
        T.due(x.create(0), 1);
        T.due(x.objectVersion(1), 0);
        x.finish(0);
        x.call(0, 0);
        T.due(x.frameVersion(0, 0), 7);
    }

    // ---- promise 15

    private static void call() {
        T.holds(CALL, "Pushes a frame that runs the current version of a class");
        LiveUpgrader x = Setting.classes(1, 2);
        Setting.nextVersion(x, 1);
        x.call(3, 0);
        x.call(3, 1);
        T.due(x.frameClass(3, 0), 0);
        T.due(x.frameVersion(3, 0), 0);
        T.due(x.frameClass(3, 1), 1);
        T.due(x.frameVersion(3, 1), 1);
        T.due(x.depth(3), 2);
        T.due(x.depth(2), 0);
        T.holds(CALL, "Returns the number of frames of the thread");
        for (int frames = 3; frames <= 8; frames++) {
            T.due(x.call(3, 1), frames);
        }
        T.due(x.call(2, 1), 1);
    }

    private static void callRefused() {
        Errors.noSuchThread(T, CALL, (x, thread) -> x.call(thread, 0));
        Errors.noSuchClass(T, CALL, (x, type) -> x.call(0, type));
        T.holds(CALL, "TOO_MANY if the thread has 8 frames");
        for (int thread = 0; thread < 4; thread++) {
            int t = thread;
            T.due(Setting.frames(7).call(t, 0), 8);
            T.refused(() -> Setting.frames(8), x -> x.call(t, 0), LiveUpgrader.TOO_MANY);
        }
        // another thread's frames do not count
        LiveUpgrader x = Setting.classes(1);
        for (int frame = 0; frame < 8; frame++) {
            x.call(0, 0);
        }
        T.due(x.call(1, 0), 1);
        T.due(x.call(0, 0), LiveUpgrader.TOO_MANY);
        x.finish(0);
        T.due(x.call(0, 0), 8);
    }

    // ---- promise 16

    private static void finish() {
        T.holds(FINISH, "Returns the number of frames that are left");
        LiveUpgrader x = Setting.frames(8);
        for (int thread = 0; thread < 4; thread++) {
            for (int left = 7; left >= 0; left--) {
                T.due(x.finish(thread), left);
                T.due(x.depth(thread), left);
            }
        }
        Errors.noSuchThread(T, FINISH, (y, thread) -> y.finish(thread));
        T.holds(FINISH, "NO_FRAME if its stack is empty");
        for (int thread = 0; thread < 4; thread++) {
            int t = thread;
            T.refused(() -> Setting.classes(1), y -> y.finish(t), LiveUpgrader.NO_FRAME);
            T.due(Setting.frames(1).finish(t), 0);
            T.refused(() -> {
                LiveUpgrader y = Setting.frames(1);
                y.finish(t);
                return y;
            }, y -> y.finish(t), LiveUpgrader.NO_FRAME);
        }
    }

    private static void finishedFramesPinNothing() {
        T.holds(FINISH, "Pops the top frame, which no longer pins anything");
        LiveUpgrader x = mixed();
        T.due(x.create(0), 0);
        T.due(x.create(0), 1);
        T.due(x.pinnedBy(0), 2);
        x.finish(0);
        T.due(x.pinnedBy(0), LiveUpgrader.NONE);
        T.due(x.pinnedBy(1), LiveUpgrader.NONE);
        // the frames below stay as they were
        T.due(x.depth(0), 3);
        T.due(x.frameClass(0, 2), 0);
        T.due(x.frameVersion(0, 2), 1);
        T.due(x.frameClass(0, 3), LiveUpgrader.NO_FRAME);
        // a new frame at the same place has none of the pins
        T.due(x.call(0, 1), 4);
        T.due(x.pinnedBy(0), LiveUpgrader.NONE);
        // a pin of the frame below stays
        x.read(0, 0, 1);
        x.call(0, 1);
        x.read(0, 0, 1);
        x.read(0, 1, 1);
        x.finish(0);
        T.due(x.pinnedBy(0), 2);
        T.due(x.pinnedBy(1), LiveUpgrader.NONE);
        x.finish(0);
        T.due(x.pinnedBy(0), LiveUpgrader.NONE);
    }

    // ---- promises 17 to 19

    private static void depth() {
        T.holds(DEPTH, "Returns the number of frames of a thread");
        LiveUpgrader x = Setting.classes(1);
        x.call(3, 0);
        x.call(3, 0);
        x.call(1, 0);
        T.due(x.depth(3), 2);
        T.due(x.depth(1), 1);
        x.finish(3);
        T.due(x.depth(3), 1);
        T.holds(DEPTH, "Returns the number");
        T.due(x.depth(0), 0);
        for (int frames = 0; frames <= 8; frames++) {
            T.due(Setting.frames(frames).depth(2), frames);
        }
        T.due(Setting.frames(9).depth(2), 8);
        Errors.noSuchThread(T, DEPTH, (y, thread) -> y.depth(thread));
    }

    private static void frameClass() {
        T.holds(CLASS, "Returns the class of a frame");
        LiveUpgrader x = mixed();
        T.due(x.frameClass(0, 1), 1);
        T.due(x.frameClass(0, 2), 0);
        T.holds(CLASS, "index: number of the frame, 0 for the bottom one");
        T.due(x.frameClass(0, 0), 0);
        T.due(x.frameClass(0, 3), 1);
        T.holds(CLASS, "Returns the class");
        LiveUpgrader six = Setting.sixClasses();
        for (int type = 5; type >= 0; type--) {
            six.call(2, type);
            T.due(six.frameClass(2, 5 - type), type);
        }
        Errors.noSuchThread(T, CLASS, (y, thread) -> y.frameClass(thread, 0));
        noSuchFrame(CLASS, (y, index) -> y.frameClass(0, index));
    }

    private static void frameVersion() {
        T.holds(VERSION, "Returns the version that a frame runs");
        LiveUpgrader x = mixed();
        T.due(x.frameVersion(0, 1), 0);
        T.due(x.frameVersion(0, 2), 1);
        T.holds(VERSION, "index: number of the frame, 0 for the bottom one");
        T.due(x.frameVersion(0, 0), 0);
        T.due(x.frameVersion(0, 3), 2);
        T.holds(VERSION, "Returns the version");
        LiveUpgrader eight = Setting.classes(1);
        for (int version = 0; version < 8; version++) {
            eight.call(2, 0);
            T.due(eight.frameVersion(2, version), version);
            Setting.nextVersion(eight, 0);
        }
        Errors.noSuchThread(T, VERSION, (y, thread) -> y.frameVersion(thread, 0));
        noSuchFrame(VERSION, (y, index) -> y.frameVersion(0, index));
    }

    private static void noSuchFrame(String heading, Errors.Numbered call) {
        T.holds(heading, "NO_FRAME if it has no such frame");
        for (int index : new int[] {0, 1, -1, MIN, MAX}) {
            T.refused(() -> Setting.classes(1), x -> call.ask(x, index), LiveUpgrader.NO_FRAME);
        }
        for (int index : new int[] {4, 5, 7, 8, -1, 32, MIN, MAX}) {
            T.refused(FramesTest::mixed, x -> call.ask(x, index), LiveUpgrader.NO_FRAME);
        }
        T.not(call.ask(mixed(), 0), LiveUpgrader.NO_FRAME);
        T.not(call.ask(mixed(), 3), LiveUpgrader.NO_FRAME);
        T.refused(() -> Setting.frames(8), x -> call.ask(x, 8), LiveUpgrader.NO_FRAME);
        T.not(call.ask(Setting.frames(8), 7), LiveUpgrader.NO_FRAME);
        // the frame that has returned, and those of another thread
        LiveUpgrader x = mixed();
        x.finish(0);
        T.due(call.ask(x, 3), LiveUpgrader.NO_FRAME);
        T.not(call.ask(x, 2), LiveUpgrader.NO_FRAME);
        LiveUpgrader y = Setting.classes(1);
        y.call(1, 0);
        T.due(call.ask(y, 0), LiveUpgrader.NO_FRAME);
    }

    // ---- promise 20

    private static void oldFrames() {
        T.holds(OLD, "Returns the number of frames, of all threads, that run a version of a class "
                + "that is not the current one");
        LiveUpgrader x = Setting.classes(1, 2);
        x.call(0, 0);
        x.call(0, 1);
        x.call(0, 0);
        x.call(3, 0);
        T.due(x.oldFrames(0), 0);
        x.stage(0);
        T.due(x.oldFrames(0), 0);
        x.activate(0);
        T.due(x.oldFrames(0), 3);
        T.due(x.oldFrames(1), 0);
        x.call(2, 0);
        T.due(x.oldFrames(0), 3);
        Setting.nextVersion(x, 0);
        T.due(x.oldFrames(0), 4);
        T.due(x.rollback(0), 1);
        T.due(x.oldFrames(0), 3);
        x.finish(2);
        T.due(x.rollback(0), 0);
        T.due(x.oldFrames(0), 0);
        Setting.nextVersion(x, 1);
        T.due(x.oldFrames(1), 1);
        x.finish(0);
        x.finish(0);
        T.due(x.oldFrames(1), 0);
        T.holds(OLD, "Returns the number");
        T.due(Setting.classes(1).oldFrames(0), 0);
        LiveUpgrader full = Setting.frames(8);
        T.due(full.oldFrames(0), 0);
        Setting.nextVersion(full, 0);
        T.due(full.oldFrames(0), 32);
        full.finish(3);
        full.call(3, 0);
        T.due(full.oldFrames(0), 31);
        Errors.noSuchClass(T, OLD, (y, type) -> y.oldFrames(type));
    }
}
