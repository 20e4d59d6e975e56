/** The errors that many methods share, each with the edges that its sentence names. */
final class Errors {
    static final int MIN = Integer.MIN_VALUE;
    static final int MAX = Integer.MAX_VALUE;

    /** A call with the number of a class, a thread or an object. */
    interface Numbered {
        int ask(LiveUpgrader x, int number);
    }

    private Errors() { }

    static void noSuchClass(Due t, String heading, Numbered call) {
        t.holds(heading, "NO_SUCH_CLASS if the class does not exist");
        for (int type : new int[] {0, 1, -1, MIN, MAX}) {
            t.refused(Setting::empty, x -> call.ask(x, type), LiveUpgrader.NO_SUCH_CLASS);
        }
        for (int type : new int[] {2, 5, 6, -1, -2, 32, MIN, MAX}) {
            t.refused(() -> Setting.classes(3, 3), x -> call.ask(x, type),
                    LiveUpgrader.NO_SUCH_CLASS);
        }
        t.not(call.ask(Setting.classes(3, 3), 0), LiveUpgrader.NO_SUCH_CLASS);
        t.not(call.ask(Setting.classes(3, 3), 1), LiveUpgrader.NO_SUCH_CLASS);
        t.refused(Setting::sixClasses, x -> call.ask(x, 6), LiveUpgrader.NO_SUCH_CLASS);
        t.not(call.ask(Setting.sixClasses(), 5), LiveUpgrader.NO_SUCH_CLASS);
    }

    static void notStaged(Due t, String heading, Numbered call) {
        t.holds(heading, "NOT_STAGED if it has no staged version");
        t.refused(() -> Setting.classes(3), x -> call.ask(x, 0), LiveUpgrader.NOT_STAGED);
        t.refused(Errors::onlyTheOtherStaged, x -> call.ask(x, 0), LiveUpgrader.NOT_STAGED);
        t.refused(Errors::activated, x -> call.ask(x, 0), LiveUpgrader.NOT_STAGED);
        t.refused(Errors::discarded, x -> call.ask(x, 0), LiveUpgrader.NOT_STAGED);
        t.refused(Errors::rolledBack, x -> call.ask(x, 0), LiveUpgrader.NOT_STAGED);
        t.refused(() -> Setting.versions(3, 8), x -> call.ask(x, 0), LiveUpgrader.NOT_STAGED);
        t.not(call.ask(Setting.staged(3), 0), LiveUpgrader.NOT_STAGED);
        t.not(call.ask(onlyTheOtherStaged(), 1), LiveUpgrader.NOT_STAGED);
    }

    private static LiveUpgrader onlyTheOtherStaged() {
        LiveUpgrader x = Setting.classes(3, 3);
        x.stage(1);
        return x;
    }

    private static LiveUpgrader activated() {
        LiveUpgrader x = Setting.staged(3);
        x.scaleField(0, 0, 2);
        x.activate(0);
        return x;
    }

    private static LiveUpgrader discarded() {
        LiveUpgrader x = Setting.staged(3);
        x.scaleField(0, 0, 2);
        x.discard(0);
        return x;
    }

    private static LiveUpgrader rolledBack() {
        LiveUpgrader x = activated();
        x.stage(0);
        x.scaleField(0, 0, 3);
        x.rollback(0);
        return x;
    }

    /** The call would append a step to the staged version of Setting.staged(3). */
    static void sixSteps(Due t, String heading, Numbered call) {
        t.holds(heading, "TOO_MANY if there are 6 steps");
        LiveUpgrader fiveSteps = Setting.staged(3);
        for (int step = 0; step < 5; step++) {
            fiveSteps.scaleField(0, 0, 2);
        }
        t.due(call.ask(fiveSteps, 0), 6);
        t.refused(Setting::sixSteps, x -> call.ask(x, 0), LiveUpgrader.TOO_MANY);
        t.refused(() -> {
            LiveUpgrader x = Setting.sixSteps();
            call.ask(x, 0);
            return x;
        }, x -> call.ask(x, 0), LiveUpgrader.TOO_MANY);
        // the steps of an earlier converter and of another class do not count
        LiveUpgrader again = Setting.sixSteps();
        again.activate(0);
        again.stage(0);
        t.due(call.ask(again, 0), 1);
        LiveUpgrader other = Setting.sixSteps();
        other.addClass(3);
        other.stage(1);
        t.due(call.ask(other, 1), 1);
    }

    static void noSuchThread(Due t, String heading, Numbered call) {
        t.holds(heading, "NO_SUCH_THREAD if the thread does not exist");
        for (int thread : new int[] {-1, 4, 5, 32, MIN, MAX}) {
            t.refused(Setting::empty, x -> call.ask(x, thread), LiveUpgrader.NO_SUCH_THREAD);
            t.refused(() -> Setting.frames(1), x -> call.ask(x, thread),
                    LiveUpgrader.NO_SUCH_THREAD);
        }
        for (int thread = 0; thread < 4; thread++) {
            t.not(call.ask(Setting.frames(1), thread), LiveUpgrader.NO_SUCH_THREAD);
            t.not(call.ask(Setting.empty(), thread), LiveUpgrader.NO_SUCH_THREAD);
        }
    }

    /** The call would be answered for an object of Setting.objects(1, n). */
    static void noSuchObject(Due t, String heading, Numbered call) {
        t.holds(heading, "NO_SUCH_OBJECT if the object does not exist");
        noSuchObject(t, call);
    }

    /** For the sentence that already stands. */
    static void noSuchObject(Due t, Numbered call) {
        for (int object : new int[] {0, 1, -1, MIN, MAX}) {
            t.refused(() -> Setting.objects(1, 0), x -> call.ask(x, object),
                    LiveUpgrader.NO_SUCH_OBJECT);
        }
        for (int object : new int[] {2, 3, 23, 24, 32, 33, -1, -32, MIN, MAX}) {
            t.refused(() -> Setting.objects(1, 2), x -> call.ask(x, object),
                    LiveUpgrader.NO_SUCH_OBJECT);
        }
        t.not(call.ask(Setting.objects(1, 2), 0), LiveUpgrader.NO_SUCH_OBJECT);
        t.not(call.ask(Setting.objects(1, 2), 1), LiveUpgrader.NO_SUCH_OBJECT);
        t.refused(() -> Setting.objects(1, 24), x -> call.ask(x, 24),
                LiveUpgrader.NO_SUCH_OBJECT);
        t.not(call.ask(Setting.objects(1, 24), 23), LiveUpgrader.NO_SUCH_OBJECT);
        // a deleted one, between two that exist
        t.refused(Setting::deletedObject, x -> call.ask(x, 1), LiveUpgrader.NO_SUCH_OBJECT);
        t.not(call.ask(Setting.deletedObject(), 0), LiveUpgrader.NO_SUCH_OBJECT);
        t.not(call.ask(Setting.deletedObject(), 2), LiveUpgrader.NO_SUCH_OBJECT);
    }
}
