import java.util.HashSet;
import java.util.Set;

/** The conventions, and promise 1. */
public final class ConventionsTest {
    private static final Due T = new Due("ConventionsTest");
    private static final String CONVENTIONS = "CONVENTIONS";
    private static final String NEW = "Promise 1";
    private static final int MAX = Integer.MAX_VALUE;

    private static final int[] ERRORS = {
        LiveUpgrader.NO_SUCH_CLASS, LiveUpgrader.NO_SUCH_VERSION, LiveUpgrader.NO_SUCH_THREAD,
        LiveUpgrader.NO_SUCH_OBJECT, LiveUpgrader.NO_SUCH_FIELD, LiveUpgrader.NO_FRAME,
        LiveUpgrader.BAD_VALUE, LiveUpgrader.NOT_STAGED, LiveUpgrader.ALREADY,
        LiveUpgrader.TOO_MANY, LiveUpgrader.WRONG_CLASS, LiveUpgrader.STALE, LiveUpgrader.BLOCKED,
        LiveUpgrader.CONVERSION_FAILED, LiveUpgrader.BUSY, LiveUpgrader.NONE
    };

    public static void main(String[] args) {
        errors();
        results();
        firstOfTheErrorsOfClasses();
        firstOfTheErrorsOfSteps();
        firstOfTheErrorsAtSixSteps();
        firstOfTheErrorsOfThreads();
        firstOfTheErrorsOfAnAccess();
        firstOfTheErrorsOfObjects();
        refusalsChangeNothing();
        refusalsWhenAllIsFull();
        none();
        newSimulator();
        newSimulatorsAreSeparate();
        T.end();
    }

    private static void errors() {
        T.holds(CONVENTIONS, "Methods report errors with the constants below, "
                + "which are all less than -2000000");
        Set<Integer> different = new HashSet<>();
        for (int error : ERRORS) {
            T.due(error < -2000000 ? 1 : 0, 1);
            different.add(error);
        }
        T.due(different.size(), 16);
    }

    private static void results() {
        T.holds(CONVENTIONS, "all other results are from -1000000 to 1000000");
        for (int sign : new int[] {1, -1}) {
            LiveUpgrader x = Setting.objects(3, 1);
            T.due(x.write(0, 0, 0, sign * 1000000), 0);
            T.due(x.write(0, 0, 1, sign * 1000000), 0);
            T.due(x.read(0, 0, 0), sign * 1000000);
            T.due(x.peek(0, 0), sign * 1000000);
            T.due(x.write(0, 0, 0, sign * 1000001), LiveUpgrader.BAD_VALUE);
            T.due(x.write(0, 0, 0, sign), sign * 1000000);
            x.finish(0);
            x.stage(0);
            x.mergeField(0, 0, 1);
            x.activate(0);
            x.call(0, 0);
            // the sum is one too far to be a result
            T.due(x.read(0, 0, 1), LiveUpgrader.CONVERSION_FAILED);
        }
    }

    private static void first() {
        T.holds(CONVENTIONS, "When several errors apply, "
                + "a method returns the one that its description lists first");
    }

    private static void firstOfTheErrorsOfClasses() {
        first();
        T.refused(Setting::sixClasses, x -> x.addClass(256), LiveUpgrader.BAD_VALUE);
        T.refused(Setting::sixClasses, x -> x.addClass(-1), LiveUpgrader.BAD_VALUE);
        T.refused(() -> Setting.classes(1), x -> x.fields(1, 1), LiveUpgrader.NO_SUCH_CLASS);
        T.refused(() -> Setting.classes(1), x -> x.fields(-1, -1), LiveUpgrader.NO_SUCH_CLASS);
        // version 0 is the current one, and runs
        T.refused(() -> Setting.objects(1, 1), x -> x.rollback(0), LiveUpgrader.NO_SUCH_VERSION);
    }

    private static void firstOfTheErrorsOfSteps() {
        first();
        T.due(Setting.classes(1).addField(1, 8, MAX), LiveUpgrader.NO_SUCH_CLASS);
        T.due(Setting.classes(1).addField(0, 8, 0), LiveUpgrader.NOT_STAGED);
        T.due(Setting.classes(1).addField(0, 1, 1000001), LiveUpgrader.NOT_STAGED);
        T.due(Setting.staged(1).addField(0, 0, 1000001), LiveUpgrader.BAD_VALUE);
        T.due(Setting.staged(1).addField(0, 0, -1000001), LiveUpgrader.BAD_VALUE);
        T.due(Setting.classes(1).dropField(1, 8), LiveUpgrader.NO_SUCH_CLASS);
        T.due(Setting.classes(1).dropField(0, 1), LiveUpgrader.NOT_STAGED);
        T.due(Setting.classes(1).renameField(1, 8, 8), LiveUpgrader.NO_SUCH_CLASS);
        T.due(Setting.classes(1).renameField(0, 1, 2), LiveUpgrader.NOT_STAGED);
        T.due(Setting.classes(1).renameField(0, 0, 8), LiveUpgrader.NOT_STAGED);
        T.due(Setting.classes(1).renameField(0, 0, 0), LiveUpgrader.NOT_STAGED);
        T.due(Setting.staged(1).renameField(0, 1, 8), LiveUpgrader.NO_SUCH_FIELD);
        T.due(Setting.staged(1).renameField(0, 1, -1), LiveUpgrader.NO_SUCH_FIELD);
        T.due(Setting.staged(1).renameField(0, 1, 0), LiveUpgrader.NO_SUCH_FIELD);
        T.due(Setting.staged(1).renameField(0, 1, 1), LiveUpgrader.NO_SUCH_FIELD);
        T.due(Setting.staged(1).renameField(0, 8, 8), LiveUpgrader.NO_SUCH_FIELD);
        T.due(Setting.classes(1).scaleField(1, 8, MAX), LiveUpgrader.NO_SUCH_CLASS);
        T.due(Setting.classes(1).scaleField(0, 1, 1), LiveUpgrader.NOT_STAGED);
        T.due(Setting.classes(1).scaleField(0, 0, 100001), LiveUpgrader.NOT_STAGED);
        T.due(Setting.staged(1).scaleField(0, 1, 100001), LiveUpgrader.NO_SUCH_FIELD);
        T.due(Setting.staged(1).scaleField(0, 8, -100001), LiveUpgrader.NO_SUCH_FIELD);
        T.due(Setting.classes(1).mergeField(1, 8, 8), LiveUpgrader.NO_SUCH_CLASS);
        T.due(Setting.classes(1).mergeField(0, 1, 2), LiveUpgrader.NOT_STAGED);
        T.due(Setting.classes(1).mergeField(0, 0, 0), LiveUpgrader.NOT_STAGED);
        T.due(Setting.staged(1).mergeField(0, 1, 1), LiveUpgrader.NO_SUCH_FIELD);
        T.due(Setting.staged(1).mergeField(0, 8, 8), LiveUpgrader.NO_SUCH_FIELD);
    }

    /** TOO_MANY comes last everywhere. The staged version has the fields 0 and 1. */
    private static void firstOfTheErrorsAtSixSteps() {
        first();
        T.refused(Setting::sixSteps, x -> x.addField(0, 8, 0), LiveUpgrader.BAD_VALUE);
        T.refused(Setting::sixSteps, x -> x.addField(0, 2, 1000001), LiveUpgrader.BAD_VALUE);
        T.refused(Setting::sixSteps, x -> x.addField(0, 0, 0), LiveUpgrader.ALREADY);
        T.refused(Setting::sixSteps, x -> x.dropField(0, 2), LiveUpgrader.NO_SUCH_FIELD);
        T.refused(Setting::sixSteps, x -> x.renameField(0, 2, 3), LiveUpgrader.NO_SUCH_FIELD);
        T.refused(Setting::sixSteps, x -> x.renameField(0, 0, 8), LiveUpgrader.BAD_VALUE);
        T.refused(Setting::sixSteps, x -> x.renameField(0, 0, 1), LiveUpgrader.ALREADY);
        T.refused(Setting::sixSteps, x -> x.renameField(0, 0, 0), LiveUpgrader.ALREADY);
        T.refused(Setting::sixSteps, x -> x.scaleField(0, 2, 1), LiveUpgrader.NO_SUCH_FIELD);
        T.refused(Setting::sixSteps, x -> x.scaleField(0, 0, 100001), LiveUpgrader.BAD_VALUE);
        T.refused(Setting::sixSteps, x -> x.mergeField(0, 2, 0), LiveUpgrader.NO_SUCH_FIELD);
        T.refused(Setting::sixSteps, x -> x.mergeField(0, 0, 2), LiveUpgrader.NO_SUCH_FIELD);
        T.refused(Setting::sixSteps, x -> x.mergeField(0, 0, 0), LiveUpgrader.BAD_VALUE);
    }

    private static void firstOfTheErrorsOfThreads() {
        first();
        T.due(Setting.classes(1).call(4, 1), LiveUpgrader.NO_SUCH_THREAD);
        T.due(Setting.classes(1).call(-1, -1), LiveUpgrader.NO_SUCH_THREAD);
        T.refused(() -> Setting.frames(8), x -> x.call(0, 1), LiveUpgrader.NO_SUCH_CLASS);
        T.refused(() -> Setting.frames(8), x -> x.call(3, -1), LiveUpgrader.NO_SUCH_CLASS);
        T.due(Setting.classes(1).frameClass(4, 0), LiveUpgrader.NO_SUCH_THREAD);
        T.due(Setting.classes(1).frameClass(-1, -1), LiveUpgrader.NO_SUCH_THREAD);
        T.due(Setting.classes(1).frameVersion(4, 0), LiveUpgrader.NO_SUCH_THREAD);
        T.due(Setting.classes(1).frameVersion(-1, -1), LiveUpgrader.NO_SUCH_THREAD);
        T.refused(() -> Setting.objects(1, 24), x -> x.create(4), LiveUpgrader.NO_SUCH_THREAD);
        T.refused(() -> Setting.objects(1, 24), x -> x.create(1), LiveUpgrader.NO_FRAME);
    }

    /** Those of an access stand in AccessTest too; here are a write's, whose value is bad. */
    private static void firstOfTheErrorsOfAnAccess() {
        first();
        for (int value : new int[] {1000001, -1000001}) {
            T.due(Setting.empty().write(4, 0, 0, value), LiveUpgrader.BAD_VALUE);
            T.due(Setting.empty().write(0, 0, 0, value), LiveUpgrader.BAD_VALUE);
            T.due(Setting.objects(1, 0).write(0, 0, 0, value), LiveUpgrader.BAD_VALUE);
            T.due(Setting.objects(1, 1).write(0, 0, 1, value), LiveUpgrader.BAD_VALUE);
            T.refused(AccessTest::wrongClass, x -> x.write(0, 0, 0, value),
                    LiveUpgrader.BAD_VALUE);
            T.refused(AccessTest::stale, x -> x.write(0, 0, 0, value), LiveUpgrader.BAD_VALUE);
            T.refused(AccessTest::blocked, x -> x.write(1, 0, 0, value), LiveUpgrader.BAD_VALUE);
            T.refused(AccessTest::failing, x -> x.write(0, 0, 0, value), LiveUpgrader.BAD_VALUE);
        }
    }

    private static void firstOfTheErrorsOfObjects() {
        first();
        T.due(Setting.objects(1, 1).peek(1, 8), LiveUpgrader.NO_SUCH_OBJECT);
        T.due(Setting.objects(1, 1).peek(-1, 0), LiveUpgrader.NO_SUCH_OBJECT);
        T.due(Setting.deletedObject().peek(1, 8), LiveUpgrader.NO_SUCH_OBJECT);
    }

    /** Two classes; of class 0 three versions and a staged one; frames, pins and old objects. */
    private static LiveUpgrader busy() {
        LiveUpgrader x = Setting.classes(3, 3);
        x.call(0, 0);
        x.create(0);
        x.create(0);
        x.write(0, 0, 0, 5);
        x.write(0, 1, 0, 900000);
        Setting.scaledVersion(x, 0, 2);
        x.call(1, 0);
        x.create(1);
        x.write(1, 2, 1, 7);
        Setting.scaledVersion(x, 0, 3);
        x.call(2, 1);
        x.create(2);
        x.call(2, 0);
        x.stage(0);
        x.addField(0, 2, 4);
        x.dropField(0, 1);
        return x;
    }

    private static void refusalsChangeNothing() {
        T.holds(CONVENTIONS, "A call that returns an error changes nothing");
        T.refused(ConventionsTest::busy, x -> x.addClass(256), LiveUpgrader.BAD_VALUE);
        T.refused(ConventionsTest::busy, x -> x.stage(0), LiveUpgrader.ALREADY);
        T.refused(ConventionsTest::busy, x -> x.stage(2), LiveUpgrader.NO_SUCH_CLASS);
        T.refused(ConventionsTest::busy, x -> x.addField(0, 3, 1000001), LiveUpgrader.BAD_VALUE);
        T.refused(ConventionsTest::busy, x -> x.addField(0, 2, 8), LiveUpgrader.ALREADY);
        T.refused(ConventionsTest::busy, x -> x.dropField(0, 1), LiveUpgrader.NO_SUCH_FIELD);
        T.refused(ConventionsTest::busy, x -> x.renameField(0, 1, 3),
                LiveUpgrader.NO_SUCH_FIELD);
        T.refused(ConventionsTest::busy, x -> x.renameField(0, 0, 8), LiveUpgrader.BAD_VALUE);
        T.refused(ConventionsTest::busy, x -> x.renameField(0, 0, 2), LiveUpgrader.ALREADY);
        T.refused(ConventionsTest::busy, x -> x.renameField(0, 0, 0), LiveUpgrader.ALREADY);
        T.refused(ConventionsTest::busy, x -> x.scaleField(0, 0, 100001),
                LiveUpgrader.BAD_VALUE);
        T.refused(ConventionsTest::busy, x -> x.scaleField(0, 1, 2), LiveUpgrader.NO_SUCH_FIELD);
        T.refused(ConventionsTest::busy, x -> x.mergeField(0, 0, 1),
                LiveUpgrader.NO_SUCH_FIELD);
        T.refused(ConventionsTest::busy, x -> x.mergeField(0, 2, 2), LiveUpgrader.BAD_VALUE);
        T.refused(ConventionsTest::busy, x -> x.activate(1), LiveUpgrader.NOT_STAGED);
        T.refused(ConventionsTest::busy, x -> x.discard(1), LiveUpgrader.NOT_STAGED);
        T.refused(ConventionsTest::busy, x -> x.rollback(0), LiveUpgrader.BUSY);
        T.refused(ConventionsTest::busy, x -> x.rollback(1), LiveUpgrader.NO_SUCH_VERSION);
        T.refused(ConventionsTest::busy, x -> x.call(0, 2), LiveUpgrader.NO_SUCH_CLASS);
        T.refused(ConventionsTest::busy, x -> x.finish(3), LiveUpgrader.NO_FRAME);
        T.refused(ConventionsTest::busy, x -> x.create(3), LiveUpgrader.NO_FRAME);
        T.refused(ConventionsTest::busy, x -> x.read(2, 3, 0), LiveUpgrader.WRONG_CLASS);
        T.refused(ConventionsTest::busy, x -> x.read(0, 1, 2), LiveUpgrader.NO_SUCH_FIELD);
        T.refused(ConventionsTest::busy, x -> x.write(0, 2, 0, 9), LiveUpgrader.STALE);
        T.refused(ConventionsTest::busy, x -> x.write(1, 0, 0, 9), LiveUpgrader.BLOCKED);
        T.refused(ConventionsTest::busy, x -> x.write(0, 0, 0, 1000001),
                LiveUpgrader.BAD_VALUE);
        T.refused(ConventionsTest::withoutOldPins, x -> x.write(1, 1, 0, 9),
                LiveUpgrader.CONVERSION_FAILED);
        T.refused(ConventionsTest::withoutOldPins, x -> x.read(1, 1, 0),
                LiveUpgrader.CONVERSION_FAILED);
        T.refused(ConventionsTest::busy, x -> x.convertAll(2), LiveUpgrader.NO_SUCH_CLASS);
    }

    private static LiveUpgrader withoutOldPins() {
        LiveUpgrader x = busy();
        x.finish(0);
        return x;
    }

    private static void refusalsWhenAllIsFull() {
        T.holds(CONVENTIONS, "A call that returns an error changes nothing");
        T.refused(Setting::sixClasses, x -> x.addClass(0), LiveUpgrader.TOO_MANY);
        T.refused(() -> Setting.versions(3, 8), x -> x.stage(0), LiveUpgrader.TOO_MANY);
        T.refused(Setting::sixSteps, x -> x.addField(0, 2, 0), LiveUpgrader.TOO_MANY);
        T.refused(Setting::sixSteps, x -> x.dropField(0, 0), LiveUpgrader.TOO_MANY);
        T.refused(Setting::sixSteps, x -> x.renameField(0, 0, 2), LiveUpgrader.TOO_MANY);
        T.refused(Setting::sixSteps, x -> x.scaleField(0, 0, 2), LiveUpgrader.TOO_MANY);
        T.refused(Setting::sixSteps, x -> x.mergeField(0, 0, 1), LiveUpgrader.TOO_MANY);
        T.refused(() -> Setting.frames(8), x -> x.call(0, 0), LiveUpgrader.TOO_MANY);
        T.refused(() -> Setting.objects(1, 24), x -> x.create(0), LiveUpgrader.TOO_MANY);
    }

    private static void none() {
        T.holds(CONVENTIONS, "NONE is not an error: it is returned only if no error applies");
        LiveUpgrader x = Setting.deletedObject();
        T.due(x.pinnedBy(0), LiveUpgrader.NONE);
        T.due(x.pinnedBy(2), LiveUpgrader.NONE);
        // no frame pins these either, but they do not exist
        T.due(x.pinnedBy(1), LiveUpgrader.NO_SUCH_OBJECT);
        T.due(x.pinnedBy(3), LiveUpgrader.NO_SUCH_OBJECT);
        T.due(x.pinnedBy(-1), LiveUpgrader.NO_SUCH_OBJECT);
        T.due(Setting.empty().pinnedBy(0), LiveUpgrader.NO_SUCH_OBJECT);
    }

    private static void newSimulator() {
        T.holds(NEW, "Creates a simulator without classes and objects");
        for (int type = 0; type < 6; type++) {
            T.due(new LiveUpgrader().currentVersion(type), LiveUpgrader.NO_SUCH_CLASS);
        }
        T.due(new LiveUpgrader().addClass(1), 0);
        for (int object = 0; object < 24; object++) {
            T.due(new LiveUpgrader().objectVersion(object), LiveUpgrader.NO_SUCH_OBJECT);
        }
        LiveUpgrader x = Setting.classes(1);
        x.call(0, 0);
        T.due(x.create(0), 0);
        T.holds(NEW, "all stacks are empty");
        for (int thread = 0; thread < 4; thread++) {
            T.due(new LiveUpgrader().depth(thread), 0);
            T.due(new LiveUpgrader().finish(thread), LiveUpgrader.NO_FRAME);
            T.due(new LiveUpgrader().frameVersion(thread, 0), LiveUpgrader.NO_FRAME);
        }
    }

    private static void newSimulatorsAreSeparate() {
        T.holds(NEW, "Creates a simulator without classes and objects");
        LiveUpgrader x = Setting.objects(1, 1);
        LiveUpgrader y = new LiveUpgrader();
        T.due(y.currentVersion(0), LiveUpgrader.NO_SUCH_CLASS);
        T.due(y.objectVersion(0), LiveUpgrader.NO_SUCH_OBJECT);
        T.due(y.depth(0), 0);
        T.due(y.addClass(2), 0);
        T.due(x.fields(0, 0), 1);
        T.due(y.fields(0, 0), 2);
        T.due(x.depth(0), 1);
    }
}
