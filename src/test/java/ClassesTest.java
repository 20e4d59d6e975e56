/** What is said of classes and versions, and the promises 2 to 6, 12 and 13. */
public final class ClassesTest {
    private static final Due T = new Due("ClassesTest");
    private static final String CLASSES = "CLASSES AND VERSIONS";
    private static final String ADD = "Promise 2";
    private static final String CURRENT = "Promise 3";
    private static final String FIELDS = "Promise 4";
    private static final String STAGE = "Promise 5";
    private static final String STAGED = "Promise 6";
    private static final String ACTIVATE = "Promise 12";
    private static final String DISCARD = "Promise 13";
    private static final int MIN = Integer.MIN_VALUE;
    private static final int MAX = Integer.MAX_VALUE;

    public static void main(String[] args) {
        sixClasses();
        eightVersions();
        newestIsCurrent();
        fieldNumbers();
        fieldBits();
        converters();
        oneStagedVersion();
        stepsOfAStagedVersion();
        stepsChangeTheFields();
        activatingMakesCurrent();
        addClass();
        addClassRefused();
        currentVersion();
        fields();
        fieldsRefused();
        stage();
        stageRefused();
        stagedFields();
        activate();
        discard();
        T.end();
    }

    // ---- the description

    private static void sixClasses() {
        T.holds(CLASSES, "There are up to 6 classes, numbered from 0 in the order in which "
                + "they were added");
        LiveUpgrader x = new LiveUpgrader();
        for (int type = 0; type < 6; type++) {
            T.due(x.addClass(1 << type), type);
        }
        T.due(x.addClass(1), LiveUpgrader.TOO_MANY);
        T.due(x.addClass(1), LiveUpgrader.TOO_MANY);
        for (int type = 0; type < 6; type++) {
            T.due(x.fields(type, 0), 1 << type);
        }
        T.due(x.currentVersion(6), LiveUpgrader.NO_SUCH_CLASS);
        T.due(x.currentVersion(7), LiveUpgrader.NO_SUCH_CLASS);
    }

    private static void eightVersions() {
        T.holds(CLASSES, "A class has up to 8 versions, numbered from 0");
        LiveUpgrader x = Setting.classes(1);
        for (int version = 0; version < 8; version++) {
            T.due(x.fields(0, version), 1);
            T.due(x.fields(0, version + 1), LiveUpgrader.NO_SUCH_VERSION);
            T.due(x.stage(0), version < 7 ? version + 1 : LiveUpgrader.TOO_MANY);
            T.due(x.activate(0), version < 7 ? version + 1 : LiveUpgrader.NOT_STAGED);
        }
        T.due(x.currentVersion(0), 7);
        // a class that is full leaves the others their room
        x.addClass(1);
        T.due(x.stage(1), 1);
    }

    private static void newestIsCurrent() {
        T.holds(CLASSES, "the newest one is the current version");
        LiveUpgrader x = Setting.classes(1);
        T.due(x.currentVersion(0), 0);
        for (int version = 1; version < 8; version++) {
            Setting.nextVersion(x, 0);
            T.due(x.currentVersion(0), version);
            x.call(0, 0);
            T.due(x.frameVersion(0, 0), version);
            x.finish(0);
        }
        for (int version = 6; version >= 0; version--) {
            x.rollback(0);
            T.due(x.currentVersion(0), version);
        }
    }

    private static void fieldNumbers() {
        T.holds(CLASSES, "A version has a set of fields, which are numbers from 0 to 7");
        LiveUpgrader x = Setting.objects(255, 1);
        for (int field = 0; field < 8; field++) {
            T.due(x.read(0, 0, field), 0);
        }
        for (int field : new int[] {-1, 8, 9, 31, 32, 39, -8, MIN, MAX}) {
            T.due(x.read(0, 0, field), LiveUpgrader.NO_SUCH_FIELD);
            T.due(x.peek(0, field), LiveUpgrader.NO_SUCH_FIELD);
        }
        LiveUpgrader none = Setting.objects(0, 1);
        for (int field = -1; field < 9; field++) {
            T.due(none.read(0, 0, field), LiveUpgrader.NO_SUCH_FIELD);
        }
    }

    private static void fieldBits() {
        T.holds(CLASSES, "a set of fields is an int in which bit f is set if field f is in it");
        for (int f = 0; f < 8; f++) {
            LiveUpgrader x = Setting.objects(1 << f, 1);
            for (int field = 0; field < 8; field++) {
                T.due(x.read(0, 0, field), field == f ? 0 : LiveUpgrader.NO_SUCH_FIELD);
            }
            LiveUpgrader y = Setting.staged(0);
            y.addField(0, f, 1);
            T.due(y.stagedFields(0), 1 << f);
            y.activate(0);
            T.due(y.fields(0, 1), 1 << f);
        }
    }

    private static void converters() {
        T.holds(CLASSES, "Each version after version 0 has a converter, a list of up to 6 steps "
                + "that lead from the fields of the version before to its own fields");
        // no step: all stays as it was
        LiveUpgrader x = Setting.valued(7);
        Setting.nextVersion(x, 0);
        T.due(x.fields(0, 1), 1);
        T.due(x.convertAll(0), 1);
        T.due(x.peek(0, 0), 7);
        T.due(x.conversions(0), 1);
        // six steps: each counts; the seventh was refused, and does not
        x.stage(0);
        for (int step = 1; step <= 6; step++) {
            T.due(x.scaleField(0, 0, 2), step);
        }
        T.due(x.scaleField(0, 0, 2), LiveUpgrader.TOO_MANY);
        x.activate(0);
        T.due(x.convertAll(0), 1);
        T.due(x.peek(0, 0), 7 * 64);
        // each version has a converter of its own
        Setting.scaledVersion(x, 0, 10);
        T.due(x.convertAll(0), 1);
        T.due(x.peek(0, 0), 7 * 640);
        T.due(x.conversions(0), 3);
    }

    private static void oneStagedVersion() {
        T.holds(CLASSES, "A class can have a staged version");
        LiveUpgrader x = Setting.classes(1, 2);
        T.due(x.stagedFields(0), LiveUpgrader.NOT_STAGED);
        T.due(x.stage(0), 1);
        T.due(x.stage(0), LiveUpgrader.ALREADY);
        // each class can have one at the same time
        T.due(x.stagedFields(1), LiveUpgrader.NOT_STAGED);
        T.due(x.stage(1), 1);
        T.due(x.stagedFields(0), 1);
        T.due(x.stagedFields(1), 2);
        // the last version that goes in can be staged
        LiveUpgrader y = Setting.versions(1, 7);
        T.due(y.stage(0), 7);
        T.due(y.stagedFields(0), 1);
    }

    private static void stepsOfAStagedVersion() {
        T.holds(CLASSES, "It has a set of fields and a converter, to which steps can be appended");
        LiveUpgrader x = Setting.staged(6);
        T.due(x.stagedFields(0), 6);
        T.due(x.addField(0, 7, 4), 1);
        T.due(x.scaleField(0, 7, 5), 2);
        T.due(x.addField(0, 0, 6), 3);
        T.due(x.discard(0), 3);
        // a staged version without fields
        LiveUpgrader y = Setting.staged(1);
        T.due(y.dropField(0, 0), 1);
        T.due(y.stagedFields(0), 0);
        T.due(y.activate(0), 1);
        T.due(y.fields(0, 1), 0);
    }

    private static void stepsChangeTheFields() {
        T.holds(CLASSES, "each step also changes the set of fields");
        LiveUpgrader x = Setting.staged(6);
        x.addField(0, 7, 1);
        T.due(x.stagedFields(0), 134);
        x.dropField(0, 1);
        T.due(x.stagedFields(0), 132);
        x.renameField(0, 7, 0);
        T.due(x.stagedFields(0), 5);
        x.scaleField(0, 0, 2);
        T.due(x.stagedFields(0), 5);
        x.mergeField(0, 0, 2);
        T.due(x.stagedFields(0), 4);
        x.addField(0, 0, 3);
        T.due(x.stagedFields(0), 5);
        T.due(x.fields(0, 0), 6);
        // the seventh step is refused, and changes nothing
        x.dropField(0, 0);
        T.due(x.stagedFields(0), 5);
    }

    private static void activatingMakesCurrent() {
        T.holds(CLASSES, "Activating it makes it the current version");
        LiveUpgrader x = Setting.staged(3);
        x.dropField(0, 0);
        T.due(x.currentVersion(0), 0);
        T.due(x.fields(0, 1), LiveUpgrader.NO_SUCH_VERSION);
        x.activate(0);
        T.due(x.currentVersion(0), 1);
        T.due(x.fields(0, 1), 2);
        x.call(0, 0);
        T.due(x.frameVersion(0, 0), 1);
    }

    // ---- promise 2

    private static void addClass() {
        T.holds(ADD, "Adds a class with version 0");
        LiveUpgrader x = new LiveUpgrader();
        x.addClass(5);
        T.due(x.currentVersion(0), 0);
        T.due(x.fields(0, 0), 5);
        T.due(x.fields(0, 1), LiveUpgrader.NO_SUCH_VERSION);
        T.due(x.stagedFields(0), LiveUpgrader.NOT_STAGED);
        T.due(x.currentVersion(1), LiveUpgrader.NO_SUCH_CLASS);
        T.holds(ADD, "fields: the set of fields of version 0, 0 to 255");
        for (int fields = 0; fields <= 255; fields++) {
            LiveUpgrader y = new LiveUpgrader();
            T.due(y.addClass(fields), 0);
            T.due(y.fields(0, 0), fields);
        }
        T.holds(ADD, "Returns the number of the class");
        for (int type = 1; type < 6; type++) {
            // the same set may come again
            T.due(x.addClass(5), type);
        }
    }

    private static void addClassRefused() {
        T.holds(ADD, "BAD_VALUE if the set is out of range");
        for (int fields : new int[] {-1, 256, 257, 511, 512, -256, MIN, MAX}) {
            T.refused(Setting::empty, x -> x.addClass(fields), LiveUpgrader.BAD_VALUE);
            T.refused(() -> Setting.classes(1), x -> x.addClass(fields), LiveUpgrader.BAD_VALUE);
        }
        T.due(Setting.empty().addClass(0), 0);
        T.due(Setting.empty().addClass(255), 0);
        T.holds(ADD, "TOO_MANY if there are 6 classes");
        T.due(Setting.classes(1, 2, 3, 4, 5).addClass(6), 5);
        T.refused(Setting::sixClasses, x -> x.addClass(0), LiveUpgrader.TOO_MANY);
        T.refused(Setting::sixClasses, x -> x.addClass(255), LiveUpgrader.TOO_MANY);
    }

    // ---- promises 3 and 4

    private static void currentVersion() {
        T.holds(CURRENT, "Returns the current version of a class");
        LiveUpgrader x = Setting.classes(1, 1);
        T.due(x.currentVersion(0), 0);
        x.stage(1);
        T.due(x.currentVersion(1), 0);
        x.activate(1);
        T.due(x.currentVersion(0), 0);
        T.holds(CURRENT, "Returns the version");
        T.due(x.currentVersion(1), 1);
        T.due(Setting.versions(1, 7).currentVersion(0), 6);
        T.due(Setting.versions(1, 8).currentVersion(0), 7);
        Errors.noSuchClass(T, CURRENT, (y, type) -> y.currentVersion(type));
    }

    private static void fields() {
        T.holds(FIELDS, "Returns the fields of a version");
        LiveUpgrader x = Setting.classes(5, 9);
        x.stage(0);
        x.addField(0, 1, 0);
        x.activate(0);
        x.stage(0);
        x.dropField(0, 2);
        x.activate(0);
        T.due(x.fields(0, 0), 5);
        T.due(x.fields(0, 1), 7);
        T.due(x.fields(0, 2), 3);
        T.due(x.fields(1, 0), 9);
        T.holds(FIELDS, "Returns the set of fields");
        T.due(Setting.classes(0).fields(0, 0), 0);
        T.due(Setting.classes(255).fields(0, 0), 255);
    }

    private static void fieldsRefused() {
        Errors.noSuchClass(T, FIELDS, (x, type) -> x.fields(type, 0));
        T.holds(FIELDS, "NO_SUCH_VERSION if it has no such version");
        for (int version : new int[] {1, 2, 8, -1, MIN, MAX}) {
            T.refused(() -> Setting.classes(1), x -> x.fields(0, version),
                    LiveUpgrader.NO_SUCH_VERSION);
        }
        T.due(Setting.versions(1, 2).fields(0, 1), 1);
        T.refused(() -> Setting.versions(1, 2), x -> x.fields(0, 2),
                LiveUpgrader.NO_SUCH_VERSION);
        T.due(Setting.versions(1, 8).fields(0, 7), 1);
        T.refused(() -> Setting.versions(1, 8), x -> x.fields(0, 8),
                LiveUpgrader.NO_SUCH_VERSION);
        // a staged version is none yet, a rolled back one is none any more
        T.refused(() -> Setting.staged(1), x -> x.fields(0, 1), LiveUpgrader.NO_SUCH_VERSION);
        LiveUpgrader x = Setting.versions(1, 8);
        x.rollback(0);
        T.due(x.fields(0, 7), LiveUpgrader.NO_SUCH_VERSION);
        T.due(x.fields(0, 6), 1);
        // the versions of another class do not count
        x.addClass(1);
        T.due(x.fields(1, 1), LiveUpgrader.NO_SUCH_VERSION);
    }

    // ---- promises 5 and 6

    private static void stage() {
        T.holds(STAGE, "Begins a staged version, with the fields of the current version and an "
                + "empty converter");
        LiveUpgrader x = Setting.staged(6);
        T.due(x.stagedFields(0), 6);
        T.due(x.discard(0), 0);
        x.stage(0);
        x.addField(0, 0, 1);
        x.activate(0);
        // those of the current version, not of version 0
        x.stage(0);
        T.due(x.stagedFields(0), 7);
        T.due(x.discard(0), 0);
        // what was discarded or rolled back leaves nothing behind
        x.stage(0);
        x.dropField(0, 0);
        x.scaleField(0, 1, 3);
        x.discard(0);
        x.stage(0);
        T.due(x.stagedFields(0), 7);
        T.due(x.scaleField(0, 1, 4), 1);
        x.rollback(0);
        x.stage(0);
        T.due(x.stagedFields(0), 6);
        T.due(x.discard(0), 0);
        T.holds(STAGE, "Returns the number that the version will have");
        LiveUpgrader y = Setting.classes(1);
        for (int version = 1; version < 8; version++) {
            T.due(y.stage(0), version);
            y.discard(0);
            T.due(y.stage(0), version);
            y.activate(0);
        }
        y.rollback(0);
        y.rollback(0);
        T.due(y.stage(0), 6);
    }

    private static void stageRefused() {
        Errors.noSuchClass(T, STAGE, (x, type) -> x.stage(type));
        T.holds(STAGE, "ALREADY if there is a staged version");
        T.refused(() -> Setting.staged(1), x -> x.stage(0), LiveUpgrader.ALREADY);
        T.refused(Setting::sixSteps, x -> x.stage(0), LiveUpgrader.ALREADY);
        T.refused(() -> {
            LiveUpgrader x = Setting.versions(1, 7);
            x.stage(0);
            return x;
        }, x -> x.stage(0), LiveUpgrader.ALREADY);
        LiveUpgrader x = Setting.staged(1);
        x.addClass(1);
        T.due(x.stage(1), 1);
        x.discard(0);
        T.due(x.stage(0), 1);
        T.holds(STAGE, "TOO_MANY if the class has 8 versions");
        T.due(Setting.versions(1, 7).stage(0), 7);
        T.refused(() -> Setting.versions(1, 8), y -> y.stage(0), LiveUpgrader.TOO_MANY);
        LiveUpgrader full = Setting.versions(1, 8);
        full.addClass(1);
        T.due(full.stage(1), 1);
        full.rollback(0);
        T.due(full.stage(0), 7);
    }

    private static void stagedFields() {
        T.holds(STAGED, "Returns the fields of the staged version");
        LiveUpgrader x = Setting.classes(6, 128);
        x.stage(0);
        x.addField(0, 0, 1);
        T.due(x.stagedFields(0), 7);
        T.due(x.fields(0, 0), 6);
        x.stage(1);
        T.due(x.stagedFields(1), 128);
        T.holds(STAGED, "Returns the set of fields");
        T.due(Setting.staged(0).stagedFields(0), 0);
        T.due(Setting.staged(255).stagedFields(0), 255);
        Errors.noSuchClass(T, STAGED, (y, type) -> y.stagedFields(type));
        Errors.notStaged(T, STAGED, (y, type) -> y.stagedFields(type));
    }

    // ---- promises 12 and 13

    private static void activate() {
        T.holds(ACTIVATE, "Activates the staged version of a class");
        LiveUpgrader x = Setting.classes(1, 1);
        x.stage(0);
        x.stage(1);
        x.addField(1, 2, 0);
        x.activate(1);
        T.due(x.currentVersion(1), 1);
        T.due(x.fields(1, 1), 5);
        T.due(x.fields(1, 0), 1);
        T.due(x.currentVersion(0), 0);
        T.holds(ACTIVATE, "There is no staged version any more");
        T.due(x.stagedFields(1), LiveUpgrader.NOT_STAGED);
        T.due(x.activate(1), LiveUpgrader.NOT_STAGED);
        T.due(x.discard(1), LiveUpgrader.NOT_STAGED);
        T.due(x.stagedFields(0), 1);
        T.due(x.stage(1), 2);
        T.holds(ACTIVATE, "Returns the new current version");
        LiveUpgrader y = Setting.classes(1);
        for (int version = 1; version < 8; version++) {
            y.stage(0);
            T.due(y.activate(0), version);
        }
        Errors.noSuchClass(T, ACTIVATE, (z, type) -> z.activate(type));
        Errors.notStaged(T, ACTIVATE, (z, type) -> z.activate(type));
    }

    private static void discard() {
        T.holds(DISCARD, "Discards the staged version of a class");
        LiveUpgrader x = Setting.classes(1, 1);
        x.stage(0);
        x.addField(0, 1, 5);
        x.stage(1);
        x.discard(0);
        T.due(x.stagedFields(0), LiveUpgrader.NOT_STAGED);
        T.due(x.currentVersion(0), 0);
        T.due(x.fields(0, 0), 1);
        T.due(x.fields(0, 1), LiveUpgrader.NO_SUCH_VERSION);
        T.due(x.stagedFields(1), 1);
        T.due(x.discard(0), LiveUpgrader.NOT_STAGED);
        T.holds(DISCARD, "Returns the number of steps that its converter had");
        for (int steps = 0; steps <= 6; steps++) {
            LiveUpgrader y = Setting.staged(1);
            for (int step = 0; step < steps; step++) {
                y.scaleField(0, 0, 1);
            }
            T.due(y.discard(0), steps);
        }
        LiveUpgrader full = Setting.sixSteps();
        full.scaleField(0, 0, 1);
        T.due(full.discard(0), 6);
        full.stage(0);
        full.dropField(0, 7);
        T.due(full.discard(0), 0);
        Errors.noSuchClass(T, DISCARD, (z, type) -> z.discard(type));
        Errors.notStaged(T, DISCARD, (z, type) -> z.discard(type));
    }
}
