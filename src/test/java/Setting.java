/** Simulators in the states from which the tests start. */
final class Setting {
    private Setting() { }

    static LiveUpgrader empty() {
        return new LiveUpgrader();
    }

    /** A class for each set of fields. */
    static LiveUpgrader classes(int... fieldSets) {
        LiveUpgrader x = new LiveUpgrader();
        for (int fieldSet : fieldSets) {
            x.addClass(fieldSet);
        }
        return x;
    }

    static LiveUpgrader sixClasses() {
        return classes(1, 2, 4, 8, 16, 32);
    }

    /** One class with that many versions, whose converters are empty. */
    static LiveUpgrader versions(int fieldSet, int count) {
        LiveUpgrader x = classes(fieldSet);
        for (int version = 1; version < count; version++) {
            nextVersion(x, 0);
        }
        return x;
    }

    /** One class with version 1 staged. */
    static LiveUpgrader staged(int fieldSet) {
        LiveUpgrader x = classes(fieldSet);
        x.stage(0);
        return x;
    }

    /** One class with the fields 0 and 1, version 1 staged, six steps in its converter. */
    static LiveUpgrader sixSteps() {
        LiveUpgrader x = staged(3);
        for (int step = 0; step < 6; step++) {
            x.scaleField(0, 0, 2);
        }
        return x;
    }

    /** One class; thread 0 runs its version 0, and has created that many objects. */
    static LiveUpgrader objects(int fieldSet, int count) {
        LiveUpgrader x = classes(fieldSet);
        x.call(0, 0);
        for (int object = 0; object < count; object++) {
            x.create(0);
        }
        return x;
    }

    /** One class with field 0; an object with that value, which no frame pins. */
    static LiveUpgrader valued(int value) {
        LiveUpgrader x = objects(1, 1);
        x.write(0, 0, 0, value);
        x.finish(0);
        return x;
    }

    /** One class; every thread has that many frames of it. */
    static LiveUpgrader frames(int count) {
        LiveUpgrader x = classes(1);
        for (int thread = 0; thread < 4; thread++) {
            for (int i = 0; i < count; i++) {
                x.call(thread, 0);
            }
        }
        return x;
    }

    /**
     * Of the objects 0, 1 and 2, all created, 1 is deleted; thread 0 runs version 0 of the class
     * and pins nothing.
     */
    static LiveUpgrader deletedObject() {
        LiveUpgrader x = objects(1, 1);
        x.finish(0);
        nextVersion(x, 0);
        x.call(0, 0);
        x.create(0);
        x.finish(0);
        x.rollback(0);
        x.call(0, 0);
        x.create(0);
        x.finish(0);
        x.call(0, 0);
        return x;
    }

    static void nextVersion(LiveUpgrader x, int type) {
        x.stage(type);
        x.activate(type);
    }

    /** Activates a version whose converter scales field 0. */
    static void scaledVersion(LiveUpgrader x, int type, int factor) {
        x.stage(type);
        x.scaleField(type, 0, factor);
        x.activate(type);
    }
}
