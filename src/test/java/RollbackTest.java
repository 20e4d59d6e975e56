/** Promise 14: rollback of the current version. */
public final class RollbackTest {
    private static final Due T = new Due("RollbackTest");
    private static final String ROLLBACK = "Promise 14";

    public static void main(String[] args) {
        versionBefore();
        stagedIsDiscarded();
        otherClassesStay();
        createdWithTheVersion();
        pinsOfOthersStay();
        notCreatedWithTheVersion();
        passedOnVersions();
        newVersionAfterRollback();
        allTwentyFour();
        newCurrentVersion();
        refused();
        busy();
        busyByAnyFrame();
        T.end();
    }

    private static void rollsBack() {
        T.holds(ROLLBACK, "Rolls back the current version of a class: the version before becomes "
                + "the current one, the rolled back version no longer exists, and a staged "
                + "version is discarded");
    }

    private static void deletes() {
        T.holds(ROLLBACK, "Each object that has the rolled back version is deleted if it was "
                + "created with that version");
    }

    private static void setsBack() {
        T.holds(ROLLBACK, "otherwise it gets the version before, with the values that it had when "
                + "it was converted from it");
    }

    private static void versionBefore() {
        rollsBack();
        LiveUpgrader x = Setting.classes(1);
        x.stage(0);
        x.addField(0, 1, 1);
        x.activate(0);
        x.stage(0);
        x.addField(0, 2, 1);
        x.activate(0);
        T.due(x.rollback(0), 1);
        T.due(x.currentVersion(0), 1);
        T.due(x.fields(0, 1), 3);
        T.due(x.fields(0, 2), LiveUpgrader.NO_SUCH_VERSION);
        x.call(0, 0);
        T.due(x.frameVersion(0, 0), 1);
        x.finish(0);
        T.due(x.stage(0), 2);
        T.due(x.stagedFields(0), 3);
        T.due(x.rollback(0), 0);
        T.due(x.fields(0, 0), 1);
        T.due(x.fields(0, 1), LiveUpgrader.NO_SUCH_VERSION);
    }

    private static void stagedIsDiscarded() {
        rollsBack();
        LiveUpgrader x = Setting.versions(1, 2);
        x.stage(0);
        x.addField(0, 2, 2);
        T.due(x.rollback(0), 0);
        T.due(x.stagedFields(0), LiveUpgrader.NOT_STAGED);
        T.due(x.discard(0), LiveUpgrader.NOT_STAGED);
        T.due(x.activate(0), LiveUpgrader.NOT_STAGED);
        T.due(x.currentVersion(0), 0);
        T.due(x.stage(0), 1);
        T.due(x.stagedFields(0), 1);
        T.due(x.discard(0), 0);
        // none was staged: none is afterwards
        LiveUpgrader y = Setting.versions(1, 8);
        T.due(y.rollback(0), 6);
        T.due(y.stagedFields(0), LiveUpgrader.NOT_STAGED);
    }

    private static void otherClassesStay() {
        rollsBack();
        LiveUpgrader x = Setting.classes(1, 1);
        for (int type = 0; type < 2; type++) {
            Setting.nextVersion(x, type);
            x.call(type, type);
            T.due(x.create(type), type);
        }
        x.stage(1);
        x.finish(0);
        T.due(x.rollback(0), 0);
        T.due(x.objectVersion(0), LiveUpgrader.NO_SUCH_OBJECT);
        T.due(x.objectVersion(1), 1);
        T.due(x.currentVersion(1), 1);
        T.due(x.fields(1, 1), 1);
        T.due(x.stagedFields(1), 1);
        T.due(x.pinnedBy(1), 1);
    }

    private static void createdWithTheVersion() {
        deletes();
        LiveUpgrader x = Setting.valued(5);
        Setting.nextVersion(x, 0);
        x.call(0, 0);
        T.due(x.create(0), 1);
        T.due(x.create(0), 2);
        x.write(0, 2, 0, 4);
        x.finish(0);
        T.due(x.rollback(0), 0);
        for (int object = 1; object <= 2; object++) {
            T.due(x.objectVersion(object), LiveUpgrader.NO_SUCH_OBJECT);
            T.due(x.peek(object, 0), LiveUpgrader.NO_SUCH_OBJECT);
            T.due(x.conversions(object), LiveUpgrader.NO_SUCH_OBJECT);
            T.due(x.pinnedBy(object), LiveUpgrader.NO_SUCH_OBJECT);
        }
        // one that never had the version stays as it is
        T.due(x.objectVersion(0), 0);
        T.due(x.peek(0, 0), 5);
        T.due(x.outdated(0), 0);
        // created with version 1, converted to 2: deleted only with version 1
        Setting.nextVersion(x, 0);
        x.call(0, 0);
        T.due(x.create(0), 3);
        x.finish(0);
        Setting.nextVersion(x, 0);
        x.convertAll(0);
        T.due(x.objectVersion(3), 2);
        T.due(x.rollback(0), 1);
        T.due(x.objectVersion(3), 1);
        T.due(x.rollback(0), 0);
        T.due(x.objectVersion(3), LiveUpgrader.NO_SUCH_OBJECT);
        T.due(x.objectVersion(0), 0);
    }

    /** An object of an older version stays when the version above it is rolled back, and pinned. */
    private static void pinsOfOthersStay() {
        deletes();
        LiveUpgrader x = Setting.versions(1, 2);
        x.call(0, 0);
        x.create(0);
        Setting.nextVersion(x, 0);
        T.due(x.create(0), 1);
        T.due(x.rollback(0), 1);
        T.due(x.objectVersion(0), 1);
        T.due(x.objectVersion(1), 1);
        T.due(x.pinnedBy(0), 1);
        T.due(x.pinnedBy(1), 1);
    }

    private static void notCreatedWithTheVersion() {
        setsBack();
        LiveUpgrader x = Setting.objects(1, 3);
        x.write(0, 0, 0, 5);
        x.write(0, 1, 0, 6);
        x.write(0, 2, 0, 900000);
        x.finish(0);
        Setting.scaledVersion(x, 0, 10);
        x.call(0, 0);
        T.due(x.read(0, 0, 0), 50);
        T.due(x.write(0, 0, 0, 51), 50);
        x.finish(0);
        T.due(x.rollback(0), 0);
        // the kept value is neither the converted one nor the one that was written then
        T.due(x.peek(0, 0), 5);
        T.due(x.objectVersion(0), 0);
        T.due(x.conversions(0), 0);
        // these had the version before all the time
        T.due(x.peek(1, 0), 6);
        T.due(x.peek(2, 0), 900000);
        T.due(x.objectVersion(1), 0);
        T.due(x.conversions(1), 0);
        x.call(0, 0);
        T.due(x.write(0, 0, 0, 7), 5);
        T.due(x.read(0, 0, 0), 7);
    }

    private static void passedOnVersions() {
        setsBack();
        LiveUpgrader x = Setting.versions(1, 2);
        x.call(0, 0);
        x.create(0);
        x.write(0, 0, 0, 7);
        x.finish(0);
        Setting.scaledVersion(x, 0, 2);
        Setting.scaledVersion(x, 0, 3);
        Setting.scaledVersion(x, 0, 4);
        T.due(x.convertAll(0), 1);
        T.due(x.peek(0, 0), 168);
        T.due(x.rollback(0), 3);
        T.due(x.peek(0, 0), 42);
        T.due(x.rollback(0), 2);
        T.due(x.peek(0, 0), 14);
        // what is written now is kept by the next conversion in place of what was kept before
        x.call(0, 0);
        T.due(x.write(0, 0, 0, 15), 14);
        x.finish(0);
        Setting.scaledVersion(x, 0, 5);
        T.due(x.convertAll(0), 1);
        T.due(x.peek(0, 0), 75);
        T.due(x.rollback(0), 2);
        T.due(x.peek(0, 0), 15);
        T.due(x.rollback(0), 1);
        T.due(x.peek(0, 0), 7);
        T.due(x.objectVersion(0), 1);
        T.due(x.rollback(0), 0);
        T.due(x.objectVersion(0), LiveUpgrader.NO_SUCH_OBJECT);
    }

    private static void newVersionAfterRollback() {
        setsBack();
        LiveUpgrader x = Setting.valued(3);
        x.stage(0);
        x.addField(0, 1, 9);
        x.scaleField(0, 0, 2);
        x.activate(0);
        x.convertAll(0);
        x.rollback(0);
        // the field of the rolled back version is gone
        T.due(x.peek(0, 0), 3);
        T.due(x.peek(0, 1), LiveUpgrader.NO_SUCH_FIELD);
        x.stage(0);
        x.addField(0, 2, 4);
        x.activate(0);
        T.due(x.outdated(0), 1);
        x.call(0, 0);
        T.due(x.read(0, 0, 1), LiveUpgrader.NO_SUCH_FIELD);
        T.due(x.read(0, 0, 0), 3);
        T.due(x.read(0, 0, 2), 4);
        T.due(x.conversions(0), 1);
        T.due(x.create(0), 1);
        T.due(x.read(0, 1, 2), 0);
    }

    private static void allTwentyFour() {
        LiveUpgrader x = Setting.versions(1, 2);
        x.call(0, 0);
        for (int object = 0; object < 24; object++) {
            x.create(0);
            x.write(0, object, 0, object);
        }
        x.finish(0);
        Setting.scaledVersion(x, 0, 2);
        setsBack();
        T.due(x.convertAll(0), 24);
        T.due(x.rollback(0), 1);
        for (int object = 0; object < 24; object++) {
            T.due(x.peek(object, 0), object);
        }
        deletes();
        T.due(x.rollback(0), 0);
        for (int object = 0; object < 24; object++) {
            T.due(x.objectVersion(object), LiveUpgrader.NO_SUCH_OBJECT);
        }
    }

    private static void newCurrentVersion() {
        T.holds(ROLLBACK, "Returns the new current version");
        LiveUpgrader x = Setting.versions(1, 8);
        for (int version = 6; version >= 0; version--) {
            T.due(x.rollback(0), version);
            T.due(x.currentVersion(0), version);
        }
    }

    private static void refused() {
        Errors.noSuchClass(T, ROLLBACK, (x, type) -> x.rollback(type));
        T.holds(ROLLBACK, "NO_SUCH_VERSION if its current version is 0");
        T.refused(() -> Setting.classes(1), x -> x.rollback(0), LiveUpgrader.NO_SUCH_VERSION);
        // a staged version is not discarded, an object of version 0 not deleted, by a refusal
        T.refused(Setting::sixSteps, x -> x.rollback(0), LiveUpgrader.NO_SUCH_VERSION);
        T.refused(() -> Setting.valued(5), x -> x.rollback(0), LiveUpgrader.NO_SUCH_VERSION);
        T.due(Setting.versions(1, 2).rollback(0), 0);
        LiveUpgrader x = Setting.versions(1, 2);
        x.rollback(0);
        T.due(x.rollback(0), LiveUpgrader.NO_SUCH_VERSION);
        // the versions of another class do not count
        x.addClass(1);
        Setting.nextVersion(x, 1);
        T.due(x.rollback(0), LiveUpgrader.NO_SUCH_VERSION);
        T.due(x.rollback(1), 0);
    }

    /** Version 1 is current, a version is staged; thread 2 has frames of 0/0, 0/1 and 1/0. */
    private static LiveUpgrader oneFrameAmongOthers() {
        LiveUpgrader x = Setting.classes(1, 1);
        x.call(2, 0);
        x.create(2);
        Setting.nextVersion(x, 0);
        x.call(2, 0);
        x.create(2);
        x.call(2, 1);
        x.stage(0);
        x.addField(0, 4, 4);
        return x;
    }

    private static void busy() {
        T.holds(ROLLBACK, "BUSY if a frame runs its current version");
        T.refused(RollbackTest::oneFrameAmongOthers, x -> x.rollback(0), LiveUpgrader.BUSY);
        LiveUpgrader x = oneFrameAmongOthers();
        x.finish(2);
        T.due(x.rollback(0), LiveUpgrader.BUSY);
        x.finish(2);
        // the frame that is left runs version 0
        T.due(x.rollback(0), 0);
        T.due(x.depth(2), 1);
        T.due(x.frameVersion(2, 0), 0);
        for (int thread = 0; thread < 4; thread++) {
            int t = thread;
            T.refused(() -> {
                LiveUpgrader y = Setting.versions(1, 2);
                y.call(t, 0);
                return y;
            }, y -> y.rollback(0), LiveUpgrader.BUSY);
        }
        // two frames: the last one to go counts
        LiveUpgrader y = Setting.versions(1, 2);
        y.call(0, 0);
        y.call(3, 0);
        y.finish(0);
        T.due(y.rollback(0), LiveUpgrader.BUSY);
        y.finish(3);
        T.due(y.rollback(0), 0);
        // the same number of another class, and an older version of the class, do not count
        LiveUpgrader z = Setting.versions(1, 2);
        z.addClass(1);
        Setting.nextVersion(z, 1);
        z.call(0, 1);
        z.call(1, 0);
        Setting.nextVersion(z, 0);
        T.due(z.rollback(0), 1);
        T.due(z.rollback(0), LiveUpgrader.BUSY);
        // the eighth frame of a full stack
        LiveUpgrader full = Setting.classes(1);
        for (int frame = 0; frame < 7; frame++) {
            full.call(3, 0);
        }
        Setting.nextVersion(full, 0);
        full.call(3, 0);
        T.due(full.rollback(0), LiveUpgrader.BUSY);
        full.finish(3);
        T.due(full.rollback(0), 0);
    }

    /** Each place of each stack can hold the frame that runs the current version. */
    private static void busyByAnyFrame() {
        T.holds(ROLLBACK, "BUSY if a frame runs its current version");
        for (int place = 0; place < 32; place++) {
            int thread = place / 8;
            LiveUpgrader x = Setting.versions(1, 2);
            x.addClass(1);
            for (int index = 0; index < 8; index++) {
                x.call(thread, index == place % 8 ? 0 : 1);
            }
            for (int left = 8; left > place % 8; left--) {
                T.due(x.rollback(0), LiveUpgrader.BUSY);
                T.due(x.finish(thread), left - 1);
            }
            T.due(x.rollback(0), 0);
        }
    }
}
