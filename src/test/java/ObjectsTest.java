/** What is said of objects, and the promises 21 and 24 to 29. */
public final class ObjectsTest {
    private static final Due T = new Due("ObjectsTest");
    private static final String OBJECTS = "OBJECTS";
    private static final String CREATE = "Promise 21";
    private static final String PEEK = "Promise 24";
    private static final String VERSION = "Promise 25";
    private static final String CONVERSIONS = "Promise 26";
    private static final String PINNED = "Promise 27";
    private static final String OUTDATED = "Promise 28";
    private static final String CONVERT = "Promise 29";
    private static final int MIN = Integer.MIN_VALUE;
    private static final int MAX = Integer.MAX_VALUE;

    public static void main(String[] args) {
        twentyFour();
        deletedNumbers();
        classVersionAndValues();
        keptValues();
        pinning();
        whatDoesNotPin();
        untilItReturns();
        untilTheObjectIsDeleted();
        create();
        createRefused();
        peek();
        peekRefused();
        objectVersion();
        conversions();
        pinnedBy();
        outdated();
        convertAll();
        convertAllInOneGo();
        convertAllOfPinnedObjects();
        convertAllAtItsEdges();
        T.end();
    }

    // ---- the description

    private static void twentyFour() {
        T.holds(OBJECTS, "Up to 24 objects can be created, numbered from 0");
        LiveUpgrader x = Setting.classes(1, 1);
        x.call(0, 0);
        x.call(1, 1);
        for (int object = 0; object < 24; object++) {
            // those of all classes and threads are numbered together
            T.due(x.create(object % 2), object);
        }
        T.due(x.create(0), LiveUpgrader.TOO_MANY);
        T.due(x.create(1), LiveUpgrader.TOO_MANY);
        for (int object = 0; object < 24; object++) {
            T.due(x.objectVersion(object), 0);
            T.due(x.write(object % 2, object, 0, object), 0);
        }
        for (int object = 0; object < 24; object++) {
            T.due(x.peek(object, 0), object);
        }
        T.due(x.objectVersion(24), LiveUpgrader.NO_SUCH_OBJECT);
        T.due(x.objectVersion(-1), LiveUpgrader.NO_SUCH_OBJECT);
    }

    private static void deletedNumbers() {
        T.holds(OBJECTS, "numbers of deleted objects are not used again, and deleted objects count "
                + "among the 24");
        LiveUpgrader x = Setting.deletedObject();
        T.due(x.objectVersion(1), LiveUpgrader.NO_SUCH_OBJECT);
        T.due(x.create(0), 3);
        T.due(x.objectVersion(1), LiveUpgrader.NO_SUCH_OBJECT);
        for (int object = 4; object < 24; object++) {
            T.due(x.create(0), object);
        }
        T.due(x.create(0), LiveUpgrader.TOO_MANY);
        // all 24 are deleted: still none goes in
        LiveUpgrader y = Setting.versions(1, 2);
        y.call(0, 0);
        for (int object = 0; object < 24; object++) {
            y.create(0);
        }
        y.finish(0);
        y.rollback(0);
        y.call(0, 0);
        T.due(y.objectVersion(0), LiveUpgrader.NO_SUCH_OBJECT);
        T.due(y.objectVersion(23), LiveUpgrader.NO_SUCH_OBJECT);
        T.due(y.create(0), LiveUpgrader.TOO_MANY);
        // 23 are deleted: the last one goes in
        LiveUpgrader z = Setting.versions(1, 2);
        z.call(0, 0);
        for (int object = 0; object < 23; object++) {
            z.create(0);
        }
        z.finish(0);
        z.rollback(0);
        z.call(0, 0);
        T.due(z.create(0), 23);
        T.due(z.create(0), LiveUpgrader.TOO_MANY);
        T.due(z.pinnedBy(23), 0);
    }

    private static void classVersionAndValues() {
        T.holds(OBJECTS, "An existing object has a class, a version of that class, and a value for "
                + "each field of that version");
        LiveUpgrader x = Setting.objects(129, 1);
        x.write(0, 0, 7, 6);
        x.addClass(129);
        x.call(1, 1);
        T.due(x.read(1, 0, 0), LiveUpgrader.WRONG_CLASS);
        x.finish(0);
        x.stage(0);
        x.dropField(0, 7);
        x.addField(0, 3, 8);
        x.activate(0);
        T.due(x.objectVersion(0), 0);
        T.due(x.peek(0, 7), 6);
        T.due(x.peek(0, 3), LiveUpgrader.NO_SUCH_FIELD);
        x.convertAll(0);
        T.due(x.objectVersion(0), 1);
        T.due(x.peek(0, 0), 0);
        T.due(x.peek(0, 3), 8);
        T.due(x.peek(0, 7), LiveUpgrader.NO_SUCH_FIELD);
        // an object of a version without fields
        LiveUpgrader none = Setting.objects(0, 1);
        T.due(none.objectVersion(0), 0);
        T.due(none.peek(0, 0), LiveUpgrader.NO_SUCH_FIELD);
    }

    private static void keptValues() {
        T.holds(OBJECTS, "For each version that it had before, also for one that it only passed on "
                + "the way to a later one, the object keeps the values that it had when it was "
                + "converted from that version");
        LiveUpgrader x = Setting.valued(3);
        x.stage(0);
        x.addField(0, 1, 9);
        x.activate(0);
        x.stage(0);
        x.mergeField(0, 0, 1);
        x.activate(0);
        // all seven versions after the first, the last ones passed at once
        for (int version = 3; version < 8; version++) {
            x.stage(0);
            x.scaleField(0, 1, 2);
            x.activate(0);
        }
        x.call(0, 0);
        T.due(x.read(0, 0, 1), 12 * 32);
        x.write(0, 0, 1, 1);
        x.finish(0);
        for (int version = 6; version >= 2; version--) {
            x.rollback(0);
            T.due(x.peek(0, 1), 12 << version - 2);
            T.due(x.peek(0, 0), LiveUpgrader.NO_SUCH_FIELD);
        }
        x.rollback(0);
        T.due(x.peek(0, 0), 3);
        T.due(x.peek(0, 1), 9);
        x.rollback(0);
        T.due(x.peek(0, 0), 3);
        T.due(x.peek(0, 1), LiveUpgrader.NO_SUCH_FIELD);
        T.due(x.objectVersion(0), 0);
    }

    private static void pinning() {
        T.holds(OBJECTS, "A frame pins an object if it has created it, read it or written it "
                + "without an error");
        T.due(Setting.objects(1, 1).pinnedBy(0), 0);
        LiveUpgrader x = Setting.valued(5);
        T.due(x.pinnedBy(0), LiveUpgrader.NONE);
        x.call(1, 0);
        T.due(x.pinnedBy(0), LiveUpgrader.NONE);
        x.read(1, 0, 0);
        T.due(x.pinnedBy(0), 0);
        x.finish(1);
        x.call(2, 0);
        T.due(x.pinnedBy(0), LiveUpgrader.NONE);
        x.write(2, 0, 0, 5);
        T.due(x.pinnedBy(0), 0);
        // only that object, also among all 24
        LiveUpgrader y = Setting.objects(1, 24);
        y.finish(0);
        y.call(0, 0);
        y.read(0, 23, 0);
        y.write(0, 0, 0, 1);
        for (int object = 0; object < 24; object++) {
            T.due(y.pinnedBy(object), object % 23 == 0 ? 0 : LiveUpgrader.NONE);
        }
    }

    private static void whatDoesNotPin() {
        T.holds(OBJECTS, "A frame pins an object if it has created it, read it or written it "
                + "without an error");
        LiveUpgrader x = Setting.valued(900000);
        x.call(0, 0);
        T.due(x.read(0, 0, 1), LiveUpgrader.NO_SUCH_FIELD);
        T.due(x.write(0, 0, 1, 1), LiveUpgrader.NO_SUCH_FIELD);
        T.due(x.write(0, 0, 0, 1000001), LiveUpgrader.BAD_VALUE);
        T.due(x.peek(0, 0), 900000);
        T.due(x.pinnedBy(0), LiveUpgrader.NONE);
        LiveUpgrader failing = AccessTest.failing();
        T.due(failing.read(0, 0, 0), LiveUpgrader.CONVERSION_FAILED);
        T.due(failing.write(0, 0, 0, 1), LiveUpgrader.CONVERSION_FAILED);
        T.due(failing.convertAll(0), 0);
        T.due(failing.pinnedBy(0), LiveUpgrader.NONE);
        LiveUpgrader stale = AccessTest.stale();
        T.due(stale.read(0, 0, 0), LiveUpgrader.STALE);
        T.due(stale.write(0, 0, 0, 1), LiveUpgrader.STALE);
        T.due(stale.pinnedBy(0), LiveUpgrader.NONE);
        LiveUpgrader wrong = AccessTest.wrongClass();
        T.due(wrong.read(0, 0, 0), LiveUpgrader.WRONG_CLASS);
        T.due(wrong.write(0, 0, 0, 1), LiveUpgrader.WRONG_CLASS);
        T.due(wrong.pinnedBy(0), LiveUpgrader.NONE);
        LiveUpgrader blocked = AccessTest.blocked();
        T.due(blocked.read(1, 0, 0), LiveUpgrader.BLOCKED);
        T.due(blocked.write(1, 0, 0, 1), LiveUpgrader.BLOCKED);
        blocked.finish(0);
        T.due(blocked.pinnedBy(0), LiveUpgrader.NONE);
        LiveUpgrader converted = Setting.valued(5);
        converted.call(0, 0);
        Setting.nextVersion(converted, 0);
        T.due(converted.convertAll(0), 1);
        T.due(converted.pinnedBy(0), LiveUpgrader.NONE);
    }

    private static void untilItReturns() {
        T.holds(OBJECTS, "It pins the object until it returns, or the object is deleted");
        LiveUpgrader x = Setting.objects(1, 1);
        // calls above it, and their end, do not end the pin
        for (int frames = 2; frames <= 8; frames++) {
            x.call(0, 0);
            T.due(x.pinnedBy(0), 0);
        }
        for (int left = 7; left >= 1; left--) {
            x.finish(0);
            T.due(x.pinnedBy(0), 0);
        }
        Setting.nextVersion(x, 0);
        T.due(x.pinnedBy(0), 0);
        x.finish(0);
        T.due(x.pinnedBy(0), LiveUpgrader.NONE);
        // two frames pin it: until the last of them returns
        LiveUpgrader y = Setting.objects(1, 1);
        y.call(3, 0);
        y.read(3, 0, 0);
        y.finish(0);
        T.due(y.pinnedBy(0), 0);
        y.finish(3);
        T.due(y.pinnedBy(0), LiveUpgrader.NONE);
        // pinned twice by one frame: it returns once
        LiveUpgrader z = Setting.objects(1, 1);
        z.read(0, 0, 0);
        z.write(0, 0, 0, 1);
        z.finish(0);
        T.due(z.pinnedBy(0), LiveUpgrader.NONE);
    }

    private static void untilTheObjectIsDeleted() {
        T.holds(OBJECTS, "It pins the object until it returns, or the object is deleted");
        LiveUpgrader x = Setting.versions(1, 2);
        x.call(0, 0);
        x.create(0);
        x.call(1, 0);
        x.read(1, 0, 0);
        T.due(x.pinnedBy(0), 1);
        x.finish(0);
        x.finish(1);
        T.due(x.rollback(0), 0);
        T.due(x.pinnedBy(0), LiveUpgrader.NO_SUCH_OBJECT);
        x.call(0, 0);
        T.due(x.create(0), 1);
        T.due(x.pinnedBy(0), LiveUpgrader.NO_SUCH_OBJECT);
        T.due(x.pinnedBy(1), 0);
    }

    // ---- promise 21

    private static void create() {
        T.holds(CREATE, "Lets the top frame of a thread create an object of its class and version");
        LiveUpgrader x = Setting.classes(1, 255);
        Setting.nextVersion(x, 1);
        x.call(0, 0);
        x.call(0, 1);
        x.call(1, 0);
        Setting.nextVersion(x, 1);
        // the frame's version, which is not the current one any more
        T.due(x.create(0), 0);
        T.due(x.objectVersion(0), 1);
        T.due(x.outdated(1), 1);
        T.due(x.outdated(0), 0);
        x.finish(0);
        T.due(x.create(0), 1);
        T.due(x.objectVersion(1), 0);
        T.due(x.peek(1, 1), LiveUpgrader.NO_SUCH_FIELD);
        T.holds(CREATE, "All fields have the value 0");
        for (int field = 0; field < 8; field++) {
            T.due(x.peek(0, field), 0);
        }
        // also one that the converter of its version has added with another value
        LiveUpgrader y = Setting.classes(1);
        y.stage(0);
        y.addField(0, 1, 7);
        y.activate(0);
        y.call(0, 0);
        y.create(0);
        T.due(y.peek(0, 1), 0);
        T.holds(CREATE, "The frame pins it");
        T.due(y.pinnedBy(0), 1);
        y.finish(0);
        T.due(y.pinnedBy(0), LiveUpgrader.NONE);
        T.holds(CREATE, "Returns the number of the object");
        LiveUpgrader z = Setting.objects(1, 0);
        for (int object = 0; object < 24; object++) {
            T.due(z.create(0), object);
        }
    }

    private static void createRefused() {
        Errors.noSuchThread(T, CREATE, (x, thread) -> x.create(thread));
        T.holds(CREATE, "NO_FRAME if its stack is empty");
        for (int thread = 0; thread < 4; thread++) {
            int t = thread;
            T.refused(() -> Setting.classes(1), x -> x.create(t), LiveUpgrader.NO_FRAME);
            T.due(Setting.frames(1).create(t), 0);
            T.refused(() -> {
                LiveUpgrader x = Setting.frames(1);
                x.finish(t);
                return x;
            }, x -> x.create(t), LiveUpgrader.NO_FRAME);
        }
        T.holds(CREATE, "TOO_MANY if 24 objects were created");
        T.due(Setting.objects(1, 23).create(0), 23);
        T.refused(() -> Setting.objects(1, 24), x -> x.create(0), LiveUpgrader.TOO_MANY);
        T.refused(() -> {
            LiveUpgrader x = Setting.deletedObject();
            for (int object = 3; object < 24; object++) {
                x.create(0);
            }
            return x;
        }, x -> x.create(0), LiveUpgrader.TOO_MANY);
    }

    // ---- promise 24

    private static void peek() {
        T.holds(PEEK, "Returns the value of a field of an object, without converting it");
        LiveUpgrader x = Setting.valued(5);
        Setting.scaledVersion(x, 0, 10);
        T.due(x.peek(0, 0), 5);
        T.due(x.objectVersion(0), 0);
        T.due(x.conversions(0), 0);
        T.due(x.outdated(0), 1);
        // it needs no frame, and pins nothing
        T.due(x.pinnedBy(0), LiveUpgrader.NONE);
        x.call(0, 0);
        x.read(0, 0, 0);
        T.due(x.peek(0, 0), 50);
        T.holds(PEEK, "Returns the value");
        LiveUpgrader y = Setting.objects(255, 2);
        for (int field = 0; field < 8; field++) {
            y.write(0, 0, field, field % 2 == 0 ? 1000000 : -1000000);
        }
        for (int field = 0; field < 8; field++) {
            T.due(y.peek(0, field), field % 2 == 0 ? 1000000 : -1000000);
            T.due(y.peek(1, field), 0);
        }
    }

    private static void peekRefused() {
        Errors.noSuchObject(T, PEEK, (x, object) -> x.peek(object, 0));
        T.holds(PEEK, "NO_SUCH_FIELD if the version of the object does not have that field");
        for (int field : new int[] {-1, 8, 9, 32, -32, MIN, MAX}) {
            T.refused(() -> Setting.objects(255, 1), x -> x.peek(0, field),
                    LiveUpgrader.NO_SUCH_FIELD);
        }
        for (int field = 0; field < 8; field++) {
            int f = field;
            T.refused(() -> Setting.objects(255 - (1 << f), 1), x -> x.peek(0, f),
                    LiveUpgrader.NO_SUCH_FIELD);
            T.due(Setting.objects(1 << f, 1).peek(0, f), 0);
        }
        // the version of the object counts, not the current one
        LiveUpgrader x = Setting.valued(5);
        x.stage(0);
        x.renameField(0, 0, 1);
        x.activate(0);
        T.due(x.peek(0, 0), 5);
        T.due(x.peek(0, 1), LiveUpgrader.NO_SUCH_FIELD);
        x.convertAll(0);
        T.due(x.peek(0, 0), LiveUpgrader.NO_SUCH_FIELD);
        T.due(x.peek(0, 1), 5);
        x.rollback(0);
        T.due(x.peek(0, 0), 5);
        T.due(x.peek(0, 1), LiveUpgrader.NO_SUCH_FIELD);
    }

    // ---- promises 25 to 27

    private static void objectVersion() {
        T.holds(VERSION, "Returns the version of an object");
        LiveUpgrader x = Setting.versions(1, 2);
        x.call(0, 0);
        x.create(0);
        x.finish(0);
        T.due(x.objectVersion(0), 1);
        Setting.nextVersion(x, 0);
        T.due(x.objectVersion(0), 1);
        T.holds(VERSION, "Returns the version");
        for (int version = 3; version < 8; version++) {
            Setting.nextVersion(x, 0);
        }
        x.convertAll(0);
        T.due(x.objectVersion(0), 7);
        x.rollback(0);
        T.due(x.objectVersion(0), 6);
        T.due(Setting.objects(1, 24).objectVersion(23), 0);
        Errors.noSuchObject(T, VERSION, (y, object) -> y.objectVersion(object));
    }

    private static void conversions() {
        T.holds(CONVERSIONS, "Returns how many converters were applied to an object since it was "
                + "created");
        LiveUpgrader x = Setting.versions(1, 2);
        x.call(0, 0);
        x.create(0);
        x.finish(0);
        // created with version 1: no converter was applied
        T.due(x.conversions(0), 0);
        Setting.nextVersion(x, 0);
        T.due(x.conversions(0), 0);
        x.convertAll(0);
        T.due(x.conversions(0), 1);
        x.convertAll(0);
        T.due(x.conversions(0), 1);
        T.holds(CONVERSIONS, "Returns the number");
        for (int version = 3; version < 8; version++) {
            Setting.nextVersion(x, 0);
        }
        x.convertAll(0);
        T.due(x.conversions(0), 6);
        LiveUpgrader seven = Setting.valued(1);
        for (int version = 1; version < 8; version++) {
            Setting.nextVersion(seven, 0);
        }
        seven.call(0, 0);
        seven.read(0, 0, 0);
        T.due(seven.conversions(0), 7);
        T.holds(CONVERSIONS, "A rollback of the object reduces this number by 1");
        x.rollback(0);
        T.due(x.conversions(0), 5);
        Setting.nextVersion(x, 0);
        T.due(x.conversions(0), 5);
        // it has not the version that is rolled back now
        x.rollback(0);
        T.due(x.conversions(0), 5);
        Setting.nextVersion(x, 0);
        x.convertAll(0);
        T.due(x.conversions(0), 6);
        Errors.noSuchObject(T, CONVERSIONS, (y, object) -> y.conversions(object));
    }

    private static void pinnedBy() {
        T.holds(PINNED, "Returns the smallest version that is run by a frame that pins an object");
        LiveUpgrader x = Setting.versions(1, 3);
        x.call(0, 0);
        x.call(1, 0);
        x.create(1);
        // thread 0 runs an older version of another class, and pins another object
        x.addClass(1);
        x.call(0, 1);
        x.create(0);
        T.due(x.pinnedBy(0), 2);
        T.due(x.pinnedBy(1), 0);
        Setting.nextVersion(x, 0);
        T.due(x.pinnedBy(0), 2);
        T.holds(PINNED, "Returns the version");
        for (int version = 0; version < 8; version++) {
            LiveUpgrader y = Setting.versions(1, version + 1);
            y.call(3, 0);
            y.create(3);
            T.due(y.pinnedBy(0), version);
        }
        Errors.noSuchObject(T, PINNED, (y, object) -> y.pinnedBy(object));
        T.holds(PINNED, "NONE if no frame pins it");
        LiveUpgrader none = Setting.objects(1, 2);
        none.finish(0);
        T.due(none.pinnedBy(0), LiveUpgrader.NONE);
        none.call(0, 0);
        none.read(0, 1, 0);
        T.due(none.pinnedBy(0), LiveUpgrader.NONE);
        T.due(none.pinnedBy(1), 0);
    }

    // ---- promise 28

    private static void outdated() {
        T.holds(OUTDATED, "Returns the number of existing objects of a class whose version is not "
                + "the current one");
        LiveUpgrader x = Setting.objects(1, 2);
        x.addClass(1);
        x.call(1, 1);
        x.create(1);
        T.due(x.outdated(0), 0);
        x.stage(0);
        T.due(x.outdated(0), 0);
        x.activate(0);
        T.due(x.outdated(0), 2);
        T.due(x.outdated(1), 0);
        Setting.nextVersion(x, 0);
        T.due(x.outdated(0), 2);
        x.finish(0);
        x.call(0, 0);
        x.read(0, 1, 0);
        T.due(x.outdated(0), 1);
        x.create(0);
        T.due(x.outdated(0), 1);
        x.finish(0);
        Setting.nextVersion(x, 0);
        T.due(x.outdated(0), 3);
        x.rollback(0);
        T.due(x.outdated(0), 1);
        // object 1 gets version 1, object 3 is deleted
        x.rollback(0);
        T.due(x.outdated(0), 1);
        x.rollback(0);
        T.due(x.outdated(0), 0);
        T.holds(OUTDATED, "Returns the number");
        T.due(Setting.classes(1).outdated(0), 0);
        LiveUpgrader full = Setting.objects(1, 24);
        T.due(full.outdated(0), 0);
        Setting.nextVersion(full, 0);
        T.due(full.outdated(0), 24);
        // a deleted object is none
        LiveUpgrader deleted = Setting.deletedObject();
        T.due(deleted.outdated(0), 0);
        Setting.nextVersion(deleted, 0);
        T.due(deleted.outdated(0), 2);
        Errors.noSuchClass(T, OUTDATED, (y, type) -> y.outdated(type));
    }

    // ---- promise 29

    private static void converts() {
        T.holds(CONVERT, "Converts each existing object of a class to the current version, in "
                + "ascending order of their numbers, unless a frame that runs a version less than "
                + "the current one pins it, or its conversion fails");
    }

    private static void convertAll() {
        converts();
        LiveUpgrader x = Setting.objects(1, 4);
        x.write(0, 1, 0, 800000);
        x.write(0, 3, 0, 4);
        x.finish(0);
        x.addClass(1);
        x.call(0, 0);
        x.read(0, 2, 0);
        x.call(1, 1);
        x.create(1);
        x.finish(1);
        Setting.nextVersion(x, 1);
        Setting.scaledVersion(x, 0, 2);
        x.call(2, 0);
        T.due(x.create(2), 5);
        // 1 fails, 2 is pinned, 4 has another class, 5 has the version
        T.due(x.convertAll(0), 2);
        int[] versions = {1, 0, 0, 1, 0, 1};
        for (int object = 0; object < 6; object++) {
            T.due(x.objectVersion(object), versions[object]);
        }
        T.due(x.peek(1, 0), 800000);
        T.due(x.peek(3, 0), 8);
        T.due(x.conversions(5), 0);
        T.due(x.convertAll(0), 0);
        x.finish(0);
        T.due(x.convertAll(0), 1);
        T.due(x.objectVersion(2), 1);
        T.due(x.convertAll(1), 1);
        T.due(x.objectVersion(4), 1);
    }

    private static void convertAllInOneGo() {
        converts();
        LiveUpgrader x = Setting.objects(1, 2);
        x.write(0, 0, 0, 30);
        x.write(0, 1, 0, 20);
        x.finish(0);
        Setting.scaledVersion(x, 0, 100);
        Setting.scaledVersion(x, 0, 400);
        // object 0 passes version 1 and fails on the way to 2: it stays at 0
        T.due(x.convertAll(0), 1);
        T.due(x.objectVersion(0), 0);
        T.due(x.peek(0, 0), 30);
        T.due(x.conversions(0), 0);
        T.due(x.objectVersion(1), 2);
        T.due(x.peek(1, 0), 800000);
        T.due(x.rollback(0), 1);
        T.due(x.peek(1, 0), 2000);
        T.due(x.convertAll(0), 1);
        T.due(x.peek(0, 0), 3000);
    }

    private static void convertAllOfPinnedObjects() {
        converts();
        // a frame of the version between pins it
        LiveUpgrader x = Setting.valued(5);
        Setting.nextVersion(x, 0);
        x.call(0, 0);
        x.read(0, 0, 0);
        Setting.nextVersion(x, 0);
        T.due(x.convertAll(0), 0);
        T.due(x.objectVersion(0), 1);
        // one of two frames is left
        x.call(1, 0);
        x.finish(0);
        T.due(x.convertAll(0), 1);
        T.due(x.objectVersion(0), 2);
        // frames of the current version, and older ones that do not pin it, are no hindrance
        LiveUpgrader y = Setting.objects(1, 2);
        y.finish(0);
        y.call(0, 0);
        y.read(0, 1, 0);
        Setting.nextVersion(y, 0);
        y.call(1, 0);
        y.create(1);
        T.due(y.convertAll(0), 1);
        T.due(y.objectVersion(0), 1);
        T.due(y.objectVersion(1), 0);
        // a pin far down in another thread's stack
        LiveUpgrader z = Setting.objects(1, 1);
        z.finish(0);
        z.call(3, 0);
        z.read(3, 0, 0);
        for (int frame = 0; frame < 7; frame++) {
            z.call(3, 0);
        }
        Setting.nextVersion(z, 0);
        T.due(z.convertAll(0), 0);
        for (int frame = 0; frame < 8; frame++) {
            T.due(z.convertAll(0), 0);
            z.finish(3);
        }
        T.due(z.convertAll(0), 1);
    }

    private static void convertAllAtItsEdges() {
        T.holds(CONVERT, "Returns the number of objects that were converted");
        T.due(Setting.classes(1).convertAll(0), 0);
        T.due(Setting.objects(1, 24).convertAll(0), 0);
        LiveUpgrader full = Setting.objects(1, 24);
        full.finish(0);
        // objects count, not converters
        Setting.nextVersion(full, 0);
        Setting.nextVersion(full, 0);
        T.due(full.convertAll(0), 24);
        T.due(full.convertAll(0), 0);
        T.due(full.outdated(0), 0);
        LiveUpgrader deleted = Setting.deletedObject();
        deleted.finish(0);
        Setting.nextVersion(deleted, 0);
        T.due(deleted.convertAll(0), 2);
        T.due(deleted.objectVersion(1), LiveUpgrader.NO_SUCH_OBJECT);
        // a staged version is not the current one
        LiveUpgrader staged = Setting.valued(5);
        staged.stage(0);
        T.due(staged.convertAll(0), 0);
        T.due(staged.objectVersion(0), 0);
        Errors.noSuchClass(T, CONVERT, (x, type) -> x.convertAll(type));
    }
}
