import java.util.function.Supplier;

/** What is said of accesses, and the promises 22 and 23. */
public final class AccessTest {
    private static final Due T = new Due("AccessTest");
    private static final String ACCESS = "ACCESS";
    private static final String READ = "Promise 22";
    private static final String WRITE = "Promise 23";
    private static final int MIN = Integer.MIN_VALUE;
    private static final int MAX = Integer.MAX_VALUE;

    public static void main(String[] args) {
        onlyTheTopFrame();
        versionOfTheFrame();
        order();
        orderBeforeTheObject();
        noThreadFrameOrObject();
        otherClass();
        noSuchField();
        staleObject();
        blockedObject();
        blockedByWhom();
        blockedByAnyFrame();
        failedConversion();
        convertedFirst();
        ascendingOrder();
        allOrNothing();
        read();
        write();
        writeRefused();
        T.end();
    }

    // ---- the states in which the top frame of thread 0, or 1 if blocked, meets object 0

    /** The frame has class 1, the object class 0; both have field 0. */
    static LiveUpgrader wrongClass() {
        LiveUpgrader x = Setting.valued(5);
        x.addClass(1);
        x.call(0, 1);
        return x;
    }

    /** The frame runs version 0; the object has version 1, with field 1 besides. */
    static LiveUpgrader stale() {
        LiveUpgrader x = Setting.valued(5);
        x.call(0, 0);
        x.stage(0);
        x.addField(0, 1, 7);
        x.activate(0);
        x.convertAll(0);
        return x;
    }

    /** Thread 1 runs version 1; thread 0 runs version 0, with which it has made the object. */
    static LiveUpgrader blocked() {
        LiveUpgrader x = Setting.objects(1, 1);
        x.write(0, 0, 0, 5);
        x.stage(0);
        x.addField(0, 1, 7);
        x.activate(0);
        x.call(1, 0);
        return x;
    }

    /** The frame runs version 1; the object's conversion to it fails, and nothing pins it. */
    static LiveUpgrader failing() {
        LiveUpgrader x = Setting.valued(900000);
        Setting.scaledVersion(x, 0, 2);
        x.call(0, 0);
        return x;
    }

    /** The same error is due from a read and from a write, and neither changes anything. */
    private static void both(Supplier<LiveUpgrader> setting, int thread, int object, int field,
            int want) {
        T.refused(setting, x -> x.read(thread, object, field), want);
        T.refused(setting, x -> x.write(thread, object, field, 1), want);
    }

    // ---- the description

    private static void onlyTheTopFrame() {
        T.holds(ACCESS, "The top frame of a thread accesses an object when it reads or writes it");
        LiveUpgrader x = Setting.objects(1, 1);
        x.addClass(2);
        x.call(0, 1);
        T.due(x.read(0, 0, 0), LiveUpgrader.WRONG_CLASS);
        T.due(x.write(0, 0, 0, 1), LiveUpgrader.WRONG_CLASS);
        T.due(x.create(0), 1);
        T.due(x.read(0, 1, 1), 0);
        x.finish(0);
        T.due(x.read(0, 1, 1), LiveUpgrader.WRONG_CLASS);
        T.due(x.read(0, 0, 0), 0);
        // a pin belongs to the frame, not to the thread
        LiveUpgrader y = Setting.valued(5);
        y.call(2, 0);
        y.call(2, 0);
        y.read(2, 0, 0);
        y.finish(2);
        T.due(y.pinnedBy(0), LiveUpgrader.NONE);
    }

    private static void versionOfTheFrame() {
        T.holds(ACCESS, "Let v be the version that the frame runs");
        LiveUpgrader x = Setting.valued(600);
        x.stage(0);
        x.addField(0, 1, 3);
        x.activate(0);
        x.call(1, 0);
        x.stage(0);
        x.dropField(0, 1);
        x.activate(0);
        // neither the current version nor the object's
        T.due(x.read(1, 0, 1), 3);
        T.due(x.objectVersion(0), 1);
        T.due(x.conversions(0), 1);
        T.due(x.outdated(0), 1);
    }

    /** Thread 0 runs version 1 of class 1; object 0 has version 0 of class 0, and is pinned. */
    private static LiveUpgrader wrongClassAndOld() {
        LiveUpgrader x = Setting.objects(1, 1);
        x.write(0, 0, 0, 900000);
        Setting.scaledVersion(x, 0, 2);
        x.addClass(1);
        Setting.nextVersion(x, 1);
        x.call(1, 1);
        return x;
    }

    private static LiveUpgrader wrongClassAndFailing() {
        LiveUpgrader x = wrongClassAndOld();
        x.finish(0);
        return x;
    }

    /** Thread 0 runs version 0 of class 1; object 0 has version 1 of class 0. */
    private static LiveUpgrader wrongClassAndNew() {
        LiveUpgrader x = wrongClass();
        Setting.nextVersion(x, 0);
        x.convertAll(0);
        return x;
    }

    /** As blocked(), but the conversion would fail too. */
    private static LiveUpgrader blockedAndFailing() {
        LiveUpgrader x = Setting.objects(1, 1);
        x.write(0, 0, 0, 900000);
        Setting.scaledVersion(x, 0, 2);
        x.call(1, 0);
        return x;
    }

    /** The errors of an access, in their order, where two of them apply. */
    private static void order() {
        T.holds(ACCESS, "The following is checked in this order:");
        allPairs();
        T.holds(READ, "the errors of an access, in their order");
        allPairs();
        T.holds(WRITE, "the errors of an access, in their order");
        allPairs();
    }

    private static void allPairs() {
        both(AccessTest::wrongClass, 0, 0, 1, LiveUpgrader.WRONG_CLASS);
        both(AccessTest::wrongClass, 0, 0, 9, LiveUpgrader.WRONG_CLASS);
        both(AccessTest::wrongClassAndNew, 0, 0, 0, LiveUpgrader.WRONG_CLASS);
        both(AccessTest::wrongClassAndOld, 1, 0, 0, LiveUpgrader.WRONG_CLASS);
        both(AccessTest::wrongClassAndFailing, 1, 0, 0, LiveUpgrader.WRONG_CLASS);
        // field 1 is one of the object's, but not of the frame's version
        both(AccessTest::stale, 0, 0, 1, LiveUpgrader.NO_SUCH_FIELD);
        both(AccessTest::stale, 0, 0, 8, LiveUpgrader.NO_SUCH_FIELD);
        both(AccessTest::blocked, 1, 0, 2, LiveUpgrader.NO_SUCH_FIELD);
        both(AccessTest::failing, 0, 0, 1, LiveUpgrader.NO_SUCH_FIELD);
        both(AccessTest::blockedAndFailing, 1, 0, 0, LiveUpgrader.BLOCKED);
        both(AccessTest::stale, 0, 0, 0, LiveUpgrader.STALE);
        both(AccessTest::failing, 0, 0, 0, LiveUpgrader.CONVERSION_FAILED);
    }

    private static void orderBeforeTheObject() {
        T.holds(ACCESS, "The following is checked in this order:");
        both(Setting::empty, 4, 0, 0, LiveUpgrader.NO_SUCH_THREAD);
        both(() -> Setting.objects(1, 1), -1, 1, 9, LiveUpgrader.NO_SUCH_THREAD);
        both(Setting::empty, 0, 0, 0, LiveUpgrader.NO_FRAME);
        both(() -> Setting.objects(1, 1), 1, 1, 9, LiveUpgrader.NO_FRAME);
        both(() -> Setting.objects(1, 1), 0, 1, 9, LiveUpgrader.NO_SUCH_OBJECT);
        both(() -> Setting.objects(1, 1), 0, -1, -1, LiveUpgrader.NO_SUCH_OBJECT);
        both(Setting::deletedObject, 0, 1, 9, LiveUpgrader.NO_SUCH_OBJECT);
    }

    private static void noThreadFrameOrObject() {
        T.holds(ACCESS, "NO_SUCH_THREAD if the thread does not exist, NO_FRAME if its stack is "
                + "empty, NO_SUCH_OBJECT if the object does not exist");
        for (int thread : new int[] {-1, 4, 5, 32, MIN, MAX}) {
            both(() -> Setting.objects(1, 1), thread, 0, 0, LiveUpgrader.NO_SUCH_THREAD);
        }
        for (int thread = 1; thread < 4; thread++) {
            both(() -> Setting.objects(1, 1), thread, 0, 0, LiveUpgrader.NO_FRAME);
        }
        both(() -> Setting.valued(5), 0, 0, 0, LiveUpgrader.NO_FRAME);
        for (int thread = 0; thread < 4; thread++) {
            LiveUpgrader x = Setting.frames(1);
            x.create(0);
            T.due(x.read(thread, 0, 0), 0);
            T.due(x.write(thread, 0, 0, 1), 0);
        }
        Errors.noSuchObject(T, (x, object) -> x.read(0, object, 0));
        Errors.noSuchObject(T, (x, object) -> x.write(0, object, 0, 1));
    }

    private static void otherClass() {
        T.holds(ACCESS, "WRONG_CLASS if the frame and the object have different classes");
        both(AccessTest::wrongClass, 0, 0, 0, LiveUpgrader.WRONG_CLASS);
        LiveUpgrader x = wrongClass();
        x.call(0, 0);
        T.due(x.read(0, 0, 0), 5);
        // the first and the last class
        LiveUpgrader six = Setting.classes(1, 1, 1, 1, 1, 1);
        six.call(0, 0);
        six.call(1, 5);
        six.create(0);
        six.create(1);
        T.due(six.read(0, 1, 0), LiveUpgrader.WRONG_CLASS);
        T.due(six.read(1, 0, 0), LiveUpgrader.WRONG_CLASS);
        T.due(six.read(1, 1, 0), 0);
    }

    private static void noSuchField() {
        T.holds(ACCESS, "NO_SUCH_FIELD if the field is not one of the fields of version v");
        for (int field : new int[] {-1, 8, 9, 31, 32, 39, -8, -32, MIN, MAX}) {
            both(() -> Setting.objects(255, 1), 0, 0, field, LiveUpgrader.NO_SUCH_FIELD);
        }
        for (int field = 0; field < 8; field++) {
            int f = field;
            both(() -> Setting.objects(255 - (1 << f), 1), 0, 0, f, LiveUpgrader.NO_SUCH_FIELD);
            T.due(Setting.objects(1 << f, 1).read(0, 0, f), 0);
            T.due(Setting.objects(1 << f, 1).write(0, 0, f, 1), 0);
        }
        // a field that the version of the object has, but version v no more; then the reverse
        LiveUpgrader x = Setting.valued(5);
        x.stage(0);
        x.renameField(0, 0, 1);
        x.activate(0);
        x.call(0, 0);
        T.due(x.read(0, 0, 0), LiveUpgrader.NO_SUCH_FIELD);
        T.due(x.objectVersion(0), 0);
        T.due(x.read(0, 0, 1), 5);
        T.due(x.read(0, 0, 0), LiveUpgrader.NO_SUCH_FIELD);
    }

    private static void staleObject() {
        T.holds(ACCESS, "STALE if the version of the object is greater than v");
        both(AccessTest::stale, 0, 0, 0, LiveUpgrader.STALE);
        // created with the newer version
        LiveUpgrader x = Setting.versions(1, 2);
        x.call(0, 0);
        Setting.nextVersion(x, 0);
        x.call(1, 0);
        x.create(1);
        T.due(x.read(0, 0, 0), LiveUpgrader.STALE);
        T.due(x.write(0, 0, 0, 1), LiveUpgrader.STALE);
        // the same version is not stale
        T.due(x.read(1, 0, 0), 0);
        // seven versions newer
        LiveUpgrader far = Setting.valued(5);
        far.call(0, 0);
        for (int version = 1; version < 8; version++) {
            Setting.nextVersion(far, 0);
        }
        far.convertAll(0);
        T.due(far.read(0, 0, 0), LiveUpgrader.STALE);
        T.due(far.write(0, 0, 0, 1), LiveUpgrader.STALE);
        // it is the object that counts: one that stayed old is not stale under a newer version
        LiveUpgrader old = Setting.objects(1, 1);
        Setting.nextVersion(old, 0);
        old.convertAll(0);
        T.due(old.read(0, 0, 0), 0);
        // set back by a rollback to version v, it is stale no more
        LiveUpgrader back = stale();
        T.due(back.rollback(0), 0);
        T.due(back.read(0, 0, 0), 5);
        T.due(back.write(0, 0, 0, 6), 5);
    }

    private static void isBlocked() {
        T.holds(ACCESS, "BLOCKED if the version of the object is less than v, and a frame that "
                + "runs a version less than v pins the object");
    }

    private static void blockedObject() {
        isBlocked();
        both(AccessTest::blocked, 1, 0, 0, LiveUpgrader.BLOCKED);
        both(AccessTest::blocked, 1, 0, 1, LiveUpgrader.BLOCKED);
        // the older frame goes on as it is
        LiveUpgrader x = blocked();
        T.due(x.write(0, 0, 0, 6), 5);
        T.due(x.read(1, 0, 0), LiveUpgrader.BLOCKED);
        x.finish(0);
        T.due(x.read(1, 0, 0), 6);
        T.due(x.read(1, 0, 1), 7);
        // the version of the object is v: frames of v that pin it do not block
        x.call(2, 0);
        T.due(x.read(2, 0, 0), 6);
        T.due(x.pinnedBy(0), 1);
        // a version between is less than v too
        Setting.nextVersion(x, 0);
        x.call(3, 0);
        T.due(x.read(3, 0, 0), LiveUpgrader.BLOCKED);
        x.finish(1);
        T.due(x.read(3, 0, 0), LiveUpgrader.BLOCKED);
        x.finish(2);
        T.due(x.read(3, 0, 0), 6);
        T.due(x.objectVersion(0), 2);
    }

    private static void blockedByWhom() {
        isBlocked();
        // by a frame that has read it, or written it, at the bottom of the same stack
        for (int way = 0; way < 2; way++) {
            LiveUpgrader x = Setting.valued(5);
            x.call(0, 0);
            T.due(way == 0 ? x.read(0, 0, 0) : x.write(0, 0, 0, 5), 5);
            for (int frame = 0; frame < 6; frame++) {
                x.call(0, 0);
            }
            Setting.nextVersion(x, 0);
            x.call(0, 0);
            T.due(x.read(0, 0, 0), LiveUpgrader.BLOCKED);
            T.due(x.write(0, 0, 0, 1), LiveUpgrader.BLOCKED);
            for (int frame = 0; frame < 8; frame++) {
                x.finish(0);
            }
            x.call(0, 0);
            T.due(x.read(0, 0, 0), 5);
        }
        // not by an older frame that has touched another object only, or met an error
        LiveUpgrader y = Setting.objects(1, 2);
        y.finish(0);
        y.call(0, 0);
        y.read(0, 1, 0);
        T.due(y.read(0, 0, 1), LiveUpgrader.NO_SUCH_FIELD);
        Setting.nextVersion(y, 0);
        y.call(1, 0);
        T.due(y.read(1, 1, 0), LiveUpgrader.BLOCKED);
        T.due(y.read(1, 0, 0), 0);
        T.due(y.objectVersion(0), 1);
    }

    /** Each place of each stack can hold the frame that blocks; threads are asked in turn. */
    private static void blockedByAnyFrame() {
        isBlocked();
        for (int place = 0; place < 32; place++) {
            int thread = place / 8;
            int other = (thread + 1 + place % 3) % 4;
            LiveUpgrader x = Setting.valued(5);
            for (int index = 0; index < 8; index++) {
                x.call(thread, 0);
                if (index == place % 8) {
                    x.read(thread, 0, 0);
                }
            }
            T.due(x.pinnedBy(0), 0);
            Setting.nextVersion(x, 0);
            x.call(other, 0);
            for (int left = 8; left > place % 8; left--) {
                T.due(x.read(other, 0, 0), LiveUpgrader.BLOCKED);
                T.due(x.convertAll(0), 0);
                T.due(x.finish(thread), left - 1);
            }
            T.due(x.read(other, 0, 0), 5);
        }
    }

    private static void failedConversion() {
        T.holds(ACCESS, "CONVERSION_FAILED if the version of the object is less than v, and the "
                + "conversion to version v fails in one of its steps");
        both(AccessTest::failing, 0, 0, 0, LiveUpgrader.CONVERSION_FAILED);
        // it fails for a field that is not the one that is read
        LiveUpgrader x = Setting.objects(3, 1);
        x.write(0, 0, 0, 900000);
        x.finish(0);
        Setting.scaledVersion(x, 0, 2);
        x.call(0, 0);
        T.due(x.read(0, 0, 1), LiveUpgrader.CONVERSION_FAILED);
        // a later version would fail, but v does not
        LiveUpgrader y = Setting.valued(600);
        Setting.scaledVersion(y, 0, 1000);
        y.call(1, 0);
        Setting.scaledVersion(y, 0, 2);
        y.call(2, 0);
        T.due(y.read(2, 0, 0), LiveUpgrader.CONVERSION_FAILED);
        T.due(y.objectVersion(0), 0);
        T.due(y.read(1, 0, 0), 600000);
        T.due(y.write(1, 0, 0, 500000), 600000);
        y.finish(1);
        T.due(y.read(2, 0, 0), 1000000);
        // an object of version v needs no conversion, whatever its values are
        LiveUpgrader z = failing();
        T.due(z.create(0), 1);
        T.due(z.write(0, 1, 0, 900000), 0);
        T.due(z.read(0, 1, 0), 900000);
    }

    private static void convertedFirst() {
        T.holds(ACCESS, "If none of these errors applies, and the version of the object is less "
                + "than v, the object is first converted to version v");
        LiveUpgrader x = Setting.valued(5);
        Setting.scaledVersion(x, 0, 10);
        x.call(0, 0);
        T.due(x.read(0, 0, 0), 50);
        T.due(x.objectVersion(0), 1);
        // it has version v now: it is not converted again
        T.due(x.read(0, 0, 0), 50);
        T.due(x.conversions(0), 1);
        LiveUpgrader y = Setting.valued(5);
        Setting.scaledVersion(y, 0, 10);
        y.call(0, 0);
        T.due(y.write(0, 0, 0, 8), 50);
        T.due(y.objectVersion(0), 1);
        T.due(y.read(0, 0, 0), 8);
        T.due(y.conversions(0), 1);
    }

    private static void ascendingOrder() {
        T.holds(ACCESS, "To convert an object to a version means to apply the converters of all "
                + "versions after its own one, up to that version, in ascending order");
        LiveUpgrader x = Setting.valued(5);
        Setting.scaledVersion(x, 0, 3);
        x.stage(0);
        x.addField(0, 1, 4);
        x.mergeField(0, 1, 0);
        x.activate(0);
        Setting.scaledVersion(x, 0, 2);
        x.call(0, 0);
        // version 4 comes after v, and is not applied
        Setting.scaledVersion(x, 0, 100000);
        T.due(x.read(0, 0, 0), (5 * 3 + 4) * 2);
        T.due(x.objectVersion(0), 3);
        T.due(x.conversions(0), 3);
        // nor is the converter of its own version
        LiveUpgrader y = Setting.classes(1);
        Setting.scaledVersion(y, 0, 3);
        y.call(0, 0);
        y.create(0);
        y.write(0, 0, 0, 5);
        y.finish(0);
        Setting.scaledVersion(y, 0, 7);
        y.call(0, 0);
        T.due(y.read(0, 0, 0), 35);
        T.due(y.conversions(0), 1);
        // from the first version to the eighth
        LiveUpgrader z = Setting.valued(1);
        for (int version = 1; version < 8; version++) {
            Setting.scaledVersion(z, 0, 7);
        }
        z.call(0, 0);
        T.due(z.read(0, 0, 0), 823543);
        T.due(z.objectVersion(0), 7);
    }

    private static void allOrNothing() {
        T.holds(ACCESS, "It is converted to that version or not at all");
        // it fails in the last step of the last converter
        LiveUpgrader x = Setting.objects(3, 1);
        x.write(0, 0, 0, 600);
        x.write(0, 0, 1, 3);
        x.finish(0);
        x.stage(0);
        x.scaleField(0, 1, 2);
        x.addField(0, 2, 5);
        x.activate(0);
        x.stage(0);
        x.scaleField(0, 1, 2);
        x.scaleField(0, 0, 10000);
        x.activate(0);
        x.call(0, 0);
        T.due(x.read(0, 0, 1), LiveUpgrader.CONVERSION_FAILED);
        T.due(x.write(0, 0, 1, 1), LiveUpgrader.CONVERSION_FAILED);
        T.due(x.objectVersion(0), 0);
        T.due(x.conversions(0), 0);
        T.due(x.peek(0, 0), 600);
        T.due(x.peek(0, 1), 3);
        T.due(x.peek(0, 2), LiveUpgrader.NO_SUCH_FIELD);
        T.due(x.outdated(0), 1);
        // and can be converted to the version before when that one is current again
        x.finish(0);
        x.rollback(0);
        x.call(0, 0);
        T.due(x.read(0, 0, 1), 6);
        T.due(x.read(0, 0, 0), 600);
        x.finish(0);
        x.rollback(0);
        T.due(x.peek(0, 1), 3);
    }

    // ---- promises 22 and 23

    private static void read() {
        T.holds(READ, "Lets the top frame of a thread read a field of an object");
        LiveUpgrader x = Setting.objects(255, 2);
        for (int field = 0; field < 8; field++) {
            x.write(0, 1, field, 100 * field);
        }
        for (int field = 0; field < 8; field++) {
            T.due(x.read(0, 1, field), 100 * field);
            T.due(x.read(0, 0, field), 0);
        }
        T.holds(READ, "The frame pins the object");
        LiveUpgrader y = Setting.valued(5);
        y.call(3, 0);
        T.due(y.pinnedBy(0), LiveUpgrader.NONE);
        y.read(3, 0, 0);
        T.due(y.pinnedBy(0), 0);
        y.finish(3);
        T.due(y.pinnedBy(0), LiveUpgrader.NONE);
        // by the version that it has after the conversion
        Setting.scaledVersion(y, 0, 3);
        y.call(3, 0);
        y.read(3, 0, 0);
        T.due(y.pinnedBy(0), 1);
        T.holds(READ, "Returns the value");
        T.due(y.read(3, 0, 0), 15);
        for (int value : new int[] {-1000000, -1, 0, 1, 1000000}) {
            LiveUpgrader z = Setting.valued(value);
            z.call(0, 0);
            T.due(z.read(0, 0, 0), value);
            T.due(z.read(0, 0, 0), value);
        }
    }

    private static void write() {
        T.holds(WRITE, "Lets the top frame of a thread write a field of an object");
        LiveUpgrader x = Setting.objects(255, 2);
        for (int field = 0; field < 8; field++) {
            x.write(0, 1, field, 100 * field);
        }
        for (int field = 0; field < 8; field++) {
            T.due(x.peek(1, field), 100 * field);
            T.due(x.peek(0, field), 0);
        }
        T.holds(WRITE, "The frame pins the object");
        LiveUpgrader y = Setting.valued(5);
        y.call(3, 0);
        y.write(3, 0, 0, 6);
        T.due(y.pinnedBy(0), 0);
        y.finish(3);
        T.due(y.pinnedBy(0), LiveUpgrader.NONE);
        Setting.scaledVersion(y, 0, 3);
        y.call(3, 0);
        T.holds(WRITE, "Returns the previous value (after a conversion, if there was one)");
        T.due(y.write(3, 0, 0, 1), 18);
        T.due(y.write(3, 0, 0, 2), 1);
        T.due(y.write(3, 0, 0, 2), 2);
        T.due(y.read(3, 0, 0), 2);
        T.holds(WRITE, "The frame pins the object");
        T.due(y.pinnedBy(0), 1);
        // the values that were kept are those before the write
        y.finish(3);
        y.rollback(0);
        T.due(y.peek(0, 0), 6);
        T.holds(WRITE, "value: new value, -1000000 to 1000000");
        LiveUpgrader z = Setting.objects(1, 1);
        int previous = 0;
        for (int value : new int[] {-1000000, -999999, -1, 0, 1, 999999, 1000000}) {
            T.due(z.write(0, 0, 0, value), previous);
            T.due(z.peek(0, 0), value);
            previous = value;
        }
    }

    private static void writeRefused() {
        T.holds(WRITE, "BAD_VALUE if the value is out of range (checked first)");
        for (int value : new int[] {-1000001, 1000001, MIN, MAX}) {
            T.refused(() -> Setting.objects(1, 1), x -> x.write(0, 0, 0, value),
                    LiveUpgrader.BAD_VALUE);
            // no conversion is made for it, and nothing is pinned
            T.refused(() -> {
                LiveUpgrader x = Setting.valued(5);
                Setting.nextVersion(x, 0);
                x.call(0, 0);
                return x;
            }, x -> x.write(0, 0, 0, value), LiveUpgrader.BAD_VALUE);
            T.due(Setting.empty().write(-1, -1, -1, value), LiveUpgrader.BAD_VALUE);
            T.due(Setting.empty().write(0, 0, 0, value), LiveUpgrader.BAD_VALUE);
            T.due(Setting.objects(1, 1).write(0, 1, 0, value), LiveUpgrader.BAD_VALUE);
            T.due(Setting.objects(1, 1).write(0, 0, 8, value), LiveUpgrader.BAD_VALUE);
            T.due(wrongClass().write(0, 0, 0, value), LiveUpgrader.BAD_VALUE);
            T.due(stale().write(0, 0, 0, value), LiveUpgrader.BAD_VALUE);
            T.due(blocked().write(1, 0, 0, value), LiveUpgrader.BAD_VALUE);
            T.due(failing().write(0, 0, 0, value), LiveUpgrader.BAD_VALUE);
        }
        T.due(Setting.objects(1, 1).write(0, 0, 0, 1000000), 0);
        T.due(Setting.objects(1, 1).write(0, 0, 0, -1000000), 0);
    }
}
