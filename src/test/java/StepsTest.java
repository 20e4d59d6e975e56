/** What the steps do, what values there are, and the promises 7 to 11. */
public final class StepsTest {
    private static final Due T = new Due("StepsTest");
    private static final String CLASSES = "CLASSES AND VERSIONS";
    private static final String ADD = "Promise 7";
    private static final String DROP = "Promise 8";
    private static final String RENAME = "Promise 9";
    private static final String SCALE = "Promise 10";
    private static final String MERGE = "Promise 11";
    private static final String COUNT = "Returns the number of steps";
    private static final int MIN = Integer.MIN_VALUE;
    private static final int MAX = Integer.MAX_VALUE;
    private static final int[] NO_FIELDS = {-1, 8, 9, 31, 32, 33, -8, -32, MIN, MAX};

    public static void main(String[] args) {
        inOrder();
        inOrderAcrossOneField();
        add();
        drop();
        rename();
        scale();
        merge();
        everyField();
        everyTwoFields();
        rangeOfValues();
        anotherValueFails();
        everyStepCounts();
        addField();
        addFieldRefused();
        dropField();
        renameField();
        renameFieldRefused();
        scaleField();
        mergeField();
        mergeFieldRefused();
        T.end();
    }

    /** One class with three fields; an object with these values, which no frame pins. */
    private static LiveUpgrader three(int first, int second, int third) {
        LiveUpgrader x = Setting.objects(7, 1);
        x.write(0, 0, 0, first);
        x.write(0, 0, 1, second);
        x.write(0, 0, 2, third);
        x.finish(0);
        x.stage(0);
        return x;
    }

    /** Activates, converts the object and tells the values of its eight fields. */
    private static void converted(LiveUpgrader x, int... want) {
        x.activate(0);
        T.due(x.convertAll(0), 1);
        for (int field = 0; field < 8; field++) {
            T.due(x.peek(0, field), want[field]);
        }
    }

    private static int failed(LiveUpgrader x) {
        x.activate(0);
        x.call(0, 0);
        int answer = x.read(0, 0, 0);
        T.due(x.objectVersion(0), answer == LiveUpgrader.CONVERSION_FAILED ? 0 : 1);
        return answer;
    }

    // ---- the description

    private static void order() {
        T.holds(CLASSES, "When the steps are applied to an object, they are applied in order, and "
                + "each one changes the fields of the object and their values:");
    }

    private static void inOrder() {
        order();
        int no = LiveUpgrader.NO_SUCH_FIELD;
        // 10 + 1 scaled by 3 is not 10 scaled by 3 and 1
        LiveUpgrader x = three(10, 1, 0);
        x.mergeField(0, 1, 0);
        x.scaleField(0, 0, 3);
        converted(x, 33, no, 0, no, no, no, no, no);
        LiveUpgrader y = three(10, 1, 0);
        y.scaleField(0, 0, 3);
        y.mergeField(0, 1, 0);
        converted(y, 31, no, 0, no, no, no, no, no);
        // the values of two fields change places
        LiveUpgrader z = three(10, 1, 5);
        z.renameField(0, 0, 7);
        z.renameField(0, 1, 0);
        z.renameField(0, 7, 1);
        converted(z, 1, 10, 5, no, no, no, no, no);
    }

    private static void inOrderAcrossOneField() {
        order();
        int no = LiveUpgrader.NO_SUCH_FIELD;
        LiveUpgrader x = three(10, 1, 5);
        x.dropField(0, 0);
        x.addField(0, 0, 4);
        x.scaleField(0, 0, 6);
        x.renameField(0, 0, 3);
        x.addField(0, 0, 9);
        x.mergeField(0, 3, 2);
        converted(x, 9, 1, 29, no, no, no, no, no);
    }

    private static void add() {
        T.holds(CLASSES, "ADD field f with value v: f is a new field, its value is v");
        int no = LiveUpgrader.NO_SUCH_FIELD;
        LiveUpgrader x = three(10, 1, 5);
        x.addField(0, 7, -77);
        x.addField(0, 3, 1000000);
        x.addField(0, 4, -1000000);
        converted(x, 10, 1, 5, 1000000, -1000000, no, no, -77);
    }

    private static void drop() {
        T.holds(CLASSES, "DROP field f: f is no longer a field");
        int no = LiveUpgrader.NO_SUCH_FIELD;
        LiveUpgrader x = three(10, 1, 5);
        x.dropField(0, 0);
        converted(x, no, 1, 5, no, no, no, no, no);
        x.stage(0);
        x.dropField(0, 2);
        x.dropField(0, 1);
        converted(x, no, no, no, no, no, no, no, no);
    }

    private static void rename() {
        T.holds(CLASSES, "RENAME field f to g: g is a new field with the value of f, and f is no "
                + "longer a field");
        int no = LiveUpgrader.NO_SUCH_FIELD;
        LiveUpgrader x = three(10, 1, 5);
        x.renameField(0, 0, 7);
        converted(x, no, 1, 5, no, no, no, no, 10);
        x.stage(0);
        x.renameField(0, 7, 0);
        x.renameField(0, 1, 3);
        converted(x, 10, no, 5, 1, no, no, no, no);
    }

    private static void scale() {
        T.holds(CLASSES, "SCALE field f by k: the value of f is multiplied by k");
        int no = LiveUpgrader.NO_SUCH_FIELD;
        LiveUpgrader x = three(10, 1, 5);
        x.scaleField(0, 0, 100000);
        x.scaleField(0, 1, -100000);
        x.scaleField(0, 2, 0);
        converted(x, 1000000, -100000, 0, no, no, no, no, no);
        x.stage(0);
        x.scaleField(0, 0, -1);
        x.scaleField(0, 1, 1);
        converted(x, -1000000, -100000, 0, no, no, no, no, no);
    }

    private static void merge() {
        T.holds(CLASSES, "MERGE field f into g: the value of f is added to the value of g, and f "
                + "is no longer a field");
        int no = LiveUpgrader.NO_SUCH_FIELD;
        LiveUpgrader x = three(10, -1, 5);
        x.mergeField(0, 0, 1);
        converted(x, no, 9, 5, no, no, no, no, no);
        x.stage(0);
        x.mergeField(0, 2, 1);
        converted(x, no, 14, no, no, no, no, no, no);
    }

    /** One class with these fields; an object with 10 times their number plus 1 as values. */
    private static LiveUpgrader numbered(int fieldSet) {
        LiveUpgrader x = Setting.objects(fieldSet, 1);
        for (int field = 0; field < 8; field++) {
            x.write(0, 0, field, 10 * field + 1);
        }
        x.finish(0);
        x.stage(0);
        return x;
    }

    /** Values as those of numbered(255), but for one field. */
    private static int[] numbersBut(int field, int value) {
        int[] values = {1, 11, 21, 31, 41, 51, 61, 71};
        values[field] = value;
        return values;
    }

    private static void everyField() {
        for (int field = 0; field < 8; field++) {
            T.holds(CLASSES, "ADD field f with value v: f is a new field, its value is v");
            LiveUpgrader add = numbered(255 - (1 << field));
            add.addField(0, field, -5);
            converted(add, numbersBut(field, -5));
            T.holds(CLASSES, "DROP field f: f is no longer a field");
            LiveUpgrader drop = numbered(255);
            drop.dropField(0, field);
            converted(drop, numbersBut(field, LiveUpgrader.NO_SUCH_FIELD));
            T.holds(CLASSES, "SCALE field f by k: the value of f is multiplied by k");
            LiveUpgrader scale = numbered(255);
            scale.scaleField(0, field, -2);
            converted(scale, numbersBut(field, -20 * field - 2));
        }
    }

    private static void everyTwoFields() {
        for (int pair = 0; pair < 64; pair++) {
            int f = pair / 8;
            int g = pair % 8;
            if (f == g) {
                continue;
            }
            T.holds(CLASSES, "RENAME field f to g: g is a new field with the value of f, and f is "
                    + "no longer a field");
            LiveUpgrader rename = numbered(255 - (1 << g));
            rename.renameField(0, f, g);
            int[] renamed = numbersBut(g, 10 * f + 1);
            renamed[f] = LiveUpgrader.NO_SUCH_FIELD;
            converted(rename, renamed);
            T.holds(CLASSES, "MERGE field f into g: the value of f is added to the value of g, and "
                    + "f is no longer a field");
            LiveUpgrader merge = numbered(255);
            merge.mergeField(0, f, g);
            int[] merged = numbersBut(g, 10 * (f + g) + 2);
            merged[f] = LiveUpgrader.NO_SUCH_FIELD;
            converted(merge, merged);
        }
    }

    private static void rangeOfValues() {
        T.holds(CLASSES, "Values of fields are from -1000000 to 1000000");
        LiveUpgrader x = Setting.objects(1, 1);
        T.due(x.write(0, 0, 0, 1000000), 0);
        T.due(x.write(0, 0, 0, 1000001), LiveUpgrader.BAD_VALUE);
        T.due(x.write(0, 0, 0, -1000000), 1000000);
        T.due(x.write(0, 0, 0, -1000001), LiveUpgrader.BAD_VALUE);
        T.due(x.read(0, 0, 0), -1000000);
        LiveUpgrader y = Setting.staged(0);
        T.due(y.addField(0, 0, 1000001), LiveUpgrader.BAD_VALUE);
        T.due(y.addField(0, 0, 1000000), 1);
        T.due(y.addField(0, 1, -1000001), LiveUpgrader.BAD_VALUE);
        T.due(y.addField(0, 1, -1000000), 2);
    }

    private static int scaled(int value, int factor) {
        LiveUpgrader x = three(value, 0, 0);
        x.scaleField(0, 0, factor);
        return failed(x);
    }

    private static int merged(int into, int from) {
        LiveUpgrader x = three(into, from, 0);
        x.mergeField(0, 1, 0);
        return failed(x);
    }

    private static void anotherValue() {
        T.holds(CLASSES, "If a step would give a field another value, the conversion fails");
    }

    private static void anotherValueFails() {
        anotherValue();
        T.due(scaled(10, 100000), 1000000);
        T.due(scaled(-10, 100000), -1000000);
        T.due(scaled(10, -100000), -1000000);
        T.due(scaled(11, 100000), LiveUpgrader.CONVERSION_FAILED);
        T.due(scaled(-11, 100000), LiveUpgrader.CONVERSION_FAILED);
        T.due(scaled(500001, 2), LiveUpgrader.CONVERSION_FAILED);
        T.due(scaled(500000, 2), 1000000);
        T.due(scaled(-500001, 2), LiveUpgrader.CONVERSION_FAILED);
        // 1000001 is 101 times 9901
        T.due(scaled(9901, 101), LiveUpgrader.CONVERSION_FAILED);
        T.due(scaled(9901, -101), LiveUpgrader.CONVERSION_FAILED);
        T.due(scaled(1000000, 0), 0);
        // these products are small again when only 32 bits of them are kept
        T.due(scaled(42950, 100000), LiveUpgrader.CONVERSION_FAILED);
        T.due(scaled(-42950, 100000), LiveUpgrader.CONVERSION_FAILED);
        T.due(scaled(65536, 65536), LiveUpgrader.CONVERSION_FAILED);
        T.due(scaled(1000000, 100000), LiveUpgrader.CONVERSION_FAILED);
        T.due(scaled(1000000, -100000), LiveUpgrader.CONVERSION_FAILED);
        T.due(merged(999999, 1), 1000000);
        T.due(merged(1000000, 1), LiveUpgrader.CONVERSION_FAILED);
        T.due(merged(1, 1000000), LiveUpgrader.CONVERSION_FAILED);
        T.due(merged(-999999, -1), -1000000);
        T.due(merged(-1000000, -1), LiveUpgrader.CONVERSION_FAILED);
        T.due(merged(1000000, 1000000), LiveUpgrader.CONVERSION_FAILED);
        T.due(merged(-1000000, 1000000), 0);
    }

    /** It is the step that fails, even if the field is dropped or small again in the end. */
    private static void everyStepCounts() {
        anotherValue();
        LiveUpgrader dropped = three(3, 600000, 0);
        dropped.scaleField(0, 1, 2);
        dropped.dropField(0, 1);
        T.due(failed(dropped), LiveUpgrader.CONVERSION_FAILED);
        LiveUpgrader smallAgain = three(600000, 0, 0);
        smallAgain.scaleField(0, 0, 2);
        smallAgain.scaleField(0, 0, 0);
        T.due(failed(smallAgain), LiveUpgrader.CONVERSION_FAILED);
        LiveUpgrader lessAgain = three(600000, 600000, -600000);
        lessAgain.mergeField(0, 1, 0);
        lessAgain.mergeField(0, 2, 0);
        T.due(failed(lessAgain), LiveUpgrader.CONVERSION_FAILED);
        LiveUpgrader otherOrder = three(600000, 600000, -600000);
        otherOrder.mergeField(0, 2, 0);
        otherOrder.mergeField(0, 1, 0);
        T.due(failed(otherOrder), 600000);
        // the sixth of six steps
        LiveUpgrader last = three(400000, 0, 0);
        for (int step = 0; step < 5; step++) {
            last.scaleField(0, 0, 1);
        }
        last.scaleField(0, 0, 3);
        T.due(failed(last), LiveUpgrader.CONVERSION_FAILED);
        T.due(last.peek(0, 0), 400000);
    }

    // ---- promise 7

    private static void addField() {
        T.holds(ADD, "Appends a step ADD to the converter of the staged version");
        int no = LiveUpgrader.NO_SUCH_FIELD;
        LiveUpgrader x = three(10, 1, 5);
        x.addField(0, 6, 8);
        T.due(x.stagedFields(0), 71);
        converted(x, 10, 1, 5, no, no, no, 8, no);
        T.holds(ADD, "value: its value, -1000000 to 1000000");
        for (int value : new int[] {-1000000, -999999, 0, 999999, 1000000}) {
            LiveUpgrader y = three(10, 1, 5);
            T.due(y.addField(0, 3, value), 1);
            converted(y, 10, 1, 5, value, no, no, no, no);
        }
        T.holds(ADD, COUNT);
        LiveUpgrader z = Setting.staged(0);
        for (int field = 0; field < 6; field++) {
            T.due(z.addField(0, field, 0), field + 1);
        }
    }

    private static void addFieldRefused() {
        Errors.noSuchClass(T, ADD, (x, type) -> x.addField(type, 7, 0));
        Errors.notStaged(T, ADD, (x, type) -> x.addField(type, 7, 0));
        T.holds(ADD, "BAD_VALUE if the field is not 0 to 7, or the value is out of range");
        for (int field : NO_FIELDS) {
            T.refused(() -> Setting.staged(1), x -> x.addField(0, field, 0),
                    LiveUpgrader.BAD_VALUE);
        }
        for (int value : new int[] {-1000001, 1000001, MIN, MAX}) {
            T.refused(() -> Setting.staged(1), x -> x.addField(0, 7, value),
                    LiveUpgrader.BAD_VALUE);
        }
        T.due(Setting.staged(0).addField(0, 0, 1000000), 1);
        T.due(Setting.staged(0).addField(0, 7, -1000000), 1);
        T.holds(ADD, "ALREADY if the staged version has that field");
        for (int field = 0; field < 8; field++) {
            int f = field;
            T.refused(() -> Setting.staged(1 << f), x -> x.addField(0, f, 0),
                    LiveUpgrader.ALREADY);
            T.due(Setting.staged(255 - (1 << f)).addField(0, f, 0), 1);
        }
        // the staged version's fields count, not the current one's
        LiveUpgrader y = Setting.staged(1);
        y.renameField(0, 0, 1);
        T.due(y.addField(0, 1, 0), LiveUpgrader.ALREADY);
        T.due(y.addField(0, 0, 0), 2);
        T.due(y.addField(0, 0, 0), LiveUpgrader.ALREADY);
        Errors.sixSteps(T, ADD, (x, type) -> x.addField(type, 7, 0));
    }

    // ---- promise 8

    private static void dropField() {
        T.holds(DROP, "Appends a step DROP to the converter of the staged version");
        int no = LiveUpgrader.NO_SUCH_FIELD;
        LiveUpgrader x = three(10, 1, 5);
        x.dropField(0, 1);
        T.due(x.stagedFields(0), 5);
        converted(x, 10, no, 5, no, no, no, no, no);
        T.holds(DROP, COUNT);
        LiveUpgrader z = Setting.staged(255);
        for (int field = 7; field > 1; field--) {
            T.due(z.dropField(0, field), 8 - field);
        }
        Errors.noSuchClass(T, DROP, (y, type) -> y.dropField(type, 0));
        Errors.notStaged(T, DROP, (y, type) -> y.dropField(type, 0));
        T.holds(DROP, "NO_SUCH_FIELD if the staged version does not have that field");
        for (int field : NO_FIELDS) {
            T.refused(() -> Setting.staged(255), y -> y.dropField(0, field),
                    LiveUpgrader.NO_SUCH_FIELD);
        }
        for (int field = 0; field < 8; field++) {
            int f = field;
            T.refused(() -> Setting.staged(255 - (1 << f)), y -> y.dropField(0, f),
                    LiveUpgrader.NO_SUCH_FIELD);
            T.due(Setting.staged(1 << f).dropField(0, f), 1);
        }
        LiveUpgrader gone = Setting.staged(1);
        gone.dropField(0, 0);
        T.due(gone.dropField(0, 0), LiveUpgrader.NO_SUCH_FIELD);
        Errors.sixSteps(T, DROP, (y, type) -> y.dropField(type, 1));
    }

    // ---- promise 9

    private static void renameField() {
        T.holds(RENAME, "Appends a step RENAME to the converter of the staged version");
        int no = LiveUpgrader.NO_SUCH_FIELD;
        LiveUpgrader x = three(10, 1, 5);
        x.renameField(0, 1, 7);
        T.due(x.stagedFields(0), 133);
        converted(x, 10, no, 5, no, no, no, no, 1);
        T.holds(RENAME, COUNT);
        LiveUpgrader z = Setting.staged(1);
        for (int field = 0; field < 6; field++) {
            T.due(z.renameField(0, field, field + 1), field + 1);
        }
        Errors.noSuchClass(T, RENAME, (y, type) -> y.renameField(type, 0, 7));
        Errors.notStaged(T, RENAME, (y, type) -> y.renameField(type, 0, 7));
        Errors.sixSteps(T, RENAME, (y, type) -> y.renameField(type, 1, 7));
    }

    private static void renameFieldRefused() {
        T.holds(RENAME, "NO_SUCH_FIELD if the staged version does not have the field from");
        for (int from : NO_FIELDS) {
            T.refused(() -> Setting.staged(127), x -> x.renameField(0, from, 7),
                    LiveUpgrader.NO_SUCH_FIELD);
        }
        for (int from = 0; from < 7; from++) {
            int f = from;
            T.refused(() -> Setting.staged(127 - (1 << f)), x -> x.renameField(0, f, 7),
                    LiveUpgrader.NO_SUCH_FIELD);
            T.due(Setting.staged(1 << f).renameField(0, f, 7), 1);
        }
        LiveUpgrader gone = Setting.staged(1);
        gone.renameField(0, 0, 1);
        T.due(gone.renameField(0, 0, 2), LiveUpgrader.NO_SUCH_FIELD);
        T.due(gone.renameField(0, 1, 2), 2);
        T.holds(RENAME, "BAD_VALUE if the field to is not 0 to 7");
        for (int to : NO_FIELDS) {
            T.refused(() -> Setting.staged(1), x -> x.renameField(0, 0, to),
                    LiveUpgrader.BAD_VALUE);
        }
        T.due(Setting.staged(2).renameField(0, 1, 0), 1);
        T.due(Setting.staged(2).renameField(0, 1, 7), 1);
        T.holds(RENAME, "ALREADY if the staged version has the field to (also if both are the "
                + "same)");
        for (int to = 0; to < 7; to++) {
            int g = to;
            T.refused(() -> Setting.staged(128 + (1 << g)), x -> x.renameField(0, 7, g),
                    LiveUpgrader.ALREADY);
            T.refused(() -> Setting.staged(1 << g), x -> x.renameField(0, g, g),
                    LiveUpgrader.ALREADY);
        }
        T.refused(() -> Setting.staged(128), x -> x.renameField(0, 7, 7), LiveUpgrader.ALREADY);
        LiveUpgrader back = Setting.staged(3);
        T.due(back.renameField(0, 0, 2), 1);
        T.due(back.renameField(0, 1, 2), LiveUpgrader.ALREADY);
        T.due(back.renameField(0, 1, 0), 2);
    }

    // ---- promise 10

    private static void scaleField() {
        T.holds(SCALE, "Appends a step SCALE to the converter of the staged version");
        int no = LiveUpgrader.NO_SUCH_FIELD;
        LiveUpgrader x = three(10, 1, 5);
        x.scaleField(0, 2, -7);
        T.due(x.stagedFields(0), 7);
        converted(x, 10, 1, -35, no, no, no, no, no);
        T.holds(SCALE, "factor: -100000 to 100000");
        for (int factor : new int[] {-100000, -99999, -1, 0, 1, 99999, 100000}) {
            LiveUpgrader y = three(10, 1, 5);
            T.due(y.scaleField(0, 1, factor), 1);
            converted(y, 10, factor, 5, no, no, no, no, no);
        }
        T.holds(SCALE, COUNT);
        LiveUpgrader z = Setting.staged(1);
        for (int step = 1; step <= 6; step++) {
            T.due(z.scaleField(0, 0, 1), step);
        }
        Errors.noSuchClass(T, SCALE, (y, type) -> y.scaleField(type, 0, 2));
        Errors.notStaged(T, SCALE, (y, type) -> y.scaleField(type, 0, 2));
        T.holds(SCALE, "NO_SUCH_FIELD if the staged version does not have that field");
        for (int field : NO_FIELDS) {
            T.refused(() -> Setting.staged(255), y -> y.scaleField(0, field, 2),
                    LiveUpgrader.NO_SUCH_FIELD);
        }
        for (int field = 0; field < 8; field++) {
            int f = field;
            T.refused(() -> Setting.staged(255 - (1 << f)), y -> y.scaleField(0, f, 2),
                    LiveUpgrader.NO_SUCH_FIELD);
            T.due(Setting.staged(1 << f).scaleField(0, f, 2), 1);
        }
        T.holds(SCALE, "BAD_VALUE if the factor is out of range");
        for (int factor : new int[] {-100001, 100001, 1000000, -1000000, MIN, MAX}) {
            T.refused(() -> Setting.staged(1), y -> y.scaleField(0, 0, factor),
                    LiveUpgrader.BAD_VALUE);
        }
        T.due(Setting.staged(1).scaleField(0, 0, 100000), 1);
        T.due(Setting.staged(1).scaleField(0, 0, -100000), 1);
        Errors.sixSteps(T, SCALE, (y, type) -> y.scaleField(type, 0, 2));
    }

    // ---- promise 11

    private static void mergeField() {
        T.holds(MERGE, "Appends a step MERGE to the converter of the staged version");
        int no = LiveUpgrader.NO_SUCH_FIELD;
        LiveUpgrader x = three(10, 1, 5);
        x.mergeField(0, 0, 2);
        T.due(x.stagedFields(0), 6);
        converted(x, no, 1, 15, no, no, no, no, no);
        T.holds(MERGE, COUNT);
        LiveUpgrader z = Setting.staged(127);
        for (int field = 0; field < 6; field++) {
            T.due(z.mergeField(0, field, field + 1), field + 1);
        }
        Errors.noSuchClass(T, MERGE, (y, type) -> y.mergeField(type, 0, 1));
        Errors.notStaged(T, MERGE, (y, type) -> y.mergeField(type, 0, 1));
        Errors.sixSteps(T, MERGE, (y, type) -> y.mergeField(type, 1, 0));
    }

    private static void mergeFieldRefused() {
        T.holds(MERGE, "NO_SUCH_FIELD if the staged version lacks one of the fields");
        for (int field : NO_FIELDS) {
            T.refused(() -> Setting.staged(255), x -> x.mergeField(0, field, 0),
                    LiveUpgrader.NO_SUCH_FIELD);
            T.refused(() -> Setting.staged(255), x -> x.mergeField(0, 0, field),
                    LiveUpgrader.NO_SUCH_FIELD);
            T.refused(() -> Setting.staged(255), x -> x.mergeField(0, field, field),
                    LiveUpgrader.NO_SUCH_FIELD);
        }
        for (int field = 0; field < 7; field++) {
            int f = field;
            T.refused(() -> Setting.staged(255 - (1 << f)), x -> x.mergeField(0, f, 7),
                    LiveUpgrader.NO_SUCH_FIELD);
            T.refused(() -> Setting.staged(255 - (1 << f)), x -> x.mergeField(0, 7, f),
                    LiveUpgrader.NO_SUCH_FIELD);
            T.refused(() -> Setting.staged(255 - (1 << f)), x -> x.mergeField(0, f, f),
                    LiveUpgrader.NO_SUCH_FIELD);
            T.due(Setting.staged(128 + (1 << f)).mergeField(0, f, 7), 1);
            T.due(Setting.staged(128 + (1 << f)).mergeField(0, 7, f), 1);
        }
        LiveUpgrader gone = Setting.staged(7);
        gone.mergeField(0, 0, 1);
        T.due(gone.mergeField(0, 0, 1), LiveUpgrader.NO_SUCH_FIELD);
        T.due(gone.mergeField(0, 1, 0), LiveUpgrader.NO_SUCH_FIELD);
        T.due(gone.mergeField(0, 1, 2), 2);
        T.holds(MERGE, "BAD_VALUE if both fields are the same");
        for (int field = 0; field < 8; field++) {
            int f = field;
            T.refused(() -> Setting.staged(255), x -> x.mergeField(0, f, f),
                    LiveUpgrader.BAD_VALUE);
            T.refused(() -> Setting.staged(1 << f), x -> x.mergeField(0, f, f),
                    LiveUpgrader.BAD_VALUE);
        }
    }
}
