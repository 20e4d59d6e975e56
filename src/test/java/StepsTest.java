/** Promises 7 to 11: the steps of a converter, their errors in order, and what they do to values. */
public final class StepsTest {
    private static final Due T = new Due("StepsTest");
    private static final int MIN = Integer.MIN_VALUE;
    private static final int MAX = Integer.MAX_VALUE;

    public static void main(String[] args) {
        addField();
        dropField();
        renameField();
        scaleField();
        mergeField();
        sixSteps();
        errorsChangeNothing();
        stepsOnValues();
        limitsOfValues();
        orderOfSteps();
        T.end();
    }

    /** One class with the fields, version 1 staged. */
    private static LiveUpgrader staged(int fields) {
        LiveUpgrader x = new LiveUpgrader();
        x.addClass(fields);
        x.stage(0);
        return x;
    }

    private static void addField() {
        LiveUpgrader x = new LiveUpgrader();
        T.due(x.addField(0, 9, MAX), LiveUpgrader.NO_SUCH_CLASS);
        x.addClass(1);
        T.due(x.addField(-1, 1, 0), LiveUpgrader.NO_SUCH_CLASS);
        T.due(x.addField(1, 1, 0), LiveUpgrader.NO_SUCH_CLASS);
        T.due(x.addField(0, 9, MAX), LiveUpgrader.NOT_STAGED);
        T.due(x.addField(0, 0, 0), LiveUpgrader.NOT_STAGED);
        x.stage(0);
        T.due(x.addField(0, -1, 0), LiveUpgrader.BAD_VALUE);
        T.due(x.addField(0, 8, 0), LiveUpgrader.BAD_VALUE);
        T.due(x.addField(0, 32, 0), LiveUpgrader.BAD_VALUE);
        T.due(x.addField(0, MIN, 0), LiveUpgrader.BAD_VALUE);
        T.due(x.addField(0, MAX, 0), LiveUpgrader.BAD_VALUE);
        T.due(x.addField(0, 1, 1000001), LiveUpgrader.BAD_VALUE);
        T.due(x.addField(0, 1, -1000001), LiveUpgrader.BAD_VALUE);
        T.due(x.addField(0, 1, MIN), LiveUpgrader.BAD_VALUE);
        T.due(x.addField(0, 1, MAX), LiveUpgrader.BAD_VALUE);
        T.due(x.addField(0, 0, 1000001), LiveUpgrader.BAD_VALUE);
        T.due(x.addField(0, 0, 1000000), LiveUpgrader.ALREADY);
        T.due(x.addField(0, 1, 1000000), 1);
        T.due(x.addField(0, 1, 0), LiveUpgrader.ALREADY);
        T.due(x.addField(0, 7, -1000000), 2);
        T.due(x.stagedFields(0), 131);
    }

    private static void dropField() {
        LiveUpgrader x = new LiveUpgrader();
        T.due(x.dropField(0, 0), LiveUpgrader.NO_SUCH_CLASS);
        x.addClass(129);
        T.due(x.dropField(-1, 0), LiveUpgrader.NO_SUCH_CLASS);
        T.due(x.dropField(1, 0), LiveUpgrader.NO_SUCH_CLASS);
        T.due(x.dropField(0, 0), LiveUpgrader.NOT_STAGED);
        T.due(x.dropField(0, 1), LiveUpgrader.NOT_STAGED);
        x.stage(0);
        T.due(x.dropField(0, 1), LiveUpgrader.NO_SUCH_FIELD);
        T.due(x.dropField(0, -1), LiveUpgrader.NO_SUCH_FIELD);
        T.due(x.dropField(0, 8), LiveUpgrader.NO_SUCH_FIELD);
        T.due(x.dropField(0, 32), LiveUpgrader.NO_SUCH_FIELD);
        T.due(x.dropField(0, -32), LiveUpgrader.NO_SUCH_FIELD);
        T.due(x.dropField(0, MIN), LiveUpgrader.NO_SUCH_FIELD);
        T.due(x.dropField(0, MAX), LiveUpgrader.NO_SUCH_FIELD);
        T.due(x.dropField(0, 7), 1);
        T.due(x.dropField(0, 7), LiveUpgrader.NO_SUCH_FIELD);
        T.due(x.dropField(0, 0), 2);
        T.due(x.stagedFields(0), 0);
    }

    private static void renameField() {
        LiveUpgrader x = new LiveUpgrader();
        T.due(x.renameField(0, 0, 9), LiveUpgrader.NO_SUCH_CLASS);
        x.addClass(9);
        T.due(x.renameField(-1, 0, 1), LiveUpgrader.NO_SUCH_CLASS);
        T.due(x.renameField(1, 0, 1), LiveUpgrader.NO_SUCH_CLASS);
        T.due(x.renameField(0, 1, 9), LiveUpgrader.NOT_STAGED);
        x.stage(0);
        T.due(x.renameField(0, 1, 8), LiveUpgrader.NO_SUCH_FIELD);
        T.due(x.renameField(0, 1, 0), LiveUpgrader.NO_SUCH_FIELD);
        T.due(x.renameField(0, 1, 1), LiveUpgrader.NO_SUCH_FIELD);
        T.due(x.renameField(0, -1, 2), LiveUpgrader.NO_SUCH_FIELD);
        T.due(x.renameField(0, 8, 2), LiveUpgrader.NO_SUCH_FIELD);
        T.due(x.renameField(0, 32, 2), LiveUpgrader.NO_SUCH_FIELD);
        T.due(x.renameField(0, 0, 8), LiveUpgrader.BAD_VALUE);
        T.due(x.renameField(0, 0, -1), LiveUpgrader.BAD_VALUE);
        T.due(x.renameField(0, 0, 32), LiveUpgrader.BAD_VALUE);
        T.due(x.renameField(0, 0, MIN), LiveUpgrader.BAD_VALUE);
        T.due(x.renameField(0, 0, MAX), LiveUpgrader.BAD_VALUE);
        T.due(x.renameField(0, 0, 0), LiveUpgrader.ALREADY);
        T.due(x.renameField(0, 0, 3), LiveUpgrader.ALREADY);
        T.due(x.renameField(0, 0, 7), 1);
        T.due(x.stagedFields(0), 136);
        T.due(x.renameField(0, 7, 0), 2);
        T.due(x.stagedFields(0), 9);
    }

    private static void scaleField() {
        LiveUpgrader x = new LiveUpgrader();
        T.due(x.scaleField(0, 0, 100001), LiveUpgrader.NO_SUCH_CLASS);
        x.addClass(1);
        T.due(x.scaleField(-1, 0, 1), LiveUpgrader.NO_SUCH_CLASS);
        T.due(x.scaleField(1, 0, 1), LiveUpgrader.NO_SUCH_CLASS);
        T.due(x.scaleField(0, 1, 100001), LiveUpgrader.NOT_STAGED);
        x.stage(0);
        T.due(x.scaleField(0, 1, 100001), LiveUpgrader.NO_SUCH_FIELD);
        T.due(x.scaleField(0, -1, 1), LiveUpgrader.NO_SUCH_FIELD);
        T.due(x.scaleField(0, 8, 1), LiveUpgrader.NO_SUCH_FIELD);
        T.due(x.scaleField(0, 32, 1), LiveUpgrader.NO_SUCH_FIELD);
        T.due(x.scaleField(0, 0, 100001), LiveUpgrader.BAD_VALUE);
        T.due(x.scaleField(0, 0, -100001), LiveUpgrader.BAD_VALUE);
        T.due(x.scaleField(0, 0, MIN), LiveUpgrader.BAD_VALUE);
        T.due(x.scaleField(0, 0, MAX), LiveUpgrader.BAD_VALUE);
        T.due(x.scaleField(0, 0, 100000), 1);
        T.due(x.scaleField(0, 0, -100000), 2);
        T.due(x.scaleField(0, 0, 0), 3);
        T.due(x.stagedFields(0), 1);
    }

    private static void mergeField() {
        LiveUpgrader x = new LiveUpgrader();
        T.due(x.mergeField(0, 0, 0), LiveUpgrader.NO_SUCH_CLASS);
        x.addClass(7);
        T.due(x.mergeField(-1, 0, 1), LiveUpgrader.NO_SUCH_CLASS);
        T.due(x.mergeField(1, 0, 1), LiveUpgrader.NO_SUCH_CLASS);
        T.due(x.mergeField(0, 5, 5), LiveUpgrader.NOT_STAGED);
        x.stage(0);
        T.due(x.mergeField(0, 3, 0), LiveUpgrader.NO_SUCH_FIELD);
        T.due(x.mergeField(0, 0, 3), LiveUpgrader.NO_SUCH_FIELD);
        T.due(x.mergeField(0, 3, 3), LiveUpgrader.NO_SUCH_FIELD);
        T.due(x.mergeField(0, -1, 0), LiveUpgrader.NO_SUCH_FIELD);
        T.due(x.mergeField(0, 0, -1), LiveUpgrader.NO_SUCH_FIELD);
        T.due(x.mergeField(0, 0, 8), LiveUpgrader.NO_SUCH_FIELD);
        T.due(x.mergeField(0, 0, 33), LiveUpgrader.NO_SUCH_FIELD);
        T.due(x.mergeField(0, MAX, MAX), LiveUpgrader.NO_SUCH_FIELD);
        T.due(x.mergeField(0, 0, 0), LiveUpgrader.BAD_VALUE);
        T.due(x.mergeField(0, 0, 2), 1);
        T.due(x.stagedFields(0), 6);
        T.due(x.mergeField(0, 0, 2), LiveUpgrader.NO_SUCH_FIELD);
        T.due(x.mergeField(0, 2, 1), 2);
        T.due(x.stagedFields(0), 2);
    }

    private static void sixSteps() {
        LiveUpgrader x = staged(3);
        for (int step = 1; step <= 6; step++) {
            T.due(x.scaleField(0, 0, step), step);
        }
        T.due(x.addField(0, 2, 0), LiveUpgrader.TOO_MANY);
        T.due(x.dropField(0, 0), LiveUpgrader.TOO_MANY);
        T.due(x.renameField(0, 0, 2), LiveUpgrader.TOO_MANY);
        T.due(x.scaleField(0, 0, 1), LiveUpgrader.TOO_MANY);
        T.due(x.mergeField(0, 0, 1), LiveUpgrader.TOO_MANY);
        T.due(x.addField(0, 8, 0), LiveUpgrader.BAD_VALUE);
        T.due(x.addField(0, 0, 0), LiveUpgrader.ALREADY);
        T.due(x.dropField(0, 2), LiveUpgrader.NO_SUCH_FIELD);
        T.due(x.renameField(0, 2, 3), LiveUpgrader.NO_SUCH_FIELD);
        T.due(x.renameField(0, 0, 8), LiveUpgrader.BAD_VALUE);
        T.due(x.renameField(0, 0, 1), LiveUpgrader.ALREADY);
        T.due(x.scaleField(0, 2, 1), LiveUpgrader.NO_SUCH_FIELD);
        T.due(x.scaleField(0, 0, 100001), LiveUpgrader.BAD_VALUE);
        T.due(x.mergeField(0, 0, 2), LiveUpgrader.NO_SUCH_FIELD);
        T.due(x.mergeField(0, 0, 0), LiveUpgrader.BAD_VALUE);
        T.due(x.stagedFields(0), 3);
        T.due(x.discard(0), 6);
        T.due(x.stage(0), 1);
        T.due(x.scaleField(0, 0, 1), 1);
    }

    private static void errorsChangeNothing() {
        LiveUpgrader x = staged(3);
        x.addField(0, 0, 1);
        x.dropField(0, 5);
        x.renameField(0, 0, 1);
        x.renameField(0, 0, 0);
        x.scaleField(0, 0, 100001);
        x.mergeField(0, 0, 0);
        T.due(x.stagedFields(0), 3);
        T.due(x.discard(0), 0);
    }

    private static void stepsOnValues() {
        LiveUpgrader x = new LiveUpgrader();
        x.addClass(31);
        x.call(0, 0);
        x.create(0);
        for (int field = 0; field < 5; field++) {
            x.write(0, 0, field, 10 + field);
        }
        x.finish(0);
        x.stage(0);
        T.due(x.addField(0, 5, -77), 1);
        T.due(x.dropField(0, 0), 2);
        T.due(x.renameField(0, 1, 7), 3);
        T.due(x.scaleField(0, 2, -3), 4);
        T.due(x.mergeField(0, 3, 4), 5);
        T.due(x.activate(0), 1);
        T.due(x.fields(0, 1), 180);
        T.due(x.convertAll(0), 1);
        T.due(x.peek(0, 0), LiveUpgrader.NO_SUCH_FIELD);
        T.due(x.peek(0, 1), LiveUpgrader.NO_SUCH_FIELD);
        T.due(x.peek(0, 2), -36);
        T.due(x.peek(0, 3), LiveUpgrader.NO_SUCH_FIELD);
        T.due(x.peek(0, 4), 27);
        T.due(x.peek(0, 5), -77);
        T.due(x.peek(0, 6), LiveUpgrader.NO_SUCH_FIELD);
        T.due(x.peek(0, 7), 11);
    }

    /** What convertAll makes of an object with one field scaled once. */
    private static int scaled(int value, int factor) {
        LiveUpgrader x = new LiveUpgrader();
        x.addClass(1);
        x.call(0, 0);
        x.create(0);
        x.write(0, 0, 0, value);
        x.finish(0);
        x.stage(0);
        x.scaleField(0, 0, factor);
        x.activate(0);
        x.call(0, 0);
        return x.read(0, 0, 0);
    }

    private static int merged(int value, int other) {
        LiveUpgrader x = new LiveUpgrader();
        x.addClass(3);
        x.call(0, 0);
        x.create(0);
        x.write(0, 0, 0, value);
        x.write(0, 0, 1, other);
        x.finish(0);
        x.stage(0);
        x.mergeField(0, 0, 1);
        x.activate(0);
        x.call(0, 0);
        return x.read(0, 0, 1);
    }

    private static void limitsOfValues() {
        T.due(scaled(10, 100000), 1000000);
        T.due(scaled(-10, 100000), -1000000);
        T.due(scaled(11, 100000), LiveUpgrader.CONVERSION_FAILED);
        T.due(scaled(-11, 100000), LiveUpgrader.CONVERSION_FAILED);
        T.due(scaled(1000000, -1), -1000000);
        T.due(scaled(1000000, 0), 0);
        T.due(scaled(333334, 3), LiveUpgrader.CONVERSION_FAILED);
        T.due(scaled(333333, 3), 999999);
        // these products are small again when only 32 bits of them are kept
        T.due(scaled(42950, 100000), LiveUpgrader.CONVERSION_FAILED);
        T.due(scaled(65536, 65536), LiveUpgrader.CONVERSION_FAILED);
        T.due(scaled(1000000, 100000), LiveUpgrader.CONVERSION_FAILED);
        T.due(merged(999999, 1), 1000000);
        T.due(merged(1000000, 1), LiveUpgrader.CONVERSION_FAILED);
        T.due(merged(-1000000, -1), LiveUpgrader.CONVERSION_FAILED);
        T.due(merged(-999999, -1), -1000000);
        T.due(merged(-1000000, 1000000), 0);
        T.due(merged(4, -9), -5);
    }

    private static void orderOfSteps() {
        // a step that fails counts although a later one would drop the field
        LiveUpgrader x = new LiveUpgrader();
        x.addClass(3);
        x.call(0, 0);
        x.create(0);
        x.write(0, 0, 0, 600000);
        x.write(0, 0, 1, 3);
        x.finish(0);
        x.stage(0);
        x.scaleField(0, 1, 2);
        x.scaleField(0, 0, 2);
        x.dropField(0, 0);
        x.activate(0);
        T.due(x.convertAll(0), 0);
        T.due(x.peek(0, 0), 600000);
        T.due(x.peek(0, 1), 3);
        x.rollback(0);
        // fields that come, go and swap within one converter
        x.stage(0);
        x.renameField(0, 0, 2);
        x.renameField(0, 1, 0);
        x.renameField(0, 2, 1);
        x.dropField(0, 0);
        x.addField(0, 0, 8);
        x.mergeField(0, 0, 1);
        x.activate(0);
        T.due(x.fields(0, 1), 2);
        T.due(x.convertAll(0), 1);
        T.due(x.peek(0, 1), 600008);
        T.due(x.rollback(0), 0);
        T.due(x.peek(0, 0), 600000);
        T.due(x.peek(0, 1), 3);
    }
}
