/**
 * A simulator of dynamic software updating: classes get new versions while threads run, objects are
 * converted lazily when newer code uses them, frames that run older code finish as they are, and
 * the newest version can be rolled back.
 */
public final class LiveUpgrader {
    public static final int NO_SUCH_CLASS = -2000001;
    public static final int NO_SUCH_VERSION = -2000002;
    public static final int NO_SUCH_THREAD = -2000003;
    public static final int NO_SUCH_OBJECT = -2000004;
    public static final int NO_SUCH_FIELD = -2000005;
    public static final int NO_FRAME = -2000006;
    public static final int BAD_VALUE = -2000007;
    public static final int NOT_STAGED = -2000008;
    public static final int ALREADY = -2000009;
    public static final int TOO_MANY = -2000010;
    public static final int WRONG_CLASS = -2000011;
    public static final int STALE = -2000012;
    public static final int BLOCKED = -2000013;
    public static final int CONVERSION_FAILED = -2000014;
    public static final int BUSY = -2000015;
    public static final int NONE = -2000016;

    private static final int MAX_CLASSES = 6;
    private static final int MAX_VERSIONS = 8;
    private static final int MAX_FIELDS = 8;
    private static final int MAX_STEPS = 6;
    private static final int MAX_THREADS = 4;
    private static final int MAX_FRAMES = 8;
    private static final int MAX_OBJECTS = 24;
    private static final int ALL_FIELDS = 255;
    private static final int MAX_VALUE = 1000000;
    private static final int MAX_FACTOR = 100000;

    private final ClassHistory[] histories;
    private int classCount;
    private final CallStack[] stacks;
    private final StoredObject[] objects;
    private int createdCount;

    public LiveUpgrader() {
        histories = new ClassHistory[MAX_CLASSES];
        stacks = new CallStack[MAX_THREADS];
        for (int thread = 0; thread < MAX_THREADS; thread++) {
            stacks[thread] = new CallStack();
        }
        objects = new StoredObject[MAX_OBJECTS];
    }

    // ---- classes and versions

    public int addClass(int fields) {
        if (fields < 0 || fields > ALL_FIELDS) {
            return BAD_VALUE;
        }
        if (classCount >= MAX_CLASSES) {
            return TOO_MANY;
        }
        int type = classCount;
        histories[type] = new ClassHistory(type, fields);
        classCount++;
        return type;
    }

    public int currentVersion(int type) {
        ClassHistory history = historyOf(type);
        if (history == null) {
            return NO_SUCH_CLASS;
        }
        return history.current;
    }

    public int fields(int type, int version) {
        ClassHistory history = historyOf(type);
        if (history == null) {
            return NO_SUCH_CLASS;
        }
        if (version < 0 || version > history.current) {
            return NO_SUCH_VERSION;
        }
        return history.fieldSet(version);
    }

    public int stage(int type) {
        ClassHistory history = historyOf(type);
        if (history == null) {
            return NO_SUCH_CLASS;
        }
        if (history.staged) {
            return ALREADY;
        }
        return history.beginStaged();
    }

    public int stagedFields(int type) {
        ClassHistory history = historyOf(type);
        if (history == null) {
            return NO_SUCH_CLASS;
        }
        if (!history.staged) {
            return NOT_STAGED;
        }
        return history.stagedSet();
    }

    public int addField(int type, int field, int value) {
        ClassHistory history = historyOf(type);
        if (history == null) {
            return NO_SUCH_CLASS;
        }
        if (!history.staged) {
            return NOT_STAGED;
        }
        if (!isField(field) || !isValue(value)) {
            return BAD_VALUE;
        }
        if (contains(history.stagedSet(), field)) {
            return ALREADY;
        }
        return history.append(Step.ADD, field, value);
    }

    public int dropField(int type, int field) {
        ClassHistory history = historyOf(type);
        if (history == null) {
            return NO_SUCH_CLASS;
        }
        if (!history.staged) {
            return NOT_STAGED;
        }
        if (!contains(history.stagedSet(), field)) {
            return NO_SUCH_FIELD;
        }
        return history.append(Step.DROP, field, 0);
    }

    public int renameField(int type, int from, int to) {
        ClassHistory history = historyOf(type);
        if (history == null) {
            return NO_SUCH_CLASS;
        }
        if (!history.staged) {
            return NOT_STAGED;
        }
        if (!contains(history.stagedSet(), from)) {
            return NO_SUCH_FIELD;
        }
        if (!isField(to)) {
            return BAD_VALUE;
        }
        if (contains(history.stagedSet(), to)) {
            return ALREADY;
        }
        return history.append(Step.RENAME, from, to);
    }

    public int scaleField(int type, int field, int factor) {
        ClassHistory history = historyOf(type);
        if (history == null) {
            return NO_SUCH_CLASS;
        }
        if (!history.staged) {
            return NOT_STAGED;
        }
        if (!contains(history.stagedSet(), field)) {
            return NO_SUCH_FIELD;
        }
        if (factor < -MAX_FACTOR || factor > MAX_FACTOR) {
            return BAD_VALUE;
        }
        return history.append(Step.SCALE, field, factor);
    }

    public int mergeField(int type, int from, int into) {
        ClassHistory history = historyOf(type);
        if (history == null) {
            return NO_SUCH_CLASS;
        }
        if (!history.staged) {
            return NOT_STAGED;
        }
        if (!contains(history.stagedSet(), from) || !contains(history.stagedSet(), into)) {
            return NO_SUCH_FIELD;
        }
        if (from == into) {
            return BAD_VALUE;
        }
        return history.append(Step.MERGE, from, into);
    }

    public int activate(int type) {
        ClassHistory history = historyOf(type);
        if (history == null) {
            return NO_SUCH_CLASS;
        }
        if (!history.staged) {
            return NOT_STAGED;
        }
        return history.activateStaged();
    }

    public int discard(int type) {
        ClassHistory history = historyOf(type);
        if (history == null) {
            return NO_SUCH_CLASS;
        }
        if (!history.staged) {
            return NOT_STAGED;
        }
        return history.discardStaged();
    }

    public int rollback(int type) {
        ClassHistory history = historyOf(type);
        if (history == null) {
            return NO_SUCH_CLASS;
        }
        int current = history.current;
        if (current == 0) {
            return NO_SUCH_VERSION;
        }
        if (countFrames(type, current, current) > 0) {
            return BUSY;
        }
        rollBackObjects(type, current);
        return history.removeCurrent();
    }

    // ---- threads and frames

    public int call(int thread, int type) {
        CallStack stack = stackOf(thread);
        if (stack == null) {
            return NO_SUCH_THREAD;
        }
        ClassHistory history = historyOf(type);
        if (history == null) {
            return NO_SUCH_CLASS;
        }
        return stack.push(history);
    }

    public int finish(int thread) {
        CallStack stack = stackOf(thread);
        if (stack == null) {
            return NO_SUCH_THREAD;
        }
        return stack.pop();
    }

    public int depth(int thread) {
        CallStack stack = stackOf(thread);
        if (stack == null) {
            return NO_SUCH_THREAD;
        }
        return stack.size;
    }

    public int frameClass(int thread, int index) {
        CallStack stack = stackOf(thread);
        if (stack == null) {
            return NO_SUCH_THREAD;
        }
        Frame frame = stack.frameAt(index);
        if (frame == null) {
            return NO_FRAME;
        }
        return frame.history.type;
    }

    public int frameVersion(int thread, int index) {
        CallStack stack = stackOf(thread);
        if (stack == null) {
            return NO_SUCH_THREAD;
        }
        Frame frame = stack.frameAt(index);
        if (frame == null) {
            return NO_FRAME;
        }
        return frame.version;
    }

    public int oldFrames(int type) {
        ClassHistory history = historyOf(type);
        if (history == null) {
            return NO_SUCH_CLASS;
        }
        return countFrames(type, 0, history.current - 1);
    }

    // ---- objects

    public int create(int thread) {
        CallStack stack = stackOf(thread);
        if (stack == null) {
            return NO_SUCH_THREAD;
        }
        Frame frame = stack.top();
        if (frame == null) {
            return NO_FRAME;
        }
        if (createdCount >= MAX_OBJECTS) {
            return TOO_MANY;
        }
        int object = createdCount;
        objects[object] = new StoredObject(frame.history, frame.version);
        createdCount++;
        frame.pin(object);
        return object;
    }

    public int read(int thread, int object, int field) {
        return access(thread, object, field);
    }

    public int write(int thread, int object, int field, int value) {
        if (!isValue(value)) {
            return BAD_VALUE;
        }
        int previous = access(thread, object, field);
        StoredObject stored = existingObject(object);
        if (!isValue(previous) || stored == null) {
            return previous;
        }
        stored.putValue(field, value);
        return previous;
    }

    public int peek(int object, int field) {
        StoredObject stored = existingObject(object);
        if (stored == null) {
            return NO_SUCH_OBJECT;
        }
        if (!contains(stored.history.fieldSet(stored.version), field)) {
            return NO_SUCH_FIELD;
        }
        return stored.valueOf(field);
    }

    public int objectVersion(int object) {
        StoredObject stored = existingObject(object);
        if (stored == null) {
            return NO_SUCH_OBJECT;
        }
        return stored.version;
    }

    public int conversions(int object) {
        StoredObject stored = existingObject(object);
        if (stored == null) {
            return NO_SUCH_OBJECT;
        }
        return stored.version - stored.firstVersion;
    }

    public int pinnedBy(int object) {
        if (existingObject(object) == null) {
            return NO_SUCH_OBJECT;
        }
        int smallest = smallestPin(object);
        if (smallest >= MAX_VERSIONS) {
            return NONE;
        }
        return smallest;
    }

    public int outdated(int type) {
        ClassHistory history = historyOf(type);
        if (history == null) {
            return NO_SUCH_CLASS;
        }
        int count = 0;
        for (int object = 0; object < createdCount; object++) {
            if (outdatedObject(object, history) != null) {
                count++;
            }
        }
        return count;
    }

    public int convertAll(int type) {
        ClassHistory history = historyOf(type);
        if (history == null) {
            return NO_SUCH_CLASS;
        }
        int count = 0;
        for (int object = 0; object < createdCount; object++) {
            StoredObject stored = outdatedObject(object, history);
            if (stored != null && smallestPin(object) >= history.current
                    && stored.convertTo(history.current)) {
                count++;
            }
        }
        return count;
    }

    // ---- what the methods of the face share

    private static boolean isField(int field) {
        return field >= 0 && field < MAX_FIELDS;
    }

    private static boolean isValue(long value) {
        return value >= -MAX_VALUE && value <= MAX_VALUE;
    }

    private static boolean contains(int fieldSet, int field) {
        return isField(field) && (fieldSet >> field & 1) == 1;
    }

    private ClassHistory historyOf(int type) {
        if (type < 0 || type >= classCount) {
            return null;
        }
        return histories[type];
    }

    private CallStack stackOf(int thread) {
        if (thread < 0 || thread >= MAX_THREADS) {
            return null;
        }
        return stacks[thread];
    }

    /** Null also stands for an object that was deleted, whose number stays used up. */
    private StoredObject existingObject(int object) {
        if (object < 0 || object >= createdCount) {
            return null;
        }
        return objects[object];
    }

    private int countFrames(int type, int lowest, int highest) {
        int count = 0;
        for (int thread = 0; thread < MAX_THREADS; thread++) {
            count += stacks[thread].countFrames(type, lowest, highest);
        }
        return count;
    }

    /** The smallest version that pins the object; MAX_VERSIONS, above them all, if none does. */
    private int smallestPin(int object) {
        int smallest = MAX_VERSIONS;
        for (int thread = 0; thread < MAX_THREADS; thread++) {
            smallest = Math.min(smallest, stacks[thread].smallestPin(object));
        }
        return smallest;
    }

    /** The value of the field after an access by the top frame, or the error of the access. */
    private int access(int thread, int object, int field) {
        CallStack stack = stackOf(thread);
        if (stack == null) {
            return NO_SUCH_THREAD;
        }
        Frame frame = stack.top();
        if (frame == null) {
            return NO_FRAME;
        }
        StoredObject stored = existingObject(object);
        if (stored == null) {
            return NO_SUCH_OBJECT;
        }
        if (stored.history.type != frame.history.type) {
            return WRONG_CLASS;
        }
        if (!contains(frame.history.fieldSet(frame.version), field)) {
            return NO_SUCH_FIELD;
        }
        if (stored.version > frame.version) {
            return STALE;
        }
        if (stored.version < frame.version) {
            if (smallestPin(object) < frame.version) {
                return BLOCKED;
            }
            if (!stored.convertTo(frame.version)) {
                return CONVERSION_FAILED;
            }
        }
        frame.pin(object);
        return stored.valueOf(field);
    }

    /** The object with that number if it has that class and an old version of it, or else null. */
    private StoredObject outdatedObject(int object, ClassHistory history) {
        StoredObject stored = existingObject(object);
        if (stored == null || stored.history.type != history.type
                || stored.version == history.current) {
            return null;
        }
        return stored;
    }

    private void rollBackObjects(int type, int version) {
        for (int object = 0; object < createdCount; object++) {
            StoredObject stored = objects[object];
            if (stored == null || stored.history.type != type || stored.version != version) {
                continue;
            }
            if (stored.firstVersion == version) {
                // No pin is left behind: only frames of this very version can pin the object, and
                // a rollback is refused while there is one.
                objects[object] = null;
            } else {
                stored.revert();
            }
        }
    }

    /** One step of a converter; what the operand means depends on the kind. */
    private static final class Step {
        static final int ADD = 0;
        static final int DROP = 1;
        static final int RENAME = 2;
        static final int SCALE = 3;
        static final int MERGE = 4;

        private final int kind;
        private final int field;
        private final int operand;

        Step(int kind, int field, int operand) {
            this.kind = kind;
            this.field = field;
            this.operand = operand;
        }

        int changedSet(int fieldSet) {
            switch (kind) {
                case ADD:
                    return fieldSet | 1 << field;
                case RENAME:
                    return fieldSet & ~(1 << field) | 1 << operand;
                case DROP:
                case MERGE:
                    return fieldSet & ~(1 << field);
                default:
                    return fieldSet;
            }
        }

        /** Answers false, and changes nothing, if a value would be out of range. */
        boolean applyTo(int[] values) {
            switch (kind) {
                case ADD:
                    return put(values, field, operand);
                case RENAME:
                    return put(values, operand, values[field]);
                case SCALE:
                    return put(values, field, (long) values[field] * operand);
                case MERGE:
                    return put(values, operand, (long) values[operand] + values[field]);
                default:
                    // A dropped field's value may stay: no set of fields leads to it any more.
                    return true;
            }
        }

        private static boolean put(int[] values, int target, long value) {
            if (!isField(target) || !isValue(value)) {
                return false;
            }
            values[target] = (int) value;
            return true;
        }
    }

    /** The steps that lead to a version from the one before. */
    private static final class Converter {
        private final Step[] steps = new Step[MAX_STEPS];
        private int length;

        void clear() {
            length = 0;
        }

        boolean isFull() {
            return length >= MAX_STEPS;
        }

        int append(Step step) {
            if (isFull()) {
                return TOO_MANY;
            }
            steps[length] = step;
            length++;
            return length;
        }

        boolean applyTo(int[] values) {
            for (int i = 0; i < length; i++) {
                if (!steps[i].applyTo(values)) {
                    return false;
                }
            }
            return true;
        }
    }

    /** The versions of one class. The staged version, if there is one, stands at current + 1. */
    private static final class ClassHistory {
        private final int type;
        private final int[] fieldSets = new int[MAX_VERSIONS];
        private final Converter[] converters = new Converter[MAX_VERSIONS];
        private int current;
        private boolean staged;

        ClassHistory(int type, int fieldSet) {
            this.type = type;
            fieldSets[0] = fieldSet;
            for (int version = 0; version < MAX_VERSIONS; version++) {
                converters[version] = new Converter();
            }
        }

        int fieldSet(int version) {
            if (version < 0 || version >= MAX_VERSIONS) {
                return 0;
            }
            return fieldSets[version];
        }

        int stagedSet() {
            return fieldSet(current + 1);
        }

        boolean isFull() {
            return current >= MAX_VERSIONS - 1;
        }

        int beginStaged() {
            if (isFull()) {
                return TOO_MANY;
            }
            fieldSets[current + 1] = fieldSets[current];
            converters[current + 1].clear();
            staged = true;
            return current + 1;
        }

        int append(int kind, int field, int operand) {
            if (isFull() || converters[current + 1].isFull()) {
                return TOO_MANY;
            }
            Step step = new Step(kind, field, operand);
            fieldSets[current + 1] = step.changedSet(fieldSets[current + 1]);
            return converters[current + 1].append(step);
        }

        int activateStaged() {
            if (!isFull()) {
                current++;
            }
            staged = false;
            return current;
        }

        int discardStaged() {
            staged = false;
            if (isFull()) {
                return 0;
            }
            return converters[current + 1].length;
        }

        int removeCurrent() {
            if (current > 0) {
                current--;
            }
            staged = false;
            return current;
        }
    }

    /** A call that runs the version that was current when it began. */
    private static final class Frame {
        private final ClassHistory history;
        private final int version;
        /** Bit n is set if the frame pins object n. */
        private int pins;

        Frame(ClassHistory history) {
            this.history = history;
            this.version = history.current;
        }

        void pin(int object) {
            pins |= 1 << object;
        }

        boolean pins(int object) {
            return (pins >> object & 1) == 1;
        }
    }

    /** The frames of one thread, the bottom one first. */
    private static final class CallStack {
        private final Frame[] frames = new Frame[MAX_FRAMES];
        private int size;

        int push(ClassHistory history) {
            if (size >= MAX_FRAMES) {
                return TOO_MANY;
            }
            frames[size] = new Frame(history);
            size++;
            return size;
        }

        int pop() {
            if (size <= 0) {
                return NO_FRAME;
            }
            size--;
            frames[size] = null;
            return size;
        }

        Frame frameAt(int index) {
            if (index < 0 || index >= size) {
                return null;
            }
            return frames[index];
        }

        Frame top() {
            return frameAt(size - 1);
        }

        int countFrames(int type, int lowest, int highest) {
            int count = 0;
            for (int i = 0; i < size; i++) {
                Frame frame = frames[i];
                if (frame.history.type == type && frame.version >= lowest
                        && frame.version <= highest) {
                    count++;
                }
            }
            return count;
        }

        int smallestPin(int object) {
            int smallest = MAX_VERSIONS;
            for (int i = 0; i < size; i++) {
                if (frames[i].pins(object)) {
                    smallest = Math.min(smallest, frames[i].version);
                }
            }
            return smallest;
        }
    }

    /** An object with the values of its version and those kept of the versions before. */
    private static final class StoredObject {
        private final ClassHistory history;
        private final int firstVersion;
        private int version;
        /**
         * A row of values for each version. The row of the object's version is in use, the rows
         * below are those it was converted from, and a row above means nothing: so a conversion
         * that fails on its way leaves no trace, and a rollback only steps back a row.
         */
        private final int[][] rows = new int[MAX_VERSIONS][MAX_FIELDS];

        StoredObject(ClassHistory history, int version) {
            this.history = history;
            this.firstVersion = version;
            this.version = version;
        }

        int valueOf(int field) {
            return rows[version][field];
        }

        void putValue(int field, int value) {
            rows[version][field] = value;
        }

        boolean convertTo(int target) {
            if (target < version || target >= MAX_VERSIONS) {
                return false;
            }
            for (int next = version + 1; next <= target; next++) {
                System.arraycopy(rows[next - 1], 0, rows[next], 0, MAX_FIELDS);
                if (!history.converters[next].applyTo(rows[next])) {
                    return false;
                }
            }
            version = target;
            return true;
        }

        void revert() {
            if (version > firstVersion) {
                version--;
            }
        }
    }
}
