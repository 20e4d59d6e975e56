import java.util.ArrayList;
import java.util.HashMap;
import java.util.HashSet;
import java.util.List;
import java.util.Map;
import java.util.Set;

/**
 * The document once more, written word by word and without thrift: values stand in maps, what an
 * object keeps stands in a stack of copies, and counters are counted.
 */
final class Model {
    private static final int LIMIT = 1000000;

    private record Step(String kind, int field, int operand) { }

    private static final class Version {
        final Set<Integer> fields = new HashSet<>();
        final List<Step> steps = new ArrayList<>();
    }

    private static final class Type {
        final List<Version> versions = new ArrayList<>();
        Version staged;

        int current() {
            return versions.size() - 1;
        }
    }

    private static final class Item {
        int type;
        int version;
        int first;
        int conversions;
        Map<Integer, Long> values = new HashMap<>();
        final List<Map<Integer, Long>> kept = new ArrayList<>();
    }

    private static final class Call {
        int type;
        int version;
        final Set<Item> pinned = new HashSet<>();
    }

    private final List<Type> types = new ArrayList<>();
    private final List<List<Call>> threads = new ArrayList<>();
    private final List<Item> items = new ArrayList<>();

    Model() {
        for (int thread = 0; thread < 4; thread++) {
            threads.add(new ArrayList<>());
        }
    }

    int answer(String method, int[] a) {
        switch (method) {
            case "addClass":
                return addClass(a[0]);
            case "call":
            case "finish":
            case "depth":
            case "frameClass":
            case "frameVersion":
            case "create":
                return onThread(method, a);
            case "read":
                return access(a[0], a[1], a[2], null);
            case "write":
                if (Math.abs((long) a[3]) > LIMIT) {
                    return LiveUpgrader.BAD_VALUE;
                }
                return access(a[0], a[1], a[2], (long) a[3]);
            case "peek":
            case "objectVersion":
            case "conversions":
            case "pinnedBy":
                return onObject(method, a);
            default:
                if (a[0] < 0 || a[0] >= types.size()) {
                    return LiveUpgrader.NO_SUCH_CLASS;
                }
                return onType(method, a, types.get(a[0]));
        }
    }

    private int addClass(int set) {
        if (set < 0 || set > 255) {
            return LiveUpgrader.BAD_VALUE;
        }
        if (types.size() == 6) {
            return LiveUpgrader.TOO_MANY;
        }
        Version version = new Version();
        for (int field = 0; field < 8; field++) {
            if ((set / (1 << field)) % 2 == 1) {
                version.fields.add(field);
            }
        }
        Type type = new Type();
        type.versions.add(version);
        types.add(type);
        return types.size() - 1;
    }

    private int onType(String method, int[] a, Type type) {
        switch (method) {
            case "currentVersion":
                return type.current();
            case "fields":
                if (a[1] < 0 || a[1] > type.current()) {
                    return LiveUpgrader.NO_SUCH_VERSION;
                }
                return sum(type.versions.get(a[1]).fields);
            case "stage":
                return stage(type);
            case "rollback":
                return rollback(a[0], type);
            case "oldFrames":
                return (int) threads.stream().flatMap(List::stream)
                        .filter(c -> c.type == a[0] && c.version != type.current()).count();
            case "outdated":
                return (int) items.stream().filter(i -> i != null && i.type == a[0]
                        && i.version != type.current()).count();
            case "convertAll":
                return convertAll(a[0], type);
            default:
                if (type.staged == null) {
                    return LiveUpgrader.NOT_STAGED;
                }
                return onStaged(method, a, type);
        }
    }

    private static int sum(Set<Integer> fields) {
        int sum = 0;
        for (int field : fields) {
            sum += 1 << field;
        }
        return sum;
    }

    private static int stage(Type type) {
        if (type.staged != null) {
            return LiveUpgrader.ALREADY;
        }
        if (type.versions.size() == 8) {
            return LiveUpgrader.TOO_MANY;
        }
        type.staged = new Version();
        type.staged.fields.addAll(type.versions.get(type.current()).fields);
        return type.versions.size();
    }

    private static int onStaged(String method, int[] a, Type type) {
        Version staged = type.staged;
        switch (method) {
            case "stagedFields":
                return sum(staged.fields);
            case "activate":
                type.versions.add(staged);
                type.staged = null;
                return type.current();
            case "discard":
                type.staged = null;
                return staged.steps.size();
            default:
                return append(method, a, staged);
        }
    }

    private static int append(String method, int[] a, Version staged) {
        Set<Integer> fields = staged.fields;
        boolean has = fields.contains(a[1]);
        switch (method) {
            case "addField":
                if (a[1] < 0 || a[1] > 7 || Math.abs((long) a[2]) > LIMIT) {
                    return LiveUpgrader.BAD_VALUE;
                }
                if (has) {
                    return LiveUpgrader.ALREADY;
                }
                break;
            case "renameField":
                if (!has) {
                    return LiveUpgrader.NO_SUCH_FIELD;
                }
                if (a[2] < 0 || a[2] > 7) {
                    return LiveUpgrader.BAD_VALUE;
                }
                if (fields.contains(a[2])) {
                    return LiveUpgrader.ALREADY;
                }
                break;
            case "mergeField":
                if (!has || !fields.contains(a[2])) {
                    return LiveUpgrader.NO_SUCH_FIELD;
                }
                if (a[1] == a[2]) {
                    return LiveUpgrader.BAD_VALUE;
                }
                break;
            default:
                if (!has) {
                    return LiveUpgrader.NO_SUCH_FIELD;
                }
                if (method.equals("scaleField") && Math.abs((long) a[2]) > 100000) {
                    return LiveUpgrader.BAD_VALUE;
                }
        }
        if (staged.steps.size() == 6) {
            return LiveUpgrader.TOO_MANY;
        }
        staged.steps.add(new Step(method, a[1], method.equals("dropField") ? 0 : a[2]));
        if (method.equals("addField")) {
            fields.add(a[1]);
        } else if (!method.equals("scaleField")) {
            fields.remove(a[1]);
        }
        if (method.equals("renameField")) {
            fields.add(a[2]);
        }
        return staged.steps.size();
    }

    private int rollback(int number, Type type) {
        int current = type.current();
        if (current == 0) {
            return LiveUpgrader.NO_SUCH_VERSION;
        }
        for (List<Call> stack : threads) {
            for (Call call : stack) {
                if (call.type == number && call.version == current) {
                    return LiveUpgrader.BUSY;
                }
            }
        }
        for (int i = 0; i < items.size(); i++) {
            Item item = items.get(i);
            if (item == null || item.type != number || item.version != current) {
                continue;
            }
            if (item.first == current) {
                items.set(i, null);
                threads.forEach(stack -> stack.forEach(call -> call.pinned.remove(item)));
            } else {
                item.version--;
                item.conversions--;
                item.values = item.kept.remove(item.kept.size() - 1);
            }
        }
        type.versions.remove(current);
        type.staged = null;
        return type.current();
    }

    private int convertAll(int number, Type type) {
        int count = 0;
        for (Item item : items) {
            if (item != null && item.type == number && item.version < type.current()
                    && !blocked(item, type.current()) && convert(item, type.current())) {
                count++;
            }
        }
        return count;
    }

    private boolean blocked(Item item, int version) {
        return threads.stream().flatMap(List::stream)
                .anyMatch(c -> c.pinned.contains(item) && c.version < version);
    }

    private boolean convert(Item item, int version) {
        Map<Integer, Long> values = new HashMap<>(item.values);
        List<Map<Integer, Long>> passed = new ArrayList<>();
        for (int next = item.version + 1; next <= version; next++) {
            passed.add(new HashMap<>(values));
            for (Step step : types.get(item.type).versions.get(next).steps) {
                if (!apply(step, values)) {
                    return false;
                }
            }
        }
        item.kept.addAll(passed);
        item.conversions += passed.size();
        item.values = values;
        item.version = version;
        return true;
    }

    private static boolean apply(Step step, Map<Integer, Long> values) {
        switch (step.kind) {
            case "addField":
                values.put(step.field, (long) step.operand);
                break;
            case "dropField":
                values.remove(step.field);
                break;
            case "renameField":
                values.put(step.operand, values.remove(step.field));
                break;
            case "scaleField":
                values.put(step.field, values.get(step.field) * step.operand);
                break;
            default:
                values.put(step.operand, values.get(step.operand) + values.remove(step.field));
        }
        for (long value : values.values()) {
            if (Math.abs(value) > LIMIT) {
                return false;
            }
        }
        return true;
    }

    private int onThread(String method, int[] a) {
        if (a[0] < 0 || a[0] > 3) {
            return LiveUpgrader.NO_SUCH_THREAD;
        }
        List<Call> stack = threads.get(a[0]);
        if (method.equals("depth")) {
            return stack.size();
        }
        if (method.equals("call")) {
            return push(stack, a[1]);
        }
        int index = method.startsWith("frame") ? a[1] : stack.size() - 1;
        if (index < 0 || index >= stack.size()) {
            return LiveUpgrader.NO_FRAME;
        }
        Call call = stack.get(index);
        switch (method) {
            case "frameClass":
                return call.type;
            case "frameVersion":
                return call.version;
            case "finish":
                stack.remove(index);
                return stack.size();
            default:
                return create(call);
        }
    }

    private int push(List<Call> stack, int type) {
        if (type < 0 || type >= types.size()) {
            return LiveUpgrader.NO_SUCH_CLASS;
        }
        if (stack.size() == 8) {
            return LiveUpgrader.TOO_MANY;
        }
        Call call = new Call();
        call.type = type;
        call.version = types.get(type).current();
        stack.add(call);
        return stack.size();
    }

    private int create(Call call) {
        if (items.size() == 24) {
            return LiveUpgrader.TOO_MANY;
        }
        Item item = new Item();
        item.type = call.type;
        item.version = call.version;
        item.first = call.version;
        for (int field : types.get(call.type).versions.get(call.version).fields) {
            item.values.put(field, 0L);
        }
        items.add(item);
        call.pinned.add(item);
        return items.size() - 1;
    }

    private int access(int thread, int object, int field, Long written) {
        if (thread < 0 || thread > 3) {
            return LiveUpgrader.NO_SUCH_THREAD;
        }
        List<Call> stack = threads.get(thread);
        if (stack.isEmpty()) {
            return LiveUpgrader.NO_FRAME;
        }
        Call call = stack.get(stack.size() - 1);
        if (object < 0 || object >= items.size() || items.get(object) == null) {
            return LiveUpgrader.NO_SUCH_OBJECT;
        }
        Item item = items.get(object);
        if (item.type != call.type) {
            return LiveUpgrader.WRONG_CLASS;
        }
        if (!types.get(call.type).versions.get(call.version).fields.contains(field)) {
            return LiveUpgrader.NO_SUCH_FIELD;
        }
        if (item.version > call.version) {
            return LiveUpgrader.STALE;
        }
        if (item.version < call.version && blocked(item, call.version)) {
            return LiveUpgrader.BLOCKED;
        }
        if (item.version < call.version && !convert(item, call.version)) {
            return LiveUpgrader.CONVERSION_FAILED;
        }
        call.pinned.add(item);
        long value = item.values.get(field);
        if (written != null) {
            item.values.put(field, written);
        }
        return (int) value;
    }

    private int onObject(String method, int[] a) {
        if (a[0] < 0 || a[0] >= items.size() || items.get(a[0]) == null) {
            return LiveUpgrader.NO_SUCH_OBJECT;
        }
        Item item = items.get(a[0]);
        switch (method) {
            case "objectVersion":
                return item.version;
            case "conversions":
                return item.conversions;
            case "pinnedBy":
                return threads.stream().flatMap(List::stream).filter(c -> c.pinned.contains(item))
                        .mapToInt(c -> c.version).min().orElse(LiveUpgrader.NONE);
            default:
                return item.values.containsKey(a[1])
                        ? (int) (long) item.values.get(a[1]) : LiveUpgrader.NO_SUCH_FIELD;
        }
    }
}
