import java.util.Arrays;
import java.util.Set;
import java.util.TreeSet;

/**
 * Long runs of mixed calls, each answer compared with the model's. The runs must have met every
 * error of every method, so that they are known to reach what they are meant to compare.
 */
public final class ModelTest {
    private static final Due T = new Due("ModelTest");
    private static final int RUNS = 3000;
    private static final int CALLS = 512;
    private static final int MOST_FAULTS_TOLD = 5;

    /** Method, weight, and a letter for each argument: see argument(). */
    private static final String[] METHODS = {
        "addClass 2 s", "currentVersion 2 c", "fields 2 cv", "stage 10 c", "stagedFields 3 c",
        "addField 8 cfn", "dropField 3 cf", "renameField 6 cff", "scaleField 10 cfk",
        "mergeField 5 cff", "activate 12 c", "discard 1 c", "rollback 7 c", "call 18 tc",
        "finish 16 t", "depth 2 t", "frameClass 2 ti", "frameVersion 3 ti", "oldFrames 3 c",
        "create 8 t", "read 25 tof", "write 25 tofn", "peek 15 of", "objectVersion 6 o",
        "conversions 6 o", "pinnedBy 6 o", "outdated 4 c", "convertAll 4 c"
    };

    private static final String ERRORS = "addClass:7,10 currentVersion:1 fields:1,2 stage:1,9,10 "
            + "stagedFields:1,8 addField:1,7,8,9,10 dropField:1,5,8,10 renameField:1,5,7,8,9,10 "
            + "scaleField:1,5,7,8,10 mergeField:1,5,7,8,10 activate:1,8 discard:1,8 "
            + "rollback:1,2,15 call:1,3,10 finish:3,6 depth:3 frameClass:3,6 frameVersion:3,6 "
            + "oldFrames:1 create:3,6,10 read:3,4,5,6,11,12,13,14 write:3,4,5,6,7,11,12,13,14 "
            + "peek:4,5 objectVersion:4 conversions:4 pinnedBy:4,16 outdated:1 convertAll:1";

    private static long state = 20261119L;
    private static int classes;
    private static int told;
    private static final Set<String> MET = new TreeSet<>();

    public static void main(String[] args) {
        for (int run = 0; run < RUNS && told < MOST_FAULTS_TOLD; run++) {
            run(run);
        }
        if (told == 0) {
            everyErrorWasMet();
        }
        T.end();
    }

    /** The next number of a fixed row, from 0 to bound - 1. */
    private static int next(int bound) {
        state = state * 6364136223846793005L + 1442695040888963407L;
        return (int) ((state >>> 33) % bound);
    }

    private static void run(int run) {
        LiveUpgrader x = new LiveUpgrader();
        Model model = new Model();
        // few classes let the runs go deep into one, many let them meet each other
        classes = 1 + next(7);
        for (int i = 0; i < CALLS; i++) {
            String[] parts = (i < classes ? METHODS[0] : method()).split(" ");
            int[] a = new int[parts[2].length()];
            for (int k = 0; k < a.length; k++) {
                a[k] = argument(parts[2].charAt(k));
            }
            int want = model.answer(parts[0], a);
            int got = answer(x, parts[0], a);
            T.due(got == want ? 1 : 0, 1);
            if (got != want) {
                told++;
                T.fail("run " + run + ", call " + i + ": " + parts[0] + Arrays.toString(a)
                        + " answered " + got + ", due is " + want);
                return;
            }
            if (want < -2000000) {
                MET.add(parts[0] + ":" + (-2000000 - want));
            }
        }
    }

    private static String method() {
        int total = 0;
        for (String method : METHODS) {
            total += Integer.parseInt(method.split(" ")[1]);
        }
        int left = next(total);
        for (String method : METHODS) {
            left -= Integer.parseInt(method.split(" ")[1]);
            if (left < 0) {
                return method;
            }
        }
        return METHODS[0];
    }

    private static int argument(char letter) {
        if (next(60) == 0) {
            int[] odd = {-1, -2, 24, 31, 32, 33, 64, 256, 100001, -100001, 1000001, -1000001,
                Integer.MIN_VALUE, Integer.MAX_VALUE, Integer.MIN_VALUE + 1, -32, 8, 4, 6};
            return odd[next(odd.length)];
        }
        switch (letter) {
            case 's':
                return next(4) == 0 ? next(256) : next(256) | 15;
            case 'c':
                return next(classes);
            case 'v':
                return next(8);
            case 'f':
                return next(3) == 0 ? next(8) : next(3);
            case 'k':
                return next(3) == 0 ? next(200001) - 100000 : next(7) - 3;
            case 'n':
                return next(3) == 0 ? next(2000001) - 1000000 : next(21) - 10;
            case 't':
                return next(4);
            case 'i':
                return next(8);
            default:
                return next(24);
        }
    }

    private static void everyErrorWasMet() {
        for (String method : ERRORS.split(" ")) {
            String[] parts = method.split(":");
            for (String error : parts[1].split(",")) {
                boolean met = MET.remove(parts[0] + ":" + error);
                T.due(met ? 1 : 0, 1);
                if (!met) {
                    T.fail(parts[0] + " never answered error " + error);
                }
            }
        }
        T.due(MET.size(), 0);
        if (!MET.isEmpty()) {
            T.fail("errors that no promise names: " + MET);
        }
    }

    private static int answer(LiveUpgrader x, String method, int[] a) {
        switch (method) {
            case "addClass": return x.addClass(a[0]);
            case "currentVersion": return x.currentVersion(a[0]);
            case "fields": return x.fields(a[0], a[1]);
            case "stage": return x.stage(a[0]);
            case "stagedFields": return x.stagedFields(a[0]);
            case "addField": return x.addField(a[0], a[1], a[2]);
            case "dropField": return x.dropField(a[0], a[1]);
            case "renameField": return x.renameField(a[0], a[1], a[2]);
            case "scaleField": return x.scaleField(a[0], a[1], a[2]);
            case "mergeField": return x.mergeField(a[0], a[1], a[2]);
            case "activate": return x.activate(a[0]);
            case "discard": return x.discard(a[0]);
            case "rollback": return x.rollback(a[0]);
            case "call": return x.call(a[0], a[1]);
            case "finish": return x.finish(a[0]);
            case "depth": return x.depth(a[0]);
            case "frameClass": return x.frameClass(a[0], a[1]);
            case "frameVersion": return x.frameVersion(a[0], a[1]);
            case "oldFrames": return x.oldFrames(a[0]);
            case "create": return x.create(a[0]);
            case "read": return x.read(a[0], a[1], a[2]);
            case "write": return x.write(a[0], a[1], a[2], a[3]);
            case "peek": return x.peek(a[0], a[1]);
            case "objectVersion": return x.objectVersion(a[0]);
            case "conversions": return x.conversions(a[0]);
            case "pinnedBy": return x.pinnedBy(a[0]);
            case "outdated": return x.outdated(a[0]);
            case "convertAll": return x.convertAll(a[0]);
            default: throw new IllegalArgumentException(method);
        }
    }
}
