import java.util.ArrayList;
import java.util.List;
import java.util.function.Consumer;
import java.util.function.Supplier;

/**
 * What later calls can tell of a simulator. Each look is taken at a simulator of its own, so that
 * none spoils another, and so that none of them is used for more than 512 calls.
 */
final class Traces {
    private static final int CLASSES = 6;
    private static final int VERSIONS = 8;
    private static final int FIELDS = 8;
    private static final int THREADS = 4;
    private static final int FRAMES = 8;
    private static final int OBJECTS = 24;
    /** Looks that repeat themselves for each version go no further than these. */
    private static final int FEW_OBJECTS = 4;
    private static final int FEW_FIELDS = 4;

    private final LiveUpgrader x;
    private final StringBuilder answers = new StringBuilder();

    private Traces(String look, LiveUpgrader x) {
        this.x = x;
        answers.append(look).append(':');
    }

    static List<String> of(Supplier<LiveUpgrader> setting) {
        List<String> all = new ArrayList<>();
        all.add(look("classes", setting, Traces::classes));
        all.add(look("frames", setting, Traces::frames));
        all.add(look("objects", setting, Traces::objects));
        all.add(look("room", setting, Traces::room));
        all.add(look("staged", setting, Traces::staged));
        all.add(look("activated", setting, Traces::activated));
        all.add(look("rolled back", setting, Traces::rolledBack));
        for (int thread = 0; thread < THREADS; thread++) {
            int last = thread;
            all.add(look("pins of thread " + last, setting, traces -> traces.pins(last)));
        }
        return all;
    }

    private static String look(String name, Supplier<LiveUpgrader> setting,
            Consumer<Traces> look) {
        Traces traces = new Traces(name, setting.get());
        look.accept(traces);
        return traces.answers.toString();
    }

    private void note(int answer) {
        answers.append(' ').append(answer);
    }

    private void classes() {
        for (int type = 0; type < CLASSES; type++) {
            note(x.currentVersion(type));
            note(x.stagedFields(type));
            note(x.oldFrames(type));
            note(x.outdated(type));
            for (int version = 0; version < VERSIONS; version++) {
                note(x.fields(type, version));
            }
        }
    }

    private void frames() {
        for (int thread = 0; thread < THREADS; thread++) {
            note(x.depth(thread));
            for (int index = 0; index < FRAMES; index++) {
                note(x.frameClass(thread, index));
                note(x.frameVersion(thread, index));
            }
        }
    }

    private void objects() {
        for (int object = 0; object < OBJECTS; object++) {
            note(x.objectVersion(object));
            note(x.conversions(object));
            note(x.pinnedBy(object));
            for (int field = 0; field < FIELDS; field++) {
                note(x.peek(object, field));
            }
        }
    }

    /** How many classes, frames and objects still go in, and the numbers that they get. */
    private void room() {
        for (int i = 0; i <= CLASSES; i++) {
            note(x.addClass(1));
        }
        for (int thread = 0; thread < THREADS; thread++) {
            for (int i = 0; i <= FRAMES; i++) {
                note(x.call(thread, 0));
            }
        }
        for (int i = 0; i <= OBJECTS; i++) {
            note(x.create(0));
        }
    }

    private void staged() {
        for (int type = 0; type < CLASSES; type++) {
            note(x.discard(type));
            note(x.stage(type));
            note(x.stagedFields(type));
            note(x.discard(type));
        }
    }

    /** What the steps of the staged versions do. */
    private void activated() {
        finishAll();
        for (int type = 0; type < CLASSES; type++) {
            note(x.activate(type));
            note(x.convertAll(type));
        }
        objects();
    }

    private void rolledBack() {
        finishAll();
        for (int type = 0; type < CLASSES; type++) {
            note(x.convertAll(type));
        }
        for (int version = 1; version < VERSIONS; version++) {
            int worked = 0;
            for (int type = 0; type < CLASSES; type++) {
                int answer = x.rollback(type);
                note(answer);
                worked += answer >= 0 ? 1 : 0;
            }
            if (worked == 0) {
                return;
            }
            fewObjects();
        }
    }

    private void fewObjects() {
        for (int object = 0; object < FEW_OBJECTS; object++) {
            note(x.conversions(object));
            for (int field = 0; field < FEW_FIELDS; field++) {
                note(x.peek(object, field));
            }
        }
    }

    private void finishAll() {
        for (int thread = 0; thread < THREADS; thread++) {
            finish(thread);
        }
    }

    private void finish(int thread) {
        for (int i = 0; i < FRAMES; i++) {
            x.finish(thread);
        }
    }

    /** Pins of this thread's frames can be told apart when the other threads have finished. */
    private void pins(int last) {
        for (int thread = 0; thread < THREADS; thread++) {
            if (thread != last) {
                finish(thread);
            }
        }
        for (int i = 0; i < FRAMES; i++) {
            for (int object = 0; object < FEW_OBJECTS; object++) {
                note(x.pinnedBy(object));
            }
            note(x.finish(last));
        }
    }
}
