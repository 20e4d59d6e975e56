import java.util.List;
import java.util.Set;
import java.util.TreeSet;
import java.util.function.Supplier;
import java.util.function.ToIntFunction;

/** Compares answers with the ones that are due, and ends the program with 1 if one was wrong. */
final class Due {
    /** The sentences of the document, each behind its heading, for which an answer was compared. */
    static final Set<String> HELD = new TreeSet<>();

    private final String test;
    private String sentence = "";
    private int compared;
    private int wrong;

    Due(String test) {
        this.test = test;
    }

    /** What is compared from here on, until the next such call, holds this sentence. */
    void holds(String heading, String words) {
        sentence = heading + ": " + words;
    }

    void due(long got, long want) {
        count();
        if (got != want) {
            fail("answered " + got + ", due is " + want);
        }
    }

    void not(long got, long unwanted) {
        count();
        if (got == unwanted) {
            fail("answered " + got + ", which is not due");
        }
    }

    /** The call is refused, and no later call can tell that it was made. */
    void refused(Supplier<LiveUpgrader> setting, ToIntFunction<LiveUpgrader> call, int want) {
        due(call.applyAsInt(setting.get()), want);
        List<String> with = Traces.of(() -> {
            LiveUpgrader x = setting.get();
            call.applyAsInt(x);
            return x;
        });
        List<String> without = Traces.of(setting);
        for (int i = 0; i < without.size(); i++) {
            count();
            if (!with.get(i).equals(without.get(i))) {
                fail("a call refused with " + want + " changed " + without.get(i)
                        + " to " + with.get(i));
            }
        }
    }

    void fail(String what) {
        wrong++;
        String of = sentence.isEmpty() ? "" : " [" + sentence + "]";
        System.out.println(test + ": " + what + of + " " + lines());
    }

    void end() {
        System.out.println(test + ": " + compared + " answers, " + wrong + " wrong");
        if (wrong != 0 || compared == 0) {
            System.exit(1);
        }
    }

    private void count() {
        compared++;
        if (!sentence.isEmpty()) {
            HELD.add(sentence);
        }
    }

    /** Where in the tests the failing comparison stands, the innermost place first. */
    private static String lines() {
        StringBuilder lines = new StringBuilder();
        for (StackTraceElement place : Thread.currentThread().getStackTrace()) {
            String file = place.getFileName();
            boolean ours = place.getClassName().indexOf('.') < 0 && !"Due.java".equals(file);
            if (ours && !place.getMethodName().equals("main")) {
                lines.append(lines.length() == 0 ? "" : " < ").append(file).append(':')
                        .append(place.getLineNumber());
            }
        }
        return lines.toString();
    }
}
