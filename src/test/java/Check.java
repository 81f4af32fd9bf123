import java.util.Set;
import java.util.TreeSet;
import java.util.function.Supplier;

// Runs the tests, each named after the sentence of the document that it is of, and counts them.
public final class Check {
    interface Call {
        long answer(Groupbooks x);
    }

    interface CallOf {
        long answer(Groupbooks x, int value);
    }

    private final Set<String> sources = new TreeSet<>();
    private int tests = 0;
    private int failedTests = 0;
    private int checks = 0;
    private String sentence = "";
    private boolean sound = true;

    // The sentence begins with its source and a colon: "Promise 2: 'percent: 0 to 100'".
    void test(String ofSentence, Runnable body) {
        sources.add(ofSentence.substring(0, ofSentence.indexOf(':')));
        sentence = ofSentence;
        sound = true;
        try {
            body.run();
        } catch (RuntimeException thrown) {
            note(false, "threw " + thrown);
        }
        tests++;
        failedTests += sound ? 0 : 1;
    }

    int tests() {
        return tests;
    }

    int failedTests() {
        return failedTests;
    }

    int checks() {
        return checks;
    }

    boolean hasTestOf(String source) {
        return sources.contains(source);
    }

    void same(String what, long got, long due) {
        note(got == due, what + " answered " + got + ", due is " + due);
    }

    void note(boolean right, String what) {
        checks++;
        if (!right) {
            sound = false;
            System.out.println("FAILED: " + sentence + ": " + what);
        }
    }

    // The call throws IllegalArgumentException itself and changes nothing, neither in a new
    // object nor in one of which much has been told.
    void refusesArgument(Call call) {
        refusesArgument(Scenes::fresh, call);
        refusesArgument(Scenes::busy, call);
    }

    void refusesArgument(Supplier<Groupbooks> scene, Call call) {
        refuses(scene, call, IllegalArgumentException.class);
    }

    void refusesState(Supplier<Groupbooks> scene, Call call) {
        refuses(scene, call, IllegalStateException.class);
    }

    // The first values out of a range on either side, and the farthest.
    void refusesOutside(int least, int most, CallOf call) {
        for (int value : new int[] {least - 1, most + 1, Integer.MIN_VALUE, Integer.MAX_VALUE}) {
            refusesArgument(x -> call.answer(x, value));
        }
    }

    // Each object stays below 512 calls: an untouched twin shows what is due after the call.
    private void refuses(Supplier<Groupbooks> scene, Call call, Class<?> due) {
        Groupbooks x = scene.get();
        Class<?> got = thrownBy(x, call);
        note(got == due, "threw " + got + ", due is " + due);
        note(Probe.of(x).equals(Probe.of(scene.get())), "the refused call changed something");
    }

    static Class<?> thrownBy(Groupbooks x, Call call) {
        try {
            call.answer(x);
        } catch (RuntimeException thrown) {
            return thrown.getClass();
        }
        return null;
    }
}
