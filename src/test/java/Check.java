// Counts the checks and prints those that failed.
public final class Check {
    interface Call {
        long answer();
    }

    private int passed = 0;
    private int failed = 0;

    int passed() {
        return passed;
    }

    int failed() {
        return failed;
    }

    void same(String what, long got, long due) {
        note(got == due, what + " answered " + got + ", due is " + due);
    }

    void note(boolean right, String what) {
        if (right) {
            passed++;
        } else {
            failed++;
            System.out.println("FAILED: " + what);
        }
    }

    // The call throws IllegalArgumentException itself, and nothing that can be asked changes.
    void refusesArgument(String what, Groupbooks books, Call call) {
        refuses(what, books, call, IllegalArgumentException.class);
    }

    // The call throws IllegalStateException itself, and nothing that can be asked changes.
    void refusesState(String what, Groupbooks books, Call call) {
        refuses(what, books, call, IllegalStateException.class);
    }

    private void refuses(String what, Groupbooks books, Call call, Class<?> due) {
        String before = Snapshot.of(books);
        Class<?> got = null;
        try {
            call.answer();
        } catch (RuntimeException thrown) {
            got = thrown.getClass();
        }
        note(got == due, what + " threw " + got + ", due is " + due);
        note(before.equals(Snapshot.of(books)), what + " threw and changed something");
    }
}
