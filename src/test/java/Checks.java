/** Counts checks, and prints those that do not hold. */
final class Checks {
    /** A call that may throw. */
    interface Call {
        Object answer();
    }

    private final String name;
    private int held = 0;
    private int broken = 0;

    Checks(String name) {
        this.name = name;
    }

    void same(String what, Object got, Object due) {
        if (due.equals(got)) {
            held++;
        } else {
            broken++;
            System.out.println(name + ": " + what + " answered " + got + ", due is " + due);
        }
    }

    /** What a call answers, or "throws." and the name of just that class which it throws. */
    static Object told(Call call) {
        try {
            return call.answer();
        } catch (RuntimeException e) {
            return "throws." + e.getClass().getSimpleName();
        }
    }

    void throwsIndex(String what, Call call) {
        same(what, told(call), "throws.IndexOutOfBoundsException");
    }

    void throwsArgument(String what, Call call) {
        same(what, told(call), "throws.IllegalArgumentException");
    }

    void throwsState(String what, Call call) {
        same(what, told(call), "throws.IllegalStateException");
    }

    /** Prints the sum, and ends with exit code 1 if a check did not hold, or none was made. */
    void end() {
        System.out.println(name + ": " + held + " checks hold, " + broken + " do not");
        if (broken > 0 || held == 0) {
            System.exit(1);
        }
    }
}
