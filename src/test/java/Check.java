/** What the tests share: they count what is not as due, print where, and end with exit code 1 if there was any. */
final class Check {
    interface Call {
        Object answer();
    }

    private static int checks = 0;
    private static int wrong = 0;

    private Check() {
    }

    static void is(long want, long got) {
        count(want == got, "answered " + got + ", due is " + want);
    }

    static void is(boolean want, boolean got) {
        count(want == got, "answered " + got + ", due is " + want);
    }

    static void isTrue(String what, boolean holds) {
        count(holds, what);
    }

    /** The very class counts: what the machine throws is of a class below the one that is due. */
    static void fails(Class<? extends RuntimeException> want, Call call) {
        String got;
        try {
            got = "answered " + call.answer();
        } catch (RuntimeException e) {
            got = e.getClass() == want ? null : "threw " + e.getClass().getName();
        }
        count(got == null, got + ", due is a throw of " + want.getName());
    }

    static void outOfBounds(Call call) {
        fails(IndexOutOfBoundsException.class, call);
    }

    static void notSo(Call call) {
        fails(IllegalArgumentException.class, call);
    }

    static void finish() {
        System.out.println(checks + " checks, " + wrong + " not as due");
        if (wrong != 0 || checks == 0) {
            System.exit(1);
        }
    }

    private static void count(boolean holds, String otherwise) {
        checks++;
        if (!holds) {
            wrong++;
            System.out.println(place() + ": " + otherwise);
        }
    }

    /** The lines of the test that led here, the innermost first. */
    private static String place() {
        StringBuilder lines = new StringBuilder();
        for (StackTraceElement frame : new Throwable().getStackTrace()) {
            if (!frame.getClassName().startsWith("Check") && !frame.getMethodName().equals("main")) {
                lines.append(lines.length() == 0 ? "" : " < ");
                lines.append(frame.getMethodName()).append(':').append(frame.getLineNumber());
            }
        }
        return lines.toString();
    }
}
