/** What the tests share: they count what is not as due, print where, and end with exit code 1 if there was any. */
final class Check {
    interface Call {
        Object answer();
    }

    interface NumberCall {
        Object answer(int number);
    }

    interface ValueCall {
        Object answer(long value);
    }

    /** What an int would take for 0: a value that much off is within the bounds again when it is cut to an int. */
    private static final long WRAP = 1L << 32;

    private static int checks = 0;
    private static int wrong = 0;
    private static String about = "";

    private Check() {
    }

    static void is(long want, long got) {
        count(want == got, "answered " + got + ", due is " + want);
    }

    static void is(boolean want, boolean got) {
        count(want == got, "answered " + got + ", due is " + want);
    }

    static void isTrue(String what, boolean holds) {
        count(holds, what);
    }

    /** The very class counts: what the machine throws is of a class below the one that is due. */
    static void fails(Class<? extends RuntimeException> want, Call call) {
        String got;
        try {
            got = "answered " + call.answer();
        } catch (RuntimeException e) {
            got = e.getClass() == want ? null : "threw " + e.getClass().getName();
        }
        count(got == null, got + ", due is a throw of " + want.getName());
    }

    static void outOfBounds(Call call) {
        fails(IndexOutOfBoundsException.class, call);
    }

    static void notSo(Call call) {
        fails(IllegalArgumentException.class, call);
    }

    static void noLabel(ChannelRooms c, int part) {
        for (int axis = 0; axis < 3; axis++) {
            int asked = axis;
            fails(IllegalStateException.class, () -> c.labelAt(part, asked));
        }
    }

    /** Numbers that there are not when there are so many; 64 more than a good one is where a set of bits would wrap. */
    static void noSuch(int howMany, NumberCall call) {
        int[] numbers = {-1, howMany, howMany + 1, 64, 256, -howMany - 1, Integer.MIN_VALUE, Integer.MAX_VALUE};
        for (int number : numbers) {
            outOfBounds(() -> call.answer(number));
        }
    }

    static void onlyWithin(long least, long most, ValueCall call) {
        long[] values = {
            least - 1, most + 1, Long.MIN_VALUE, Long.MAX_VALUE, least + WRAP, most - WRAP, 1 + WRAP, 1 - WRAP,
        };
        for (long value : values) {
            notSo(() -> call.answer(value));
        }
    }

    /** The same for what is an int in the face. */
    static void onlyNumbersWithin(int least, int most, NumberCall call) {
        for (int value : new int[] {least - 1, most + 1, Integer.MIN_VALUE, Integer.MAX_VALUE, most + 256}) {
            notSo(() -> call.answer(value));
        }
    }

    /** A test that belongs to words of the document: an exception counts as wrong, and so does a test that asks nothing. */
    static void about(String words, Runnable test) {
        about = words;
        int before = checks;
        try {
            test.run();
            count(checks > before, "nothing was checked");
        } catch (RuntimeException e) {
            count(false, "threw " + e + " at " + e.getStackTrace()[0]);
        }
        about = "";
    }

    static void finish() {
        System.out.println(checks + " checks, " + wrong + " not as due");
        if (wrong != 0 || checks == 0) {
            System.exit(1);
        }
    }

    private static void count(boolean holds, String otherwise) {
        checks++;
        if (!holds) {
            wrong++;
            System.out.println((about.isEmpty() ? "" : "[" + about + "] ") + place() + ": " + otherwise);
        }
    }

    /** The lines of the test that led here, the innermost first. */
    private static String place() {
        StringBuilder lines = new StringBuilder();
        for (StackTraceElement frame : new Throwable().getStackTrace()) {
            boolean isOurs = frame.getClassName().startsWith("Check") || frame.getClassName().startsWith("Sentences");
            if (!isOurs && !frame.getMethodName().equals("main")) {
                lines.append(lines.length() == 0 ? "" : " < ");
                lines.append(frame.getMethodName()).append(':').append(frame.getLineNumber());
            }
        }
        return lines.toString();
    }
}
