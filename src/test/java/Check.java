/** Counts and prints the answers of one test class that are not the ones that are due. */
final class Check {
    interface Call {
        Object on(EarlybirdDesk desk);
    }

    interface CallWith {
        Object on(EarlybirdDesk desk, int argument);
    }

    interface Setting {
        EarlybirdDesk make();
    }

    private static final String NOTHING_THROWN = "nothing thrown";

    private int wrong = 0;
    private String sentence = "";

    /** An exception that a test does not ask for is a wrong answer, and the next test goes on. */
    void test(Runnable test) {
        sentence = "";
        try {
            test.run();
        } catch (RuntimeException e) {
            wrong++;
            System.out.println(sentence + e + " is not due");
            e.printStackTrace(System.out);
        }
    }

    /** What is checked from here on are the words of the document that this says. */
    void sentence(String where, String words) {
        sentence = where + ", \"" + words + "\": ";
    }

    void is(String what, Object got, Object want) {
        if (!got.equals(want)) {
            wrong++;
            System.out.println(sentence + what + " answered " + got + ", due is " + want);
        }
    }

    void takes(String what, Setting setting, Call call) {
        is(what, kindThrown(setting.make(), call), NOTHING_THROWN);
    }

    /** The call throws something, and what stands after it is for the caller to check. */
    void throwsAny(String what, EarlybirdDesk desk, Call call) {
        is(what + " throws", !kindThrown(desk, call).equals(NOTHING_THROWN), true);
    }

    /** The call throws exactly this kind, and the object then answers as one without the call. */
    void refuses(String what, Class<?> kind, Setting setting, Call call) {
        EarlybirdDesk desk = setting.make();
        is(what, kindThrown(desk, call), kind);
        is(what + ", what stands after it", Snapshot.of(desk), Snapshot.of(setting.make()));
    }

    void noSuch(String what, Setting setting, Call call) {
        refuses(what, IndexOutOfBoundsException.class, setting, call);
    }

    void outOfRange(String what, Setting setting, Call call) {
        refuses(what, IllegalArgumentException.class, setting, call);
    }

    void notNow(String what, Setting setting, Call call) {
        refuses(what, IllegalStateException.class, setting, call);
    }

    /** Each number from 0 on below the count is taken, and no other one. */
    void numbers(int count, Setting setting, CallWith call) {
        for (int number = 0; number < count; number++) {
            int each = number;
            takes("number " + each, setting, d -> call.on(d, each));
        }
        for (int other : outside(0, count - 1)) {
            noSuch("number " + other, setting, d -> call.on(d, other));
        }
    }

    void range(int least, int greatest, Setting setting, CallWith call) {
        for (int value : new int[] {least, greatest}) {
            takes("argument " + value, setting, d -> call.on(d, value));
        }
        for (int value : outside(least, greatest)) {
            outOfRange("argument " + value, setting, d -> call.on(d, value));
        }
    }

    private static int[] outside(int least, int greatest) {
        return new int[] {least - 1, greatest + 1, Integer.MIN_VALUE, Integer.MAX_VALUE};
    }

    void end() {
        if (wrong != 0) {
            System.out.println(wrong + " answers are not as due");
            System.exit(1);
        }
    }

    /** The kind of an exception that the class throws itself, or else where it comes from. */
    static Object kindOf(RuntimeException thrown) {
        StackTraceElement origin = thrown.getStackTrace()[0];
        // The library's own exceptions can be of the due kind too, but no call may rely on them.
        return origin.getModuleName() != null ? origin : thrown.getClass();
    }

    private static Object kindThrown(EarlybirdDesk desk, Call call) {
        try {
            call.on(desk);
            return NOTHING_THROWN;
        } catch (RuntimeException e) {
            return kindOf(e);
        }
    }
}
