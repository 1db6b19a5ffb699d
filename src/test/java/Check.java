/** Counts and prints the answers of one test class that are not the ones that are due. */
final class Check {
    interface Call {
        Object on(EarlybirdDesk desk);
    }

    interface Setting {
        EarlybirdDesk make();
    }

    private int wrong = 0;

    void is(String what, Object got, Object want) {
        if (!got.equals(want)) {
            wrong++;
            System.out.println(what + " answered " + got + ", due is " + want);
        }
    }

    /** The call throws exactly this kind, and the object then answers as one without the call. */
    void refuses(String what, Class<?> kind, Setting setting, Call call) {
        EarlybirdDesk desk = setting.make();
        is(what, kindThrown(desk, call), kind);
        is(what + ", what stands after it", Snapshot.of(desk), Snapshot.of(setting.make()));
    }

    void noSuch(String what, Setting setting, Call call) {
        refuses(what, IndexOutOfBoundsException.class, setting, call);
    }

    void outOfRange(String what, Setting setting, Call call) {
        refuses(what, IllegalArgumentException.class, setting, call);
    }

    void notNow(String what, Setting setting, Call call) {
        refuses(what, IllegalStateException.class, setting, call);
    }

    void end() {
        if (wrong != 0) {
            System.out.println(wrong + " answers are not as due");
            System.exit(1);
        }
    }

    /** The kind of an exception that the class throws itself, or else where it comes from. */
    static Object kindOf(RuntimeException thrown) {
        StackTraceElement origin = thrown.getStackTrace()[0];
        // The library's own exceptions can be of the due kind too, but no call may rely on them.
        return origin.getModuleName() != null ? origin : thrown.getClass();
    }

    private static Object kindThrown(EarlybirdDesk desk, Call call) {
        try {
            call.on(desk);
            return "nothing thrown";
        } catch (RuntimeException e) {
            return kindOf(e);
        }
    }
}
