/** What a test file found; it ends the Java machine with 1 if an answer was not the one that is due. */
final class Check {
    private final String file;
    private int wrong = 0;
    private int seen = 0;
    private String promise = "";

    Check(String file) {
        this.file = file;
    }

    /** Tells which promise the answers that follow belong to. */
    void promise(String told) {
        promise = told;
    }

    void due(String call, long got, long want) {
        seen++;
        if (got != want) {
            report(call + " answered " + got + ", due is " + want);
        }
    }

    void due(String call, boolean got, boolean want) {
        seen++;
        if (got != want) {
            report(call + " answered " + got + ", due is " + want);
        }
    }

    void dueDouble(String call, double got, double want) {
        seen++;
        if (got != want) {
            report(call + " answered " + got + ", due is " + want);
        }
    }

    void outOfBounds(String call, BrandRoom room, Runnable body) {
        throwing(call, room, IndexOutOfBoundsException.class, body);
    }

    void illegalArgument(String call, BrandRoom room, Runnable body) {
        throwing(call, room, IllegalArgumentException.class, body);
    }

    void illegalState(String call, BrandRoom room, Runnable body) {
        throwing(call, room, IllegalStateException.class, body);
    }

    private void throwing(String call, BrandRoom room, Class<?> want, Runnable body) {
        long before = room.digest();
        if (dueThrown(call, want, body) && room.digest() != before) {
            report(call + " threw, and changed something");
        }
    }

    /**
     * BrandRoom itself has to throw the very class, not the Java machine or the library. Answers whether anything was
     * thrown: a desk that took what it has to refuse may keep what is asked of it next from ending.
     */
    boolean dueThrown(String call, Class<?> want, Runnable body) {
        seen++;
        try {
            body.run();
            report(call + " threw nothing, due is " + want.getSimpleName());
            return false;
        } catch (RuntimeException thrown) {
            if (thrown.getClass() != want) {
                report(call + " threw " + thrown + ", due is " + want.getSimpleName());
            }
            if (!isThrownByRoom(thrown)) {
                report(call + " let another class throw: " + thrown);
            }
            return true;
        }
    }

    static boolean isThrownByRoom(RuntimeException thrown) {
        StackTraceElement[] trace = thrown.getStackTrace();
        return trace.length > 0 && trace[0].getClassName().equals("BrandRoom");
    }

    private void report(String text) {
        wrong++;
        System.out.println(file + ", " + promise + ": " + text);
    }

    void end() {
        System.out.println(file + ": " + seen + " answers, " + wrong + " wrong");
        if (wrong != 0 || seen == 0) {
            System.exit(1);
        }
    }
}
