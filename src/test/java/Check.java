/** Counts what is as due and tells what is not; every test ends with done(). */
final class Check {
    private int passed;
    private int failed;

    interface Call {
        void make();
    }

    void same(String what, long got, long due) {
        tell(got == due, what + ": answered " + got + ", due is " + due);
    }

    void same(String what, double got, double due) {
        tell(got == due, what + ": answered " + got + ", due is " + due);
    }

    void same(String what, boolean got, boolean due) {
        tell(got == due, what + ": answered " + got + ", due is " + due);
    }

    void same(String what, String got, String due) {
        tell(got.equals(due), what + ": answered " + got + ", due is " + due);
    }

    /** The call throws just this exception, and the object answers as it did before. */
    void fails(String what, Nettle nettle, Class<? extends RuntimeException> due, Call call) {
        String before = Look.at(nettle);
        Class<?> got = null;
        try {
            call.make();
        } catch (RuntimeException e) {
            got = e.getClass();
        }
        tell(got == due, what + ": threw " + got + ", due is " + due);
        same(what + " changes nothing", Look.at(nettle), before);
    }

    void outOfBounds(String what, Nettle nettle, Call call) {
        fails(what, nettle, IndexOutOfBoundsException.class, call);
    }

    void illegal(String what, Nettle nettle, Call call) {
        fails(what, nettle, IllegalArgumentException.class, call);
    }

    private void tell(boolean isDue, String what) {
        if (isDue) {
            passed++;
        } else {
            failed++;
            System.out.println(what);
        }
    }

    void done(String name) {
        System.out.println(name + ": " + passed + " passed, " + failed + " failed");
        if (failed != 0) {
            System.exit(1);
        }
    }
}
