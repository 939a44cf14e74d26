import java.util.function.Consumer;
import java.util.function.Supplier;

/** Counts what is as due and tells what is not; every test ends with done(). */
final class Check {
    private int passed;
    private int failed;
    private String words = "";

    interface Call {
        void make();
    }

    /** A sentence of the document, with a test of its own: its words are told with all that is not as due. */
    void sentence(String ofTheDocument, Call test) {
        words = "[" + ofTheDocument + "] ";
        int before = passed + failed;
        try {
            test.make();
        } catch (RuntimeException e) {
            tell(false, "threw " + e);
        }
        tell(passed + failed > before, "looks at nothing");
        words = "";
    }

    void same(String what, long got, long due) {
        tell(got == due, what + ": answered " + got + ", due is " + due);
    }

    void same(String what, double got, double due) {
        tell(got == due, what + ": answered " + got + ", due is " + due);
    }

    void same(String what, boolean got, boolean due) {
        tell(got == due, what + ": answered " + got + ", due is " + due);
    }

    void same(String what, String got, String due) {
        tell(got.equals(due), what + ": answered " + got + ", due is " + due);
    }

    /** The call throws just this exception, and the checksum is as before: few calls, for an object has but 512. */
    void fails(String what, Nettle nettle, Class<? extends RuntimeException> due, Call call) {
        long before = nettle.digest();
        isThrown(what, due, call);
        same(what + " changes nothing", nettle.digest(), before);
    }

    void outOfBounds(String what, Nettle nettle, Call call) {
        fails(what, nettle, IndexOutOfBoundsException.class, call);
    }

    void illegal(String what, Nettle nettle, Call call) {
        fails(what, nettle, IllegalArgumentException.class, call);
    }

    /**
     * The call throws just this exception, and all that can be learnt behind it is
     * the same as of a twin that was not asked; both are made anew, so that no
     * object comes near its 512th call.
     */
    void refuses(String what, Class<? extends RuntimeException> due, Supplier<Nettle> made, Consumer<Nettle> call) {
        Nettle nettle = made.get();
        isThrown(what, due, () -> call.accept(nettle));
        same(what + " changes nothing", Look.through(nettle), Look.through(made.get()));
    }

    void noSuch(String what, Supplier<Nettle> made, Consumer<Nettle> call) {
        refuses(what, IndexOutOfBoundsException.class, made, call);
    }

    void wrong(String what, Supplier<Nettle> made, Consumer<Nettle> call) {
        refuses(what, IllegalArgumentException.class, made, call);
    }

    private void isThrown(String what, Class<? extends RuntimeException> due, Call call) {
        Class<?> got = null;
        try {
            call.make();
        } catch (RuntimeException e) {
            got = e.getClass();
        }
        tell(got == due, what + ": threw " + got + ", due is " + due);
    }

    private void tell(boolean isDue, String what) {
        if (isDue) {
            passed++;
        } else {
            failed++;
            System.out.println(words + what);
        }
    }

    void done(String name) {
        System.out.println(name + ": " + passed + " passed, " + failed + " failed");
        if (failed != 0) {
            System.exit(1);
        }
    }
}
