import java.util.function.IntSupplier;

/** Counts and prints the answers that are not as due. */
final class Checks {
    private int wrong = 0;
    private int made = 0;

    void due(String call, int got, int want) {
        made++;
        if (got != want) {
            wrong++;
            System.out.println(call + " answered " + got + ", due is " + want);
        }
    }

    void holds(String what, boolean it) {
        due(what + " (1: holds)", it ? 1 : 0, 1);
    }

    void illegalArgument(String call, IntSupplier it) {
        throwing(call, it, IllegalArgumentException.class);
    }

    void illegalState(String call, IntSupplier it) {
        throwing(call, it, IllegalStateException.class);
    }

    void throwing(String call, IntSupplier it, Class<? extends RuntimeException> want) {
        made++;
        String got;
        try {
            got = "answered " + it.getAsInt();
        } catch (RuntimeException e) {
            if (e.getClass() == want) {
                return;
            }
            got = "threw " + e;
        }
        wrong++;
        System.out.println(call + " " + got + ", due is " + want.getSimpleName());
    }

    void illegalSet(FaultIsolation x, int place, int word, int a, int b, int c) {
        illegalArgument("set(" + place + ", " + word + ", " + a + ", " + b + ", " + c + ")", () -> {
            x.set(place, word, a, b, c);
            return 0;
        });
    }

    void illegalBundles(FaultIsolation x, int n) {
        illegalArgument("bundles(" + n + ")", () -> {
            x.bundles(n);
            return 0;
        });
    }

    /** The bytes from an address on are these instructions, 4 numbers each. */
    void code(FaultIsolation x, int from, int... bytes) {
        for (int i = 0; i < bytes.length; i++) {
            due("byteAt(" + (from + i) + ")", x.byteAt(from + i), bytes[i]);
        }
    }

    /** Of the latest run: address, steps, strays, slips, stores in the region, latest stray. */
    void told(FaultIsolation x, int... want) {
        for (int what = 0; what < want.length; what++) {
            due("told(" + what + ")", x.told(what), want[what]);
        }
    }

    void end() {
        System.out.println(made + " answers looked at, " + wrong + " not as due");
        if (wrong != 0) {
            System.exit(1);
        }
    }
}
