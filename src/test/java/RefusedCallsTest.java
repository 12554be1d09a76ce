import java.util.ArrayList;
import java.util.Arrays;
import java.util.List;
import java.util.function.Supplier;

/**
 * "In all calls illegal argument: a number is out of its bounds. .. Of several exceptions the one named first is
 * thrown; a call that throws changes nothing": every call that can be refused, in three states of the object.
 * An object has 512 calls, too few to look at all of it, so each part is looked at in an object of its own.
 */
public final class RefusedCallsTest {
    private static final Checks CHECKS = new Checks();
    private static final Class<IllegalArgumentException> ARGUMENT = IllegalArgumentException.class;
    private static final Class<IllegalStateException> STATE = IllegalStateException.class;
    private static final int LEAST = Integer.MIN_VALUE;
    private static final int MOST = Integer.MAX_VALUE;
    private static final int PARTS = 25;

    private interface Call {
        void on(FaultIsolation x);
    }

    private record Refused(String name, Class<? extends RuntimeException> due, Call call) {
    }

    public static void main(String[] args) {
        CHECKS.told(full(), 20, 4, 1, 1, 1, 3077);
        CHECKS.told(unsound(), 8, 3, 1, 1, 0, 3077);
        inState("new", RefusedCallsTest::fresh, ofNew());
        inState("full", RefusedCallsTest::full, ofFull());
        inState("unsound", RefusedCallsTest::unsound, ofUnsound());
        CHECKS.end();
    }

    private static void inState(String state, Supplier<FaultIsolation> made, List<Refused> ofState) {
        int[][] untouched = new int[PARTS][];
        for (int part = 0; part < PARTS; part++) {
            untouched[part] = seen(made.get(), part);
        }
        List<Refused> all = outOfBounds();
        all.addAll(ofState);
        for (Refused refused : all) {
            for (int part = 0; part < PARTS; part++) {
                FaultIsolation x = made.get();
                CHECKS.throwing(state + ": " + refused.name, () -> {
                    refused.call.on(x);
                    return 0;
                }, refused.due);
                CHECKS.holds(state + ": " + refused.name + " changes nothing, part " + part,
                    Arrays.equals(seen(x, part), untouched[part]));
            }
        }
    }

    // ---- states

    private static FaultIsolation fresh() {
        return new FaultIsolation(1);
    }

    /** 60 sound instructions; bytes of the first 20 of them, some of them changed since; a run that told something. */
    private static FaultIsolation full() {
        FaultIsolation x = new FaultIsolation(2);
        // a store in the region, a stray, a slip
        Made.addAll(x, 11, 1, 2, 0, 11, 1, 3, 0, 12, 0, 0, 5, 15, 0, 0, 9, 10, 4, 5, 6, 0, 0, 0, 0);
        Made.addTimes(x, 14, 1, 4, 200, 7);
        x.rewrite();
        Made.addTimes(x, 20, 10, 0, 7, 3);
        Made.addTimes(x, 20, 13, 0, 0, 59);
        lived(x);
        return x;
    }

    /** Three sound instructions, which are rewritten, and then two that are not sound. */
    private static FaultIsolation unsound() {
        FaultIsolation x = new FaultIsolation(0);
        Made.addAll(x, 11, 1, 3, 0, 12, 0, 0, 2, 0, 9, 9, 9);
        x.rewrite();
        Made.addAll(x, 12, 0, 0, 5, 255, 254, 253, 252);
        lived(x);
        return x;
    }

    private static void lived(FaultIsolation x) {
        for (int i = 3; i < 64; i += 7) {
            x.poke(i, 255 - i);
        }
        for (int r = 0; r < 8; r++) {
            x.register(r, 1000 * r + 77);
        }
        for (int i = 0; i < 4096; i += 273) {
            x.memory(i, 1 + i % 255);
        }
        x.run(true, 0, 7);
    }

    // ---- what can be seen

    private static int[] seen(FaultIsolation x, int part) {
        if (part == 0) {
            return small(x);
        }
        if (part <= 4) {
            return code(x, 256 * (part - 1));
        }
        if (part <= 20) {
            return memory(x, 256 * (part - 5));
        }
        return program(x, 256 * (part - 21));
    }

    private static int[] small(FaultIsolation x) {
        int[] seen = new int[80];
        for (int i = 0; i < 60; i++) {
            seen[i] = place(x, i);
        }
        for (int r = 0; r < 8; r++) {
            seen[60 + r] = x.registerAt(r);
        }
        for (int what = 0; what < 6; what++) {
            seen[68 + what] = x.told(what);
        }
        seen[74] = x.wrong();
        seen[75] = x.cut(0);
        seen[76] = x.size();
        seen[77] = x.verify();
        return seen;
    }

    private static int place(FaultIsolation x, int i) {
        try {
            return x.place(i);
        } catch (IllegalArgumentException e) {
            return -1;
        }
    }

    private static int[] code(FaultIsolation x, int from) {
        int[] seen = new int[Math.max(0, Math.min(256, x.size() - from))];
        for (int i = 0; i < seen.length; i++) {
            seen[i] = x.byteAt(from + i);
        }
        return seen;
    }

    private static int[] memory(FaultIsolation x, int from) {
        int[] seen = new int[256];
        for (int i = 0; i < 256; i++) {
            seen[i] = x.memoryAt(from + i);
        }
        return seen;
    }

    /** The program is seen by what it is rewritten to, what is not sound at its end being cut off before. */
    private static int[] program(FaultIsolation x, int from) {
        if (x.cut(0) == 0) {
            return new int[0];
        }
        if (x.wrong() != FaultIsolation.NONE) {
            x.cut(2);
        }
        x.rewrite();
        return code(x, from);
    }

    // ---- calls

    private static List<Refused> outOfBounds() {
        List<Refused> all = new ArrayList<>();
        for (int v : new int[] {-1, 256, LEAST, MOST}) {
            all.add(new Refused("add word " + v, ARGUMENT, x -> x.add(v, 0, 0, 0)));
            all.add(new Refused("add a " + v, ARGUMENT, x -> x.add(0, v, 0, 0)));
            all.add(new Refused("add b " + v, ARGUMENT, x -> x.add(0, 0, v, 0)));
            all.add(new Refused("add c " + v, ARGUMENT, x -> x.add(0, 0, 0, v)));
            all.add(new Refused("set word " + v, ARGUMENT, x -> x.set(0, v, 0, 0, 0)));
            all.add(new Refused("set a " + v, ARGUMENT, x -> x.set(0, 0, v, 0, 0)));
            all.add(new Refused("set b " + v, ARGUMENT, x -> x.set(0, 0, 0, v, 0)));
            all.add(new Refused("set c " + v, ARGUMENT, x -> x.set(0, 0, 0, 0, v)));
            all.add(new Refused("poke v " + v, ARGUMENT, x -> x.poke(3, v)));
            all.add(new Refused("memory v " + v, ARGUMENT, x -> x.memory(0, v)));
        }
        for (int i : new int[] {-1, 60, LEAST, MOST}) {
            all.add(new Refused("set place " + i, ARGUMENT, x -> x.set(i, 1, 1, 1, 1)));
            all.add(new Refused("place " + i, ARGUMENT, x -> x.place(i)));
        }
        for (int n : new int[] {-1, 61, LEAST, MOST}) {
            all.add(new Refused("cut " + n, ARGUMENT, x -> x.cut(n)));
        }
        for (int n : new int[] {-1, 65, LEAST, MOST}) {
            all.add(new Refused("bundles " + n, ARGUMENT, x -> x.bundles(n)));
        }
        for (int i : new int[] {-1, 1024, LEAST, MOST}) {
            all.add(new Refused("byteAt " + i, ARGUMENT, x -> x.byteAt(i)));
            all.add(new Refused("poke " + i, ARGUMENT, x -> x.poke(i, 1)));
        }
        for (int r : new int[] {-1, 8, LEAST, MOST}) {
            all.add(new Refused("register " + r, ARGUMENT, x -> x.register(r, 1)));
            all.add(new Refused("registerAt " + r, ARGUMENT, x -> x.registerAt(r)));
        }
        for (int i : new int[] {-1, 4096, LEAST, MOST}) {
            all.add(new Refused("memory " + i, ARGUMENT, x -> x.memory(i, 1)));
            all.add(new Refused("memoryAt " + i, ARGUMENT, x -> x.memoryAt(i)));
        }
        for (int what : new int[] {-1, 6, LEAST, MOST}) {
            all.add(new Refused("told " + what, ARGUMENT, x -> x.told(what)));
        }
        for (boolean program : new boolean[] {true, false}) {
            for (int steps : new int[] {0, 1001, -1, LEAST, MOST}) {
                all.add(new Refused("run " + program + " steps " + steps, ARGUMENT, x -> x.run(program, 0, steps)));
            }
            for (int address : new int[] {-1, -4, LEAST}) {
                all.add(new Refused("run " + program + " at " + address, ARGUMENT, x -> x.run(program, address, 1)));
            }
            all.add(new Refused("run " + program + " with both wrong", ARGUMENT, x -> x.run(program, -1, 0)));
        }
        return all;
    }

    private static List<Refused> ofNew() {
        return List.of(
            new Refused("set(0) of no program", ARGUMENT, x -> x.set(0, 1, 1, 1, 1)),
            new Refused("cut(1) of no program", ARGUMENT, x -> x.cut(1)),
            new Refused("rewrite() of no program", STATE, FaultIsolation::rewrite),
            new Refused("place(0) before rewriting", ARGUMENT, x -> x.place(0)),
            new Refused("byteAt(0) of no bytes", ARGUMENT, x -> x.byteAt(0)),
            new Refused("poke(0) of no bytes", ARGUMENT, x -> x.poke(0, 1)));
    }

    private static List<Refused> ofFull() {
        int size = full().size();
        return List.of(
            new Refused("add the 61st", STATE, x -> x.add(1, 1, 1, 1)),
            new Refused("add the 61st, not sound", STATE, x -> x.add(255, 255, 255, 255)),
            new Refused("add the 61st, a wrong number too", ARGUMENT, x -> x.add(1, 1, 1, 256)),
            new Refused("place(20)", ARGUMENT, x -> x.place(20)),
            new Refused("byteAt(size)", ARGUMENT, x -> x.byteAt(size)),
            new Refused("poke(size)", ARGUMENT, x -> x.poke(size, 1)));
    }

    private static List<Refused> ofUnsound() {
        return List.of(
            new Refused("set(5) of 5", ARGUMENT, x -> x.set(5, 1, 1, 1, 1)),
            new Refused("cut(6) of 5", ARGUMENT, x -> x.cut(6)),
            new Refused("rewrite() of an unsound program", STATE, FaultIsolation::rewrite),
            new Refused("place(3) of 3 rewritten", ARGUMENT, x -> x.place(3)),
            new Refused("byteAt(64) of 64", ARGUMENT, x -> x.byteAt(64)),
            new Refused("poke(64) of 64", ARGUMENT, x -> x.poke(64, 1)));
    }
}
