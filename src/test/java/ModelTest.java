import java.util.Random;
import java.util.function.IntSupplier;
import java.util.function.Supplier;

/** Made-up runs of calls, of which each must answer what the Model answers. */
public final class ModelTest {
    private static final Checks CHECKS = new Checks();
    private static final int[] WORDS = {0, 1, 1, 2, 3, 4, 5, 6, 7, 8, 9, 9, 10, 10, 11, 11, 12, 13, 13, 14, 15, 18, 18};
    private static final int[] EDGES = {Integer.MIN_VALUE, -1024, -17, -16, -4, -1, 0, 1, 4, 5, 6, 7, 8, 12, 15, 16, 17, 18, 19,
        59, 60, 63, 64, 65, 255, 256, 1000, 1001, 1020, 1023, 1024, 2047, 2048, 3072, 4095, 4096, Integer.MAX_VALUE};
    private static final int RUNS = 4000;

    private final Random random;
    private final FaultIsolation x;
    private final Model model;
    private int made = 0;

    private ModelTest(Random random) {
        this.random = random;
        int region = random.nextInt(8) == 0 ? edge() : random.nextInt(4);
        x = new FaultIsolation(region);
        model = new Model(region);
    }

    public static void main(String[] args) {
        Random random = new Random(20261116);
        for (int i = 0; i < RUNS; i++) {
            new ModelTest(random).calls();
        }
        CHECKS.end();
    }

    /** The program, then up to 255 calls in all and 12 that go with the last one, then 242: never more than 512. */
    private void calls() {
        int count = random.nextInt(61);
        for (int i = 0; i < count; i++) {
            add(count);
        }
        int enough = random.nextInt(256);
        while (made < enough) {
            anyCall();
        }
        lookAtAll();
        CHECKS.holds("at most 512 calls: " + made, made <= 512);
    }

    private void same(String call, Integer due, IntSupplier it) {
        made++;
        if (due == null) {
            CHECKS.illegalArgument(call, it);
        } else {
            CHECKS.due(call, it.getAsInt(), due);
        }
    }

    private void same(String call, Supplier<Integer> due, boolean illegalState, IntSupplier it) {
        if (illegalState) {
            made++;
            CHECKS.illegalState(call, it);
        } else {
            same(call, due.get(), it);
        }
    }

    private int edge() {
        return EDGES[random.nextInt(EDGES.length)];
    }

    /** Mostly 0 .. below, now and then an edge. */
    private int number(int below) {
        return random.nextInt(30) == 0 ? edge() : random.nextInt(Math.max(1, below));
    }

    private int address() {
        return random.nextInt(3) == 0 ? edge() : random.nextInt(4200) - 50;
    }

    private int soundRegister() {
        int r = random.nextInt(7);
        return r == 6 ? 7 : r;
    }

    /** A sound instruction of a program of so many, but for one number of few of them. */
    private int[] instruction(int count) {
        int word = WORDS[random.nextInt(WORDS.length)];
        int[] it = {word, soundRegister(), soundRegister(), soundRegister()};
        if (word == 12 || word == 13 || word == 15 || word == 18) {
            it[2] = 0;
            it[3] = random.nextInt(Math.max(1, count));
        } else if (word == 1) {
            it[2] = random.nextInt(256);
            it[3] = random.nextInt(256);
        } else if (word >= 9) {
            it[3] = random.nextInt(256);
        }
        if (random.nextInt(60) == 0) {
            it[random.nextInt(4)] = edge();
        }
        return it;
    }

    private void add(int count) {
        int[] it = instruction(count);
        boolean bytes = true;
        for (int one : it) {
            bytes = bytes && one >= 0 && one <= 255;
        }
        same("add", () -> model.add(it[0], it[1], it[2], it[3]), bytes && model.isFull(), () -> x.add(it[0], it[1], it[2], it[3]));
    }

    private void anyCall() {
        // seldom, since little is left behind it that could be compared
        if (random.nextInt(60) == 0) {
            clear();
            return;
        }
        switch (random.nextInt(15)) {
            case 0: add(random.nextInt(60)); break;
            case 1: set(); break;
            case 2: cut(); break;
            case 3: mend(); break;
            case 4: rewrite(); break;
            case 5: bundles(); break;
            case 6: poke(); break;
            case 7: pokeInstruction(); break;
            case 8: pokeMasked(); break;
            case 9: same("verify()", model.verify(), x::verify); break;
            case 10: register(); break;
            case 11: memory(); break;
            default: run();
        }
    }

    private void set() {
        int place = number(20);
        int[] it = instruction(random.nextInt(30));
        same("set", model.set(place, it[0], it[1], it[2], it[3]), () -> {
            x.set(place, it[0], it[1], it[2], it[3]);
            return 0;
        });
    }

    private void cut() {
        int n = random.nextInt(6) == 0 ? edge() : random.nextInt(3);
        same("cut(" + n + ")", model.cut(n), () -> x.cut(n));
    }

    /** The instruction that is not sound becomes one that is, so that long programs are rewritten too. */
    private void mend() {
        int place = model.wrong();
        same("wrong()", place, x::wrong);
        int word = 2 + random.nextInt(8);
        same("set(" + place + ")", model.set(place, word, 1, 2, 3), () -> {
            x.set(place, word, 1, 2, 3);
            return 0;
        });
    }

    private void rewrite() {
        same("rewrite()", model::rewrite, model.wrong() != -1, x::rewrite);
        same("size()", model.size(), x::size);
        same("verify()", model.verify(), x::verify);
    }

    private void bundles() {
        int n = random.nextInt(3) == 0 ? edge() : 1 << random.nextInt(7);
        same("bundles(" + n + ")", model.bundles(n), () -> {
            x.bundles(n);
            return 0;
        });
    }

    private void poke() {
        int i = number(model.size());
        int v = number(random.nextBoolean() ? 19 : 256);
        same("poke(" + i + ", " + v + ")", model.poke(i, v), () -> x.poke(i, v));
    }

    private void pokeInstruction() {
        pokeAll(4 * random.nextInt(1 + model.size() / 4), instruction(64));
    }

    /** What the verifier looks for before LOAD, STORE and TO, anywhere in a bundle, and now and then not quite. */
    private void pokeMasked() {
        int mask = Math.max(0, model.size() - 16);
        int[][] ones = {
            {16, 6, 3, 255, 17, 6, model.base / 256, 0, 10, 1, 6, 0},
            {16, 6, 3, 255, 17, 6, model.base / 256, 0, 11, 1, 6, 0},
            {16, 6, mask / 256, mask % 256, 14, 6, 0, 0}};
        int[] it = ones[random.nextInt(3)];
        if (random.nextInt(4) == 0) {
            it[random.nextInt(it.length)] = random.nextInt(20);
        }
        pokeAll(4 * random.nextInt(1 + model.size() / 4), it);
        same("verify()", model.verify(), x::verify);
    }

    private void pokeAll(int from, int[] numbers) {
        for (int i = 0; i < numbers.length; i++) {
            int at = from + i;
            int v = numbers[i];
            same("poke(" + at + ", " + v + ")", model.poke(at, v), () -> x.poke(at, v));
        }
    }

    private void register() {
        int r = number(8);
        int v = random.nextInt(4) == 0 ? random.nextInt() : address();
        same("register(" + r + ", " + v + ")", model.register(r, v), () -> x.register(r, v));
    }

    private void memory() {
        int at = address();
        int v = number(256);
        same("memory(" + at + ", " + v + ")", model.memory(at, v), () -> x.memory(at, v));
    }

    private void clear() {
        same("clear()", model.clear(), () -> {
            x.clear();
            return 0;
        });
    }

    private void run() {
        boolean program = random.nextBoolean();
        int address = random.nextInt(8) == 0 ? edge() : random.nextInt(3) == 0 ? 4 * random.nextInt(60) : 0;
        int steps = random.nextInt(8) == 0 ? edge() : 1 + random.nextInt(random.nextBoolean() ? 10 : 1000);
        same("run(" + program + ", " + address + ", " + steps + ")", model.run(program, address, steps),
            () -> x.run(program, address, steps));
        int what = number(6);
        same("told(" + what + ")", model.told(what), () -> x.told(what));
    }

    private void lookAtAll() {
        same("wrong()", model.wrong(), x::wrong);
        same("size()", model.size(), x::size);
        for (int i = -1; i <= 8; i++) {
            int what = i;
            same("told(" + what + ")", model.told(what), () -> x.told(what));
            same("registerAt(" + what + ")", model.registerAt(what), () -> x.registerAt(what));
        }
        for (int i = 0; i < 20; i++) {
            int instruction = number(60);
            same("place(" + instruction + ")", model.place(instruction), () -> x.place(instruction));
        }
        int from = random.nextInt(1 + model.size());
        for (int i = from; i < from + 100; i++) {
            int at = i;
            same("byteAt(" + at + ")", model.byteAt(at), () -> x.byteAt(at));
        }
        for (int i = 0; i < 100; i++) {
            int at = address();
            same("memoryAt(" + at + ")", model.memoryAt(at), () -> x.memoryAt(at));
        }
    }
}
