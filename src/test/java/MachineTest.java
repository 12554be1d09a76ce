/** Promises 1 (registers, memory, region) and 13 to 19: register, memory, run, told, registerAt, memoryAt, clear. */
public final class MachineTest {
    private static final Checks CHECKS = new Checks();

    public static void main(String[] args) {
        newObject();
        regionIsBounded();
        registers();
        memory();
        runRefuses();
        reckoning();
        loadAndStore();
        addressesOutsideTheMemory();
        jumps();
        slips();
        labelsAndPlaces();
        out();
        wrongWords();
        wrongRegisters();
        stepsAtMost();
        toldIsOfTheLatestRun();
        clear();
        CHECKS.end();
    }

    private static void newObject() {
        FaultIsolation x = new FaultIsolation(0);
        for (int r = 0; r < 8; r++) {
            CHECKS.due("registerAt(" + r + ")", x.registerAt(r), 0);
        }
        for (int i = 0; i < 4096; i += 15) {
            CHECKS.due("memoryAt(" + i + ")", x.memoryAt(i), 0);
        }
        CHECKS.told(x, 0, 0, 0, 0, 0, -1);
        CHECKS.due("run of no program", x.run(true, 0, 1), 2);
        CHECKS.due("run of no bytes", x.run(false, 8, 1), 2);
        CHECKS.told(x, 8, 0, 0, 0, 0, -1);
    }

    private static void regionIsBounded() {
        int[][] regions = {{Integer.MIN_VALUE, 0}, {-1, 0}, {0, 0}, {1, 1}, {2, 2}, {3, 3}, {4, 3}, {Integer.MAX_VALUE, 3}};
        for (int[] region : regions) {
            FaultIsolation x = Made.program(region[0], 11, 0, 1, 0);
            int base = 1024 * region[1];
            for (int at : new int[] {0, 1023, 1024, 2047, 2048, 3071, 3072, 4095}) {
                boolean inside = at >= base && at < base + 1024;
                x.register(1, at);
                CHECKS.due("run", x.run(true, 0, 1), 0);
                CHECKS.told(x, 4, 1, inside ? 0 : 1, 0, inside ? 1 : 0, inside ? -1 : at);
            }
            x.set(0, 10, 0, 1, 0);
            CHECKS.due("rewrite()", x.rewrite(), 2);
            CHECKS.due("the base in the bytes", 256 * x.byteAt(10) + x.byteAt(11), base);
        }
    }

    private static void registers() {
        FaultIsolation x = new FaultIsolation(0);
        for (int r = 0; r < 8; r++) {
            CHECKS.due("register(" + r + ")", x.register(r, Integer.MIN_VALUE + r), 0);
            CHECKS.due("register(" + r + ")", x.register(r, Integer.MAX_VALUE - r), Integer.MIN_VALUE + r);
        }
        for (int r = 0; r < 8; r++) {
            CHECKS.due("registerAt(" + r + ")", x.registerAt(r), Integer.MAX_VALUE - r);
        }
        for (int r : new int[] {-1, 8, Integer.MIN_VALUE, Integer.MAX_VALUE}) {
            CHECKS.illegalArgument("register(" + r + ", 0)", () -> x.register(r, 0));
            CHECKS.illegalArgument("registerAt(" + r + ")", () -> x.registerAt(r));
        }
    }

    private static void memory() {
        FaultIsolation x = new FaultIsolation(0);
        CHECKS.due("memory(0, 255)", x.memory(0, 255), 0);
        CHECKS.due("memory(0, 1)", x.memory(0, 1), 255);
        CHECKS.due("memory(4095, 2)", x.memory(4095, 2), 0);
        for (int at : new int[] {-1, 4096, Integer.MIN_VALUE, Integer.MAX_VALUE}) {
            CHECKS.illegalArgument("memory(" + at + ", 0)", () -> x.memory(at, 0));
            CHECKS.illegalArgument("memoryAt(" + at + ")", () -> x.memoryAt(at));
        }
        for (int v : new int[] {-1, 256, Integer.MIN_VALUE, Integer.MAX_VALUE}) {
            CHECKS.illegalArgument("memory(0, " + v + ")", () -> x.memory(0, v));
        }
        CHECKS.due("memoryAt(0)", x.memoryAt(0), 1);
        CHECKS.due("memoryAt(1)", x.memoryAt(1), 0);
        CHECKS.due("memoryAt(4095)", x.memoryAt(4095), 2);
    }

    private static void runRefuses() {
        FaultIsolation x = Made.program(0, 9, 0, 0, 1, 12, 0, 0, 0);
        CHECKS.due("run for 1000", x.run(true, 0, 1000), 0);
        for (boolean program : new boolean[] {true, false}) {
            for (int steps : new int[] {0, -1, 1001, Integer.MIN_VALUE, Integer.MAX_VALUE}) {
                CHECKS.illegalArgument("run for " + steps, () -> x.run(program, 0, steps));
            }
            for (int address : new int[] {-1, -4, -16, Integer.MIN_VALUE}) {
                CHECKS.illegalArgument("run at " + address, () -> x.run(program, address, 1));
            }
        }
        CHECKS.told(x, 0, 1000, 0, 0, 0, -1);
        CHECKS.due("registerAt(0)", x.registerAt(0), 500);
    }

    /** Does one instruction, as a program or as bytes, with registers 1 and 2 set: what register 0 is. */
    private static int done(boolean program, int b, int c, int... numbers) {
        FaultIsolation x = program ? Made.program(0, numbers) : Made.bytes(0, 1, numbers);
        x.register(0, 0x12345678);
        x.register(1, b);
        x.register(2, c);
        CHECKS.due("run", x.run(program, 0, 1), 0);
        CHECKS.told(x, 4, 1, 0, 0, 0, -1);
        return x.registerAt(0);
    }

    private static void reckoning() {
        int least = Integer.MIN_VALUE;
        int most = Integer.MAX_VALUE;
        for (boolean p : new boolean[] {true, false}) {
            CHECKS.due("SET 0", done(p, 1, 1, 1, 0, 0, 0), 0);
            CHECKS.due("SET 32767", done(p, 1, 1, 1, 0, 127, 255), 32767);
            CHECKS.due("SET 32768", done(p, 1, 1, 1, 0, 128, 0), -32768);
            CHECKS.due("SET 65535", done(p, 1, 1, 1, 0, 255, 255), -1);
            CHECKS.due("ADD", done(p, 5, 7, 2, 0, 1, 2), 12);
            CHECKS.due("ADD wraps", done(p, most, 1, 2, 0, 1, 2), least);
            CHECKS.due("LESS", done(p, 5, 7, 3, 0, 1, 2), -2);
            CHECKS.due("LESS wraps", done(p, least, 1, 3, 0, 1, 2), most);
            CHECKS.due("TIMES", done(p, -5, 7, 4, 0, 1, 2), -35);
            CHECKS.due("TIMES wraps", done(p, 65536, 65537, 4, 0, 1, 2), 65536);
            CHECKS.due("AND", done(p, 12, 10, 5, 0, 1, 2), 8);
            CHECKS.due("OR", done(p, 12, 10, 6, 0, 1, 2), 14);
            CHECKS.due("UNLIKE", done(p, 12, 10, 7, 0, 1, 2), 6);
            CHECKS.due("DOWN 2", done(p, 23, 2, 8, 0, 1, 2), 5);
            CHECKS.due("DOWN 0", done(p, -23, 0, 8, 0, 1, 2), -23);
            CHECKS.due("DOWN brings 0s", done(p, -1, 28, 8, 0, 1, 2), 15);
            CHECKS.due("DOWN 33", done(p, 23, 33, 8, 0, 1, 2), 11);
            CHECKS.due("DOWN -1", done(p, -1, -1, 8, 0, 1, 2), 1);
            CHECKS.due("MORE 255", done(p, 23, 2, 9, 0, 1, 255), 278);
            CHECKS.due("MORE is of the number", done(p, 23, 99, 9, 0, 1, 2), 25);
            CHECKS.due("MORE wraps", done(p, most, 0, 9, 0, 1, 1), least);
        }
        CHECKS.due("ANDN", done(false, 0, 0, 16, 0, 255, 255), 0x5678);
        CHECKS.due("ANDN", done(false, 0, 0, 16, 0, 15, 0), 0x600);
        CHECKS.due("ORN", done(false, 0, 0, 17, 0, 128, 1), 0x1234D679);
        CHECKS.due("LABEL", done(true, 0, 0, 18, 0, 0, 0), 0);
        CHECKS.due("LABEL", done(true, 0, 0, 18, 0, 0, 59), 236);
    }

    private static void loadAndStore() {
        for (boolean p : new boolean[] {true, false}) {
            int[] code = {11, 1, 2, 7, 10, 3, 2, 7, 11, 1, 2, 255, 10, 3, 2, 255};
            FaultIsolation x = p ? Made.program(1, code) : Made.bytes(1, 1, code);
            x.register(1, -2);
            x.register(2, 1024 - 7);
            CHECKS.due("run", x.run(p, 0, 4), 0);
            CHECKS.told(x, 16, 4, 0, 0, 2, -1);
            CHECKS.due("memoryAt(1024)", x.memoryAt(1024), 254);
            CHECKS.due("memoryAt(1272)", x.memoryAt(1272), 254);
            CHECKS.due("registerAt(3)", x.registerAt(3), 254);
            x.register(2, -7);
            x.register(1, 0x1234);
            CHECKS.due("run", x.run(p, 0, 4), 0);
            CHECKS.told(x, 16, 4, 4, 0, 0, 248);
            CHECKS.due("memoryAt(0)", x.memoryAt(0), 0x34);
            x.memory(4095, 201);
            x.register(2, 4095 - 7);
            CHECKS.due("run", x.run(p, 4, 1), 0);
            CHECKS.told(x, 8, 1, 1, 0, 0, 4095);
            CHECKS.due("registerAt(3)", x.registerAt(3), 201);
        }
    }

    private static void addressesOutsideTheMemory() {
        for (boolean p : new boolean[] {true, false}) {
            for (int word = 10; word <= 11; word++) {
                int[] code = {1, 3, 0, 9, word, 3, 2, 1, 0, 0, 0, 0};
                FaultIsolation x = p ? Made.program(3, code) : Made.bytes(3, 1, code);
                for (int b : new int[] {4095, -2, Integer.MAX_VALUE, Integer.MIN_VALUE, 70000}) {
                    x.register(2, b);
                    x.memory(0, 5);
                    CHECKS.due("run", x.run(p, 0, 9), 4);
                    CHECKS.told(x, 4, 2, 0, 0, 0, -1);
                    CHECKS.due("registerAt(3)", x.registerAt(3), 9);
                }
                x.register(2, 4094);
                CHECKS.due("run", x.run(p, 0, 9), 1);
                CHECKS.told(x, 8, 3, 0, 0, word - 10, -1);
            }
        }
    }

    private static void jumps() {
        FaultIsolation go = Made.bytes(0, 2, 12, 0, 0, 16);
        CHECKS.due("GO", go.run(false, 0, 9), 1);
        CHECKS.told(go, 16, 2, 0, 0, 0, -1);
        FaultIsolation zero = Made.bytes(0, 2, 13, 1, 0, 20);
        CHECKS.due("ZERO of 0", zero.run(false, 0, 9), 1);
        CHECKS.told(zero, 20, 2, 0, 1, 0, -1);
        zero.register(1, 256);
        CHECKS.due("ZERO of 256", zero.run(false, 0, 9), 1);
        CHECKS.told(zero, 4, 2, 0, 0, 0, -1);
        FaultIsolation to = Made.bytes(0, 2, 14, 1, 0, 20);
        to.register(1, 24);
        CHECKS.due("TO", to.run(false, 0, 9), 1);
        CHECKS.told(to, 24, 2, 0, 1, 0, -1);
        FaultIsolation call = Made.bytes(0, 2, 0, 0, 0, 0, 15, 0, 0, 16);
        CHECKS.due("CALL", call.run(false, 4, 9), 1);
        CHECKS.told(call, 16, 2, 0, 0, 0, -1);
        CHECKS.due("registerAt(7)", call.registerAt(7), 8);
        FaultIsolation back = Made.bytes(0, 1, 14, 7, 0, 0, 15, 0, 0, 0, 0, 0, 0, 0);
        CHECKS.due("CALL and TO 7", back.run(false, 4, 9), 1);
        CHECKS.told(back, 8, 3, 0, 1, 0, -1);
    }

    private static void slips() {
        for (int n = 0; n < 64; n++) {
            FaultIsolation x = Made.bytes(0, 4, 12, 0, 0, n);
            CHECKS.due("GO " + n, x.run(false, 0, 1), 0);
            CHECKS.told(x, n, 1, 0, n % 16 == 0 ? 0 : 1);
            FaultIsolation y = Made.program(0, 12, 0, 0, n);
            CHECKS.due("GO " + n + " of a program", y.run(true, 0, 1), 0);
            CHECKS.told(y, 4 * n, 1, 0, n % 4 == 0 ? 0 : 1);
        }
        FaultIsolation to = Made.bytes(0, 1, 14, 1, 0, 0);
        to.register(1, -15);
        CHECKS.due("TO -15", to.run(false, 0, 9), 2);
        CHECKS.told(to, -15, 1, 0, 1);
        to.register(1, -16);
        CHECKS.due("TO -16", to.run(false, 0, 9), 2);
        CHECKS.told(to, -16, 1, 0, 0);
    }

    private static void labelsAndPlaces() {
        FaultIsolation x = Made.program(0, 12, 0, 0, 2, 0, 0, 0, 0, 15, 0, 0, 4, 0, 0, 0, 0, 13, 1, 0, 5, 18, 2, 0, 1, 14, 2, 0, 0);
        CHECKS.due("run", x.run(true, 0, 99), 1);
        CHECKS.told(x, 4, 6, 0, 3, 0, -1);
        CHECKS.due("registerAt(7)", x.registerAt(7), 12);
        CHECKS.due("registerAt(2)", x.registerAt(2), 4);
        FaultIsolation far = Made.program(0, 18, 1, 255, 255, 15, 0, 255, 255);
        CHECKS.due("run", far.run(true, 0, 99), 2);
        CHECKS.told(far, 262140, 2, 0, 1, 0, -1);
        CHECKS.due("registerAt(1)", far.registerAt(1), 262140);
        CHECKS.due("registerAt(7)", far.registerAt(7), 8);
    }

    private static void out() {
        FaultIsolation x = Made.bytes(0, 2);
        for (int i = 0; i < 32; i++) {
            x.poke(i, i % 4 == 0 ? 6 : 0);
        }
        CHECKS.due("run behind the end", x.run(false, 0, 99), 2);
        CHECKS.told(x, 32, 8, 0, 0, 0, -1);
        for (int address : new int[] {1, 2, 3, 30, 31, 32, 36, Integer.MAX_VALUE, Integer.MAX_VALUE - 3}) {
            CHECKS.due("run at " + address, x.run(false, address, 1), 2);
            CHECKS.told(x, address, 0, 0, 0, 0, -1);
        }
        CHECKS.due("run at 28", x.run(false, 28, 1), 0);
        FaultIsolation y = Made.program(0, 6, 0, 0, 0);
        CHECKS.due("run at 4", y.run(true, 4, 1), 2);
        CHECKS.due("run at 0", y.run(true, 0, 2), 2);
        CHECKS.told(y, 4, 1, 0, 0, 0, -1);
    }

    private static void wrongWords() {
        for (int word = 0; word < 256; word++) {
            FaultIsolation x = Made.program(0, 1, 0, 0, 1, word, 0, 0, 0);
            FaultIsolation y = Made.bytes(0, 1, 1, 0, 0, 1, word);
            boolean ofPrograms = word <= 15 || word == 18;
            CHECKS.due("program's word " + word, x.run(true, 0, 2), !ofPrograms ? 3 : word == 0 ? 1 : 0);
            CHECKS.due("told(1)", x.told(1), ofPrograms ? 2 : 1);
            CHECKS.due("bytes' word " + word, y.run(false, 0, 2), word > 17 ? 3 : word == 0 ? 1 : 0);
            CHECKS.due("told(1)", y.told(1), word > 17 ? 1 : 2);
            if (word > 18) {
                CHECKS.told(x, 4, 1, 0, 0, 0, -1);
                CHECKS.told(y, 4, 1, 0, 0, 0, -1);
            }
        }
    }

    private static void wrongRegisters() {
        int[] registers = {0, 1, 3, 3, 3, 3, 3, 3, 3, 2, 2, 2, 0, 1, 1, 0, 1, 1, 1};
        for (int word = 0; word <= 18; word++) {
            for (int at = 1; at <= 3; at++) {
                for (int r : new int[] {6, 7, 8, 255}) {
                    int[] code = {word, 0, 0, 0};
                    code[at] = r;
                    boolean bad = r > 7 && at <= registers[word];
                    int fine = word == 0 ? 1 : 0;
                    if (word != 18) {
                        FaultIsolation x = Made.bytes(0, 1, code);
                        x.register(0, 1);
                        CHECKS.due("bytes, " + word + " with " + r + " at " + at, x.run(false, 0, 1), bad ? 3 : fine);
                        CHECKS.due("told(1)", x.told(1), bad ? 0 : 1);
                    }
                    if (word != 16 && word != 17) {
                        FaultIsolation x = Made.program(0, code);
                        x.register(0, 1);
                        CHECKS.due("program, " + word + " with " + r + " at " + at, x.run(true, 0, 1), bad ? 3 : fine);
                        CHECKS.due("told(1)", x.told(1), bad ? 0 : 1);
                    }
                }
            }
        }
    }

    private static void stepsAtMost() {
        FaultIsolation x = Made.bytes(0, 1, 9, 0, 0, 1, 9, 0, 0, 1, 0, 0, 0, 0);
        CHECKS.due("1 step", x.run(false, 0, 1), 0);
        CHECKS.told(x, 4, 1);
        CHECKS.due("2 steps", x.run(false, 0, 2), 0);
        CHECKS.told(x, 8, 2);
        CHECKS.due("3 steps", x.run(false, 0, 3), 1);
        CHECKS.told(x, 8, 3);
        CHECKS.due("registerAt(0)", x.registerAt(0), 5);
        CHECKS.due("going on", x.run(false, x.told(0), 1000), 1);
        CHECKS.told(x, 8, 1);
        x.poke(8, 12);
        CHECKS.due("1000 steps", x.run(false, 0, 1000), 0);
        CHECKS.told(x, 4, 1000);
    }

    private static void toldIsOfTheLatestRun() {
        FaultIsolation x = Made.program(1, 11, 0, 1, 0, 11, 0, 2, 0, 12, 0, 0, 1, 0, 0, 0, 0);
        x.register(1, 4000);
        x.register(2, 1024);
        CHECKS.due("run", x.run(true, 0, 6), 0);
        CHECKS.told(x, 8, 6, 1, 2, 3, 4000);
        x.clear();
        x.bundles(1);
        CHECKS.told(x, 8, 6, 1, 2, 3, 4000);
        CHECKS.due("run", x.run(true, 12, 6), 1);
        CHECKS.told(x, 12, 1, 0, 0, 0, -1);
        for (int what : new int[] {-1, 6, Integer.MIN_VALUE, Integer.MAX_VALUE}) {
            CHECKS.illegalArgument("told(" + what + ")", () -> x.told(what));
        }
    }

    private static void clear() {
        FaultIsolation x = Made.program(0, 1, 0, 0, 9);
        for (int r = 0; r < 8; r++) {
            x.register(r, r + 1);
        }
        for (int i = 0; i < 4096; i += 21) {
            x.memory(i, i % 255 + 1);
        }
        x.rewrite();
        x.clear();
        for (int r = 0; r < 8; r++) {
            CHECKS.due("registerAt(" + r + ")", x.registerAt(r), 0);
        }
        for (int i = 0; i < 4096; i += 21) {
            CHECKS.due("memoryAt(" + i + ")", x.memoryAt(i), 0);
        }
        CHECKS.due("the program stays", x.cut(0), 1);
        CHECKS.due("the bytes stay", x.size(), 16);
        CHECKS.due("the bytes stay", x.byteAt(3), 9);
        CHECKS.due("place(0) stays", x.place(0), 0);
    }
}
