import java.util.Random;

/** Rewriting, verifying and running together, over many made-up programs, bytes and calls. */
public final class IsolationTest {
    private static final Checks CHECKS = new Checks();
    private static final int[] WORDS = {0, 1, 2, 3, 4, 5, 6, 7, 8, 9, 10, 11, 12, 13, 14, 15, 18};
    private static final int[] REGISTERS = {0, 1, 2, 3, 4, 5, 7};
    private static final int[] EDGES = {Integer.MIN_VALUE, -17, -16, -4, -1, 0, 1, 2, 3, 4, 5, 6, 7, 8, 12, 15, 16, 17, 18, 48,
        59, 60, 63, 64, 65, 255, 256, 1000, 1001, 1023, 1024, 4095, 4096, Integer.MAX_VALUE};

    public static void main(String[] args) {
        readmeExample();
        Random random = new Random(20261115);
        for (int i = 0; i < 3000; i++) {
            rewrittenProgramsAreIsolated(random);
            rewrittenProgramsDoTheSame(random);
            takenBytesAreIsolated(random);
        }
        for (int i = 0; i < 1500; i++) {
            onlyThrownExceptionsReachTheCaller(random);
        }
        CHECKS.end();
    }

    private static void readmeExample() {
        FaultIsolation x = new FaultIsolation(1);
        x.add(1, 0, 0, 5);
        x.add(11, 0, 5, 3);
        x.add(0, 0, 0, 0);
        CHECKS.due("rewrite()", x.rewrite(), 4);
        CHECKS.due("verify()", x.verify(), -1);
        x.register(5, -1);
        CHECKS.due("run", x.run(false, x.place(0), 100), 1);
        CHECKS.due("told(2)", x.told(2), 0);
        CHECKS.due("memoryAt(1026)", x.memoryAt(1026), 5);
    }

    private static int some(Random random, int[] numbers) {
        return numbers[random.nextInt(numbers.length)];
    }

    /** An instruction of a sound program of so many. */
    private static int[] soundInstruction(Random random, int count) {
        int word = some(random, WORDS);
        int a = some(random, REGISTERS);
        boolean jump = word == 12 || word == 13 || word == 15 || word == 18;
        if (jump) {
            return new int[] {word, a, 0, random.nextInt(count)};
        }
        if (word == 1) {
            return new int[] {word, a, random.nextInt(256), random.nextInt(256)};
        }
        int c = word >= 9 ? random.nextInt(256) : some(random, REGISTERS);
        return new int[] {word, a, some(random, REGISTERS), c};
    }

    private static FaultIsolation soundProgram(Random random, int region, int count) {
        FaultIsolation x = new FaultIsolation(region);
        for (int i = 0; i < count; i++) {
            int[] it = soundInstruction(random, count);
            x.add(it[0], it[1], it[2], it[3]);
        }
        return x;
    }

    private static void rewrittenProgramsAreIsolated(Random random) {
        int count = 1 + random.nextInt(60);
        FaultIsolation x = soundProgram(random, random.nextInt(4), count);
        CHECKS.due("wrong()", x.wrong(), -1);
        CHECKS.due("size() in bundles", 16 * x.rewrite(), x.size());
        CHECKS.due("verify()", x.verify(), -1);
        for (int r = 0; r < 8; r++) {
            x.register(r, random.nextInt());
        }
        int start = 16 * random.nextInt(x.size() / 16);
        staysInside(x, start);
        for (int i = 1; i < count; i++) {
            CHECKS.holds("new addresses go up", x.place(i - 1) < x.place(i));
        }
    }

    /** Taken bytes neither stray nor slip nor end by themselves but at a HALT, or behind the last bundle. */
    private static void staysInside(FaultIsolation x, int start) {
        int how = x.run(false, start, 1000);
        CHECKS.due("strays", x.told(2), 0);
        CHECKS.due("slips", x.told(3), 0);
        CHECKS.due("latest stray", x.told(5), -1);
        CHECKS.holds("how it ended: " + how, how == 0 || how == 1 || how == 2 && x.told(0) == x.size());
    }

    /** A program without jumps by register that keeps to the region answers the same when it is rewritten. */
    private static void rewrittenProgramsDoTheSame(Random random) {
        int region = random.nextInt(4);
        int[] numbers = forwardProgram(random, 1 + random.nextInt(60));
        int[] registers = new int[8];
        for (int r = 0; r < 8; r++) {
            registers[r] = r == 5 ? 1024 * region + random.nextInt(1024 - 255) : random.nextInt();
        }
        FaultIsolation program = Made.program(region, numbers);
        int how = runWith(program, true, registers);
        FaultIsolation bytes = Made.program(region, numbers);
        bytes.rewrite();
        CHECKS.due("how the bytes ended", runWith(bytes, false, registers), 1);
        CHECKS.holds("how the program ended: " + how, how == 1 || how == 2 && program.told(0) == numbers.length);
        CHECKS.due("the program's strays", program.told(2), 0);
        CHECKS.due("stores", bytes.told(4), program.told(4));
        for (int r = 0; r < 8; r++) {
            if (r != 6) {
                CHECKS.due("register " + r, bytes.registerAt(r), program.registerAt(r));
            }
        }
        for (int i = registers[5]; i <= registers[5] + 255; i++) {
            CHECKS.due("memory " + i, bytes.memoryAt(i), program.memoryAt(i));
        }
    }

    /** Forward jumps alone, so that it ends; it reaches no more than the 256 bytes from register 5 on. */
    private static int[] forwardProgram(Random random, int count) {
        int[] numbers = new int[4 * count];
        for (int i = 0; i < count; i++) {
            int[] it = soundInstruction(random, count);
            boolean jump = it[0] == 12 || it[0] == 13;
            if (jump && it[3] <= i || it[0] == 14 || it[0] == 15 || it[0] == 18 || it[1] == 5 && it[0] != 11) {
                it = new int[] {2, 0, 1, 2};
            }
            if (it[0] == 10 || it[0] == 11) {
                it[2] = 5;
            }
            System.arraycopy(it, 0, numbers, 4 * i, 4);
        }
        return numbers;
    }

    private static int runWith(FaultIsolation x, boolean program, int[] registers) {
        for (int r = 0; r < 8; r++) {
            x.register(r, registers[r]);
        }
        return x.run(program, 0, 1000);
    }

    /** Rewritten bytes with a few changed: what the verifier takes of them must still be isolated. */
    private static void takenBytesAreIsolated(Random random) {
        FaultIsolation x = soundProgram(random, random.nextInt(4), 1 + random.nextInt(20));
        x.rewrite();
        for (int i = 1 + random.nextInt(3); i > 0; i--) {
            x.poke(random.nextInt(x.size()), random.nextInt(random.nextBoolean() ? 20 : 256));
        }
        for (int r = 0; r < 8; r++) {
            x.register(r, random.nextInt());
        }
        int refused = x.verify();
        CHECKS.holds("verify() " + refused, refused == -1 || refused >= 0 && refused < x.size() && refused % 4 == 0);
        if (refused == -1) {
            staysInside(x, 16 * random.nextInt(x.size() / 16));
        }
    }

    private static void onlyThrownExceptionsReachTheCaller(Random random) {
        FaultIsolation x = new FaultIsolation(number(random));
        for (int i = 0; i < 512; i++) {
            int call = random.nextInt(18);
            try {
                any(x, random, call);
            } catch (IllegalArgumentException | IllegalStateException e) {
                boolean fits = e.getClass() == IllegalArgumentException.class ? call < 14
                    : e.getClass() == IllegalStateException.class && (call == 0 || call == 14);
                CHECKS.holds("call " + call + " throws " + e, fits);
            }
        }
    }

    private static int number(Random random) {
        return random.nextInt(4) == 0 ? some(random, EDGES) : random.nextInt(20);
    }

    private static void any(FaultIsolation x, Random random, int call) {
        int a = number(random);
        int b = number(random);
        int c = number(random);
        int d = number(random);
        switch (call) {
            case 0: x.add(a, b, c, d); break;
            case 1: x.set(number(random), a, b, c, d); break;
            case 2: x.cut(a); break;
            case 3: x.place(a); break;
            case 4: x.bundles(a); break;
            case 5: x.byteAt(a); break;
            case 6: x.poke(a, b); break;
            case 7: x.register(a, b); break;
            case 8: x.memory(a, b); break;
            case 9: x.run(random.nextBoolean(), a, b); break;
            case 10: x.run(random.nextBoolean(), 4 * random.nextInt(60), 1 + random.nextInt(1000)); break;
            case 11: x.told(a); break;
            case 12: x.registerAt(a); break;
            case 13: x.memoryAt(a); break;
            case 14: x.rewrite(); break;
            case 15: x.wrong(); break;
            case 16: x.verify(); break;
            default: x.clear();
        }
    }
}
