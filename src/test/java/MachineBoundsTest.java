/**
 * Boundary cases of promises 13 to 19 and of "THE MACHINE" and "A STEP" under "Terms": a test for each sentence that
 * names one. The sentence stands above its test. That refused calls change nothing is in RefusedCallsTest.
 */
public final class MachineBoundsTest {
    private static final Checks CHECKS = new Checks();
    private static final boolean[] BOTH = {true, false};
    private static final int LEAST = Integer.MIN_VALUE;
    private static final int MOST = Integer.MAX_VALUE;

    public static void main(String[] args) {
        registersWrap();
        registersAre0To7();
        memoryIs0To4095();
        memoryTakes0To255();
        regionIs1024FromBase();
        set();
        down();
        bitByBit();
        moreIsOfTheNumber();
        loadAndStoreAddAndWrap();
        storeTheLowest8Bits();
        goTo();
        zeroOnlyIf0();
        toWhatARegisterIs();
        callAndTheAddressBehind();
        andnAndOrn();
        labelOfProgramsAlone();
        outOfTheCode();
        outOfNothing();
        halt();
        wrongWords();
        wrongRegisters();
        notInTheMemory();
        straysAreDone();
        slips();
        noSlipIfNotTaken();
        stepsAre1To1000();
        goesOnForSoManySteps();
        addressIsNotBelow0();
        countsFrom0();
        programAndBytesShareTheMachine();
        toldAddressOfEachEnding();
        toldStepsOfEachEnding();
        toldStoresAsOften();
        toldLatestStray();
        toldWithoutARun();
        toldIs0To5();
        clearsAll();
        clearsNothingElse();
        CHECKS.end();
    }

    /** One step of one instruction with registers 1 and 2 being b and c: what register 0 is then. */
    private static int done(boolean program, int b, int c, int... numbers) {
        FaultIsolation x = Made.either(program, 0, numbers);
        x.register(0, 0x12345678);
        x.register(1, b);
        x.register(2, c);
        CHECKS.due("run", x.run(program, 0, 1), 0);
        CHECKS.told(x, 4, 1, 0, 0, 0, -1);
        CHECKS.due("registerAt(1)", x.registerAt(1), b);
        CHECKS.due("registerAt(2)", x.registerAt(2), c);
        return x.registerAt(0);
    }

    /** "REGISTERS 0 .. 7 (32 bits, wrapping)" */
    private static void registersWrap() {
        for (boolean p : BOTH) {
            CHECKS.due("ADD beyond the most", done(p, MOST, 1, 2, 0, 1, 2), LEAST);
            CHECKS.due("ADD below the least", done(p, LEAST, -1, 2, 0, 1, 2), MOST);
            CHECKS.due("ADD to the most", done(p, MOST - 1, 1, 2, 0, 1, 2), MOST);
            CHECKS.due("LESS below the least", done(p, LEAST, 1, 3, 0, 1, 2), MOST);
            CHECKS.due("LESS beyond the most", done(p, MOST, -1, 3, 0, 1, 2), LEAST);
            CHECKS.due("LESS of the least", done(p, 0, LEAST, 3, 0, 1, 2), LEAST);
            CHECKS.due("TIMES to the least", done(p, 65536, 32768, 4, 0, 1, 2), LEAST);
            CHECKS.due("TIMES beyond 32 bits", done(p, 65536, 65536, 4, 0, 1, 2), 0);
            CHECKS.due("TIMES of the least", done(p, LEAST, -1, 4, 0, 1, 2), LEAST);
            CHECKS.due("TIMES of the most", done(p, MOST, MOST, 4, 0, 1, 2), 1);
            CHECKS.due("MORE beyond the most", done(p, MOST, 0, 9, 0, 1, 255), LEAST + 254);
            CHECKS.due("MORE to 0", done(p, -1, 0, 9, 0, 1, 1), 0);
        }
    }

    /** register, registerAt: "REGISTERS 0 .. 7 (32 bits)"; "A register's value: what it was. Illegal argument." */
    private static void registersAre0To7() {
        FaultIsolation x = new FaultIsolation(0);
        for (int r = 0; r <= 7; r++) {
            CHECKS.due("register(" + r + ", least)", x.register(r, LEAST), 0);
            CHECKS.due("register(" + r + ", most)", x.register(r, MOST), LEAST);
            CHECKS.due("register(" + r + ", " + -r + ")", x.register(r, -r), MOST);
        }
        for (int r = 0; r <= 7; r++) {
            CHECKS.due("registerAt(" + r + ")", x.registerAt(r), -r);
        }
        for (int r : new int[] {-1, 8, LEAST, MOST}) {
            CHECKS.illegalArgument("register(" + r + ", 1)", () -> x.register(r, 1));
            CHECKS.illegalArgument("registerAt(" + r + ")", () -> x.registerAt(r));
        }
    }

    /** memory, memoryAt: "4096 bytes of MEMORY (addresses 0 .. 4095)"; "Illegal argument." */
    private static void memoryIs0To4095() {
        FaultIsolation x = new FaultIsolation(2);
        for (int at : new int[] {0, 1, 1023, 1024, 2047, 2048, 3071, 3072, 4094, 4095}) {
            CHECKS.due("memory(" + at + ", 7)", x.memory(at, 7), 0);
            CHECKS.due("memory(" + at + ", 9)", x.memory(at, 9), 7);
            CHECKS.due("memoryAt(" + at + ")", x.memoryAt(at), 9);
        }
        CHECKS.due("memoryAt(2)", x.memoryAt(2), 0);
        for (int at : new int[] {-1, 4096, LEAST, MOST}) {
            CHECKS.illegalArgument("memory(" + at + ", 1)", () -> x.memory(at, 1));
            CHECKS.illegalArgument("memoryAt(" + at + ")", () -> x.memoryAt(at));
        }
    }

    /** "A byte of the memory (0 .. 255): what it was. Illegal argument." */
    private static void memoryTakes0To255() {
        FaultIsolation x = new FaultIsolation(0);
        CHECKS.due("memory(9, 255)", x.memory(9, 255), 0);
        CHECKS.illegalArgument("memory(9, 256)", () -> x.memory(9, 256));
        CHECKS.illegalArgument("memory(9, -1)", () -> x.memory(9, -1));
        CHECKS.due("memory(9, 0)", x.memory(9, 0), 255);
        CHECKS.due("memoryAt(9)", x.memoryAt(9), 0);
    }

    /** "of which the REGION is 1024 from BASE on (a multiple of 1024)"; "but not in the region: a STRAY" */
    private static void regionIs1024FromBase() {
        for (int region = 0; region <= 3; region++) {
            int base = 1024 * region;
            for (int at : new int[] {base - 1, base, base + 1023, base + 1024}) {
                for (int word = 10; word <= 11; word++) {
                    for (boolean p : BOTH) {
                        if (at >= 0 && at < 4096) {
                            FaultIsolation x = Made.either(p, region, word, 0, 1, 0);
                            x.register(1, at);
                            CHECKS.due("run", x.run(p, 0, 1), 0);
                            boolean inside = at == base || at == base + 1023;
                            CHECKS.told(x, 4, 1, inside ? 0 : 1, 0, inside && word == 11 ? 1 : 0, inside ? -1 : at);
                        }
                    }
                }
            }
        }
    }

    /** "SET: A = N, of 32768 or more 65536 less"; "N is 256 B + C" */
    private static void set() {
        for (boolean p : BOTH) {
            int[][] values = {{0, 0, 0}, {0, 255, 255}, {1, 0, 256}, {127, 255, 32767}, {128, 0, -32768}, {128, 1, -32767},
                {255, 0, -256}, {255, 255, -1}};
            for (int[] v : values) {
                CHECKS.due("SET " + v[0] + " " + v[1], done(p, 5, 5, 1, 0, v[0], v[1]), v[2]);
            }
        }
    }

    /** "DOWN: A = B, its bits moved to lower places by what register C is modulo 32, 0s from above." */
    private static void down() {
        int[][] values = {{-1, 0, -1}, {-1, 1, MOST}, {-1, 31, 1}, {-1, 32, -1}, {-1, 33, MOST}, {-1, 63, 1}, {-1, 64, -1},
            {-1, -1, 1}, {-1, -32, -1}, {-1, -31, MOST}, {-1, LEAST, -1}, {-1, MOST, 1}, {LEAST, 31, 1}, {LEAST, 1, 1 << 30}, {1, 1, 0}};
        for (boolean p : BOTH) {
            for (int[] v : values) {
                CHECKS.due("DOWN " + v[0] + " by " + v[1], done(p, v[0], v[1], 8, 0, 1, 2), v[2]);
            }
        }
    }

    /** "AND, 6 OR, 7 UNLIKE (bit by bit): A = B with C": the highest bit too */
    private static void bitByBit() {
        for (boolean p : BOTH) {
            CHECKS.due("AND", done(p, LEAST + 12, -1, 5, 0, 1, 2), LEAST + 12);
            CHECKS.due("OR", done(p, LEAST, MOST, 6, 0, 1, 2), -1);
            CHECKS.due("UNLIKE", done(p, -1, MOST, 7, 0, 1, 2), LEAST);
            CHECKS.due("UNLIKE of itself", done(p, -5, 0, 7, 0, 1, 1), 0);
        }
    }

    /** "MORE: A = B + c, c being the number C, 0 .. 255." */
    private static void moreIsOfTheNumber() {
        for (boolean p : BOTH) {
            CHECKS.due("MORE 0", done(p, 1000, 99, 9, 0, 1, 0), 1000);
            CHECKS.due("MORE 2", done(p, 1000, 99, 9, 0, 1, 2), 1002);
            CHECKS.due("MORE 128", done(p, 1000, 99, 9, 0, 1, 128), 1128);
            CHECKS.due("MORE 255", done(p, 1000, 99, 9, 0, 1, 255), 1255);
        }
    }

    /** "LOAD: A = the byte at address B + c. 11 STORE: the byte at address B + c" (registers wrapping) */
    private static void loadAndStoreAddAndWrap() {
        int[][] places = {{0, 0, 0}, {0, 255, 255}, {-255, 255, 0}, {-1, 1, 0}, {-1, 255, 254}, {4095, 0, 4095}, {3840, 255, 4095}};
        for (boolean p : BOTH) {
            for (int[] place : places) {
                FaultIsolation load = Made.either(p, 0, 10, 0, 1, place[1]);
                load.memory(place[2], 255);
                load.register(0, -7);
                load.register(1, place[0]);
                CHECKS.due("run", load.run(p, 0, 1), 0);
                CHECKS.due("LOAD from " + place[2], load.registerAt(0), 255);
                CHECKS.due("memoryAt stays", load.memoryAt(place[2]), 255);
                FaultIsolation store = Made.either(p, 0, 11, 0, 1, place[1]);
                store.register(0, 99);
                store.register(1, place[0]);
                CHECKS.due("run", store.run(p, 0, 1), 0);
                CHECKS.due("STORE to " + place[2], store.memoryAt(place[2]), 99);
                CHECKS.due("registerAt stays", store.registerAt(0), 99);
            }
        }
    }

    /** "STORE: the byte at address B + c = the lowest 8 bits of A." */
    private static void storeTheLowest8Bits() {
        int[][] values = {{0, 0}, {255, 255}, {256, 0}, {511, 255}, {-1, 255}, {-256, 0}, {LEAST, 0}, {MOST, 255}, {0x1280, 128}};
        for (boolean p : BOTH) {
            for (int[] v : values) {
                FaultIsolation x = Made.either(p, 0, 11, 0, 1, 0);
                x.memory(500, 77);
                x.register(0, v[0]);
                x.register(1, 500);
                x.run(p, 0, 1);
                CHECKS.due("STORE of " + v[0], x.memoryAt(500), v[1]);
                CHECKS.due("memoryAt(499)", x.memoryAt(499), 0);
                CHECKS.due("memoryAt(501)", x.memoryAt(501), 0);
            }
        }
    }

    /** "GO: to N": of bytes an address, of programs (whose N are places) the address of that instruction */
    private static void goTo() {
        for (int n : new int[] {0, 4, 16, 59, 60, 255, 256, 1008, 65535}) {
            FaultIsolation bytes = Made.bytes(0, 64, 12, 0, n / 256, n % 256);
            CHECKS.due("run", bytes.run(false, 0, 1), 0);
            CHECKS.told(bytes, n, 1);
            FaultIsolation program = Made.program(0, 12, 0, n / 256, n % 256);
            CHECKS.due("run", program.run(true, 0, 1), 0);
            CHECKS.told(program, 4 * n, 1);
        }
    }

    /** "ZERO: to N if A is 0." */
    private static void zeroOnlyIf0() {
        for (boolean p : BOTH) {
            for (int a : new int[] {0, 1, -1, 256, 65536, LEAST, MOST}) {
                FaultIsolation x = Made.either(p, 0, 13, 5, 0, p ? 4 : 16);
                x.register(5, a);
                CHECKS.due("run", x.run(p, 0, 1), 0);
                CHECKS.told(x, a == 0 ? 16 : 4, 1, 0, 0);
            }
        }
    }

    /** "TO: to what A is.": an address, of programs too */
    private static void toWhatARegisterIs() {
        for (boolean p : BOTH) {
            for (int a : new int[] {0, 4, 7, 16, 60, 4096, -1, -4, -16, LEAST, MOST}) {
                FaultIsolation x = Made.either(p, 0, 14, 7, 255, 255);
                x.register(7, a);
                CHECKS.due("run", x.run(p, 0, 1), 0);
                CHECKS.told(x, a, 1);
            }
        }
    }

    /** "CALL: register 7 = the address behind this instruction, goes to N.": from the last one too */
    private static void callAndTheAddressBehind() {
        FaultIsolation bytes = Made.bytes(0, 64);
        Made.pokeAll(bytes, 1020, 15, 255, 3, 240);
        CHECKS.due("run", bytes.run(false, 1020, 1), 0);
        CHECKS.told(bytes, 1008, 1, 0, 0);
        CHECKS.due("registerAt(7)", bytes.registerAt(7), 1024);
        FaultIsolation program = new FaultIsolation(0);
        Made.addTimes(program, 60, 15, 255, 0, 59);
        CHECKS.due("run", program.run(true, 236, 1), 0);
        CHECKS.told(program, 236, 1, 0, 1);
        CHECKS.due("registerAt(7)", program.registerAt(7), 240);
        CHECKS.due("run", program.run(true, 0, 1), 0);
        CHECKS.due("registerAt(7)", program.registerAt(7), 4);
    }

    /** "ANDN: A = A and N, bit by bit. 17 ORN: A = A or N.": N is never below 0 */
    private static void andnAndOrn() {
        int[][] values = {{0, 0}, {0, 1}, {3, 255}, {128, 0}, {255, 255}};
        for (int[] v : values) {
            for (int a : new int[] {0, -1, LEAST, 0x12345678}) {
                int n = 256 * v[0] + v[1];
                FaultIsolation x = Made.bytes(0, 1, 16, 7, v[0], v[1], 17, 5, v[0], v[1]);
                x.register(7, a);
                x.register(5, a);
                CHECKS.due("run", x.run(false, 0, 2), 0);
                CHECKS.due("ANDN " + n, x.registerAt(7), a & n);
                CHECKS.due("ORN " + n, x.registerAt(5), a | n);
            }
        }
    }

    /** "LABEL (of programs alone): A = the address of instruction N." */
    private static void labelOfProgramsAlone() {
        CHECKS.due("LABEL 0", done(true, 0, 0, 18, 0, 0, 0), 0);
        CHECKS.due("LABEL 59", done(true, 0, 0, 18, 0, 0, 59), 236);
        FaultIsolation x = Made.bytes(0, 1, 18, 0, 0, 0);
        CHECKS.due("run of bytes", x.run(false, 0, 1), 3);
        CHECKS.due("verify()", x.verify(), 0);
    }

    /** "if the address at hand is not that of an instruction of the code (a multiple of 4 below its size) ..: 2 (OUT)" */
    private static void outOfTheCode() {
        FaultIsolation bytes = Made.bytes(0, 2);
        FaultIsolation program = Made.program(0, 0, 0, 0, 0, 0, 0, 0, 0);
        for (int at = 0; at <= 40; at++) {
            CHECKS.due("run of bytes at " + at, bytes.run(false, at, 1), at % 4 == 0 && at < 32 ? 1 : 2);
            CHECKS.due("run of a program at " + at, program.run(true, at, 1), at % 4 == 0 && at < 8 ? 1 : 2);
        }
        for (int at : new int[] {1020, 1024, 4096, MOST - 3, MOST}) {
            CHECKS.due("run of bytes at " + at, bytes.run(false, at, 1), 2);
            CHECKS.due("run of a program at " + at, program.run(true, at, 1), 2);
            CHECKS.told(program, at, 0, 0, 0, 0, -1);
        }
        for (boolean p : BOTH) {
            for (int a : new int[] {-1, -4, -16, LEAST, 64, 65}) {
                FaultIsolation x = Made.either(p, 0, 14, 1, 0, 0);
                x.register(1, a);
                CHECKS.due("run TO " + a, x.run(p, 0, 9), 2);
                CHECKS.told(x, a, 1);
            }
        }
    }

    /** "(a multiple of 4 below its size)": of no program and no bytes there is none */
    private static void outOfNothing() {
        FaultIsolation x = new FaultIsolation(0);
        CHECKS.due("run of no program", x.run(true, 0, 1000), 2);
        CHECKS.told(x, 0, 0, 0, 0, 0, -1);
        CHECKS.due("run of no bytes", x.run(false, 0, 1000), 2);
        x.add(0, 0, 0, 0);
        CHECKS.due("run of no bytes, with a program", x.run(false, 0, 1), 2);
        x.rewrite();
        x.cut(1);
        CHECKS.due("run of no program, with bytes", x.run(true, 0, 1), 2);
        CHECKS.due("run of the bytes", x.run(false, 0, 1), 1);
        x.bundles(0);
        CHECKS.due("run of no bytes again", x.run(false, 0, 1), 2);
    }

    /** "HALT: it ends: 1.": whatever its A, B, C are */
    private static void halt() {
        for (boolean p : BOTH) {
            FaultIsolation x = Made.either(p, 0, 0, 255, 255, 255);
            CHECKS.due("run", x.run(p, 0, 1000), 1);
            CHECKS.told(x, 0, 1, 0, 0, 0, -1);
        }
    }

    /** "A word that there is not (of programs 16, 17 and those above 18, of bytes those above 17) ..: 3 (WRONG)" */
    private static void wrongWords() {
        for (int word = 0; word < 256; word++) {
            int fine = word == 0 ? 1 : 0;
            FaultIsolation program = Made.program(0, word, 0, 0, 0);
            CHECKS.due("program's word " + word, program.run(true, 0, 1), word <= 15 || word == 18 ? fine : 3);
            FaultIsolation bytes = Made.bytes(0, 1, word, 0, 0, 0);
            CHECKS.due("bytes' word " + word, bytes.run(false, 0, 1), word <= 17 ? fine : 3);
        }
    }

    /** "or a register above 7: 3 (WRONG)": and nothing is done; register 6 is one like others here */
    private static void wrongRegisters() {
        int[] registers = {0, 1, 3, 3, 3, 3, 3, 3, 3, 2, 2, 2, 0, 1, 1, 0, 1, 1, 1};
        for (int word = 0; word <= 18; word++) {
            for (int at = 1; at <= 3; at++) {
                for (int r : new int[] {6, 7, 8, 255}) {
                    for (boolean p : BOTH) {
                        if (p ? word != 16 && word != 17 : word != 18) {
                            wrongRegister(p, word, at, r, r > 7 && at <= registers[word]);
                        }
                    }
                }
            }
        }
    }

    private static void wrongRegister(boolean program, int word, int at, int r, boolean bad) {
        // the next one's word is no register of this one
        int[] it = {word, 0, 0, 0, 9, 0, 0, 0};
        it[at] = r;
        FaultIsolation x = Made.either(program, 0, it);
        for (int i = 0; i < 8; i++) {
            x.register(i, 40 + i);
        }
        String name = word + " with " + r + " at " + at;
        CHECKS.due("run of " + name, x.run(program, 0, 1), bad ? 3 : word == 0 ? 1 : 0);
        CHECKS.due("told(1) of " + name, x.told(1), bad ? 0 : 1);
        if (bad) {
            CHECKS.told(x, 0, 0, 0, 0, 0, -1);
            for (int i = 0; i < 8; i++) {
                CHECKS.due("registerAt(" + i + ")", x.registerAt(i), 40 + i);
                CHECKS.due("memoryAt(" + (40 + i) + ")", x.memoryAt(40 + i), 0);
            }
        }
    }

    /** "LOAD and STORE at an address not in the memory: 4 (it does nothing else)" */
    private static void notInTheMemory() {
        int[][] places = {{-1, 0}, {4096, 0}, {4095, 1}, {3841, 255}, {-256, 255}, {MOST, 1}, {LEAST, 0}, {MOST, 255}, {65536, 0}};
        for (boolean p : BOTH) {
            for (int word = 10; word <= 11; word++) {
                for (int[] place : places) {
                    FaultIsolation x = Made.either(p, 3, word, 0, 1, place[1], 1, 5, 0, 9);
                    x.memory(0, 5);
                    x.memory(4095, 6);
                    x.register(0, 77);
                    x.register(1, place[0]);
                    CHECKS.due("run", x.run(p, 0, 2), 4);
                    CHECKS.told(x, 0, 1, 0, 0, 0, -1);
                    CHECKS.due("registerAt(0)", x.registerAt(0), 77);
                    CHECKS.due("registerAt(5)", x.registerAt(5), 0);
                    CHECKS.due("memoryAt(0)", x.memoryAt(0), 5);
                    CHECKS.due("memoryAt(4095)", x.memoryAt(4095), 6);
                }
            }
        }
    }

    /** "at one in it, but not in the region: a STRAY, which is counted, and done" */
    private static void straysAreDone() {
        for (boolean p : BOTH) {
            FaultIsolation x = Made.either(p, 1, 11, 0, 1, 0, 10, 3, 1, 0, 11, 0, 2, 0, 10, 4, 2, 1);
            x.register(0, 300);
            x.register(1, 1023);
            x.register(2, 2048);
            x.memory(2049, 8);
            CHECKS.due("run", x.run(p, 0, 4), 0);
            CHECKS.told(x, 16, 4, 4, 0, 0, 2049);
            CHECKS.due("memoryAt(1023)", x.memoryAt(1023), 44);
            CHECKS.due("registerAt(3)", x.registerAt(3), 44);
            CHECKS.due("memoryAt(2048)", x.memoryAt(2048), 44);
            CHECKS.due("registerAt(4)", x.registerAt(4), 8);
        }
    }

    /** "A jump (12 to 15, if taken) to an address that is not a bundle's beginning is a SLIP, and counted." */
    private static void slips() {
        for (int word = 12; word <= 15; word++) {
            for (int to : new int[] {0, 1, 4, 8, 12, 15, 16, 17, 20, 28, 32, 48, 63}) {
                FaultIsolation x = Made.bytes(0, 4);
                int[] it = word == 14 ? new int[] {14, 1, 0, 0} : new int[] {word, 0, 0, to};
                Made.pokeAll(x, 36, it);
                x.register(1, to);
                CHECKS.due("run", x.run(false, 36, 1), 0);
                CHECKS.told(x, to, 1, 0, to == 0 || to == 16 || to == 32 || to == 48 ? 0 : 1);
            }
            for (int place = 0; place <= 5; place++) {
                int[] it = word == 14 ? new int[] {14, 1, 0, 0} : new int[] {word, 0, 0, place};
                FaultIsolation x = Made.program(0, it);
                x.register(1, 4 * place);
                CHECKS.due("run", x.run(true, 0, 1), 0);
                CHECKS.told(x, 4 * place, 1, 0, place == 0 || place == 4 ? 0 : 1);
            }
        }
        FaultIsolation twice = Made.bytes(0, 1, 6, 0, 0, 0, 12, 0, 0, 4);
        CHECKS.due("run", twice.run(false, 0, 1000), 0);
        CHECKS.told(twice, 4, 1000, 0, 999);
    }

    /** "(12 to 15, if taken)": a ZERO that is not taken is no slip, and going on behind it neither */
    private static void noSlipIfNotTaken() {
        for (boolean p : BOTH) {
            FaultIsolation x = Made.either(p, 0, 13, 1, 0, 5, 13, 1, 0, 7, 0, 0, 0, 0);
            x.register(1, 1);
            CHECKS.due("run", x.run(p, 0, 9), 1);
            CHECKS.told(x, 8, 3, 0, 0);
        }
    }

    /** "for so many steps at most (1 .. 1000)"; "Illegal argument: the steps" */
    private static void stepsAre1To1000() {
        for (boolean p : BOTH) {
            FaultIsolation x = Made.either(p, 0, 12, 0, 0, 0);
            CHECKS.due("run for 1", x.run(p, 0, 1), 0);
            CHECKS.told(x, 0, 1);
            CHECKS.due("run for 1000", x.run(p, 0, 1000), 0);
            CHECKS.told(x, 0, 1000);
            for (int steps : new int[] {0, 1001, -1, LEAST, MOST}) {
                CHECKS.illegalArgument("run for " + steps, () -> x.run(p, 0, steps));
            }
            CHECKS.told(x, 0, 1000);
        }
    }

    /** "how it ended: 1 to 4, or 0: it did not": an ending is a step too */
    private static void goesOnForSoManySteps() {
        int[][] lasts = {{0, 0, 0, 0, 1}, {255, 0, 0, 0, 3}, {1, 8, 0, 0, 3}, {10, 0, 1, 0, 4}, {11, 0, 1, 0, 4}};
        for (boolean p : BOTH) {
            for (int[] last : lasts) {
                FaultIsolation x = Made.either(p, 0, 1, 2, 0, 1, 1, 2, 0, 2, last[0], last[1], last[2], last[3]);
                x.register(1, -1);
                CHECKS.due("run for 2", x.run(p, 0, 2), 0);
                CHECKS.told(x, 8, 2);
                CHECKS.due("run for 3", x.run(p, 0, 3), last[4]);
                CHECKS.due("told(0)", x.told(0), 8);
                CHECKS.due("going on for 1", x.run(p, 8, 1), last[4]);
            }
            FaultIsolation out = p ? Made.program(0, 1, 2, 0, 1) : Made.bytes(0, 1, 12, 0, 0, 16);
            CHECKS.due("run for 1", out.run(p, 0, 1), 0);
            CHECKS.due("run for 2", out.run(p, 0, 2), 2);
        }
    }

    /** "Illegal argument: .. the address is below 0." */
    private static void addressIsNotBelow0() {
        FaultIsolation x = Made.program(0, 0, 0, 0, 0);
        x.rewrite();
        for (boolean p : BOTH) {
            CHECKS.due("run at 0", x.run(p, 0, 1), 1);
            CHECKS.due("run at the most", x.run(p, MOST, 1), 2);
            CHECKS.told(x, MOST, 0);
            for (int address : new int[] {-1, -4, -16, LEAST}) {
                CHECKS.illegalArgument("run at " + address, () -> x.run(p, address, 1));
            }
            CHECKS.told(x, MOST, 0);
        }
    }

    /** "STRAYS and SLIPS are counted from 0 on." */
    private static void countsFrom0() {
        FaultIsolation x = Made.program(1, 11, 0, 1, 0, 12, 0, 0, 3, 0, 0, 0, 0, 0, 0, 0, 0);
        for (int i = 0; i < 3; i++) {
            CHECKS.due("run", x.run(true, 0, 9), 1);
            CHECKS.told(x, 12, 3, 1, 1, 0, 0);
        }
        CHECKS.due("run of the HALT alone", x.run(true, 8, 9), 1);
        CHECKS.told(x, 8, 1, 0, 0, 0, -1);
        x.register(1, 1024);
        CHECKS.due("run in the region", x.run(true, 0, 9), 1);
        CHECKS.told(x, 12, 3, 0, 1, 1, -1);
        CHECKS.due("run out of the code", x.run(false, 0, 9), 2);
        CHECKS.told(x, 0, 0, 0, 0, 0, -1);
    }

    /** "The machine goes on with the program (true), or the bytes": registers and memory stay from run to run */
    private static void programAndBytesShareTheMachine() {
        FaultIsolation x = Made.program(0, 9, 0, 0, 1, 11, 0, 1, 9, 0, 0, 0, 0);
        x.rewrite();
        CHECKS.due("run of the program", x.run(true, 0, 9), 1);
        CHECKS.due("memoryAt(9)", x.memoryAt(9), 1);
        CHECKS.due("run of the bytes", x.run(false, 0, 99), 1);
        CHECKS.due("memoryAt(9)", x.memoryAt(9), 2);
        CHECKS.due("registerAt(0)", x.registerAt(0), 2);
        CHECKS.due("registerAt(6)", x.registerAt(6), 9);
    }

    /** "what = 0 the address at hand (of the instruction that ended it)" */
    private static void toldAddressOfEachEnding() {
        int[][] lasts = {{0, 0, 0, 0, 1}, {14, 2, 0, 0, 2}, {200, 0, 0, 0, 3}, {2, 0, 0, 8, 3}, {10, 0, 2, 0, 4}, {11, 0, 2, 0, 4}};
        for (boolean p : BOTH) {
            for (int[] last : lasts) {
                FaultIsolation x = Made.either(p, 0, 1, 1, 0, 1, last[0], last[1], last[2], last[3]);
                x.register(2, 5000);
                CHECKS.due("run", x.run(p, 0, 9), last[4]);
                CHECKS.due("told(0) of " + last[0], x.told(0), last[4] == 2 ? 5000 : 4);
            }
        }
    }

    /** "1 how many steps (instructions that were done, the last one too, but not OUT and WRONG)" */
    private static void toldStepsOfEachEnding() {
        int[][] lasts = {{0, 0, 0, 0, 3}, {200, 0, 0, 0, 2}, {2, 0, 0, 8, 2}, {10, 0, 2, 0, 3}, {11, 0, 2, 0, 3}, {14, 2, 0, 0, 3}};
        for (boolean p : BOTH) {
            for (int[] last : lasts) {
                FaultIsolation x = Made.either(p, 0, 1, 1, 0, 1, 1, 1, 0, 2, last[0], last[1], last[2], last[3]);
                x.register(2, 5000);
                x.run(p, 0, 9);
                CHECKS.due("told(1) of " + last[0], x.told(1), last[4]);
            }
        }
    }

    /** "4 how many bytes of the region it stored, as often as it did" */
    private static void toldStoresAsOften() {
        for (boolean p : BOTH) {
            // the same byte three times, a load, a store that strays
            FaultIsolation x = Made.either(p, 1, 11, 0, 1, 0, 11, 0, 1, 0, 11, 0, 1, 0, 10, 0, 1, 0, 11, 0, 2, 0, 11, 0, 1, 1, 0, 0, 0, 0);
            x.register(1, 2000);
            CHECKS.due("run", x.run(p, 0, 9), 1);
            CHECKS.told(x, 24, 7, 1, 0, 4, 0);
        }
    }

    /** "5 the address of the latest stray (NONE)" */
    private static void toldLatestStray() {
        for (boolean p : BOTH) {
            // strays at 0 (a store) and 4095 (a load), then one in the region, then one not in the memory
            FaultIsolation x = Made.either(p, 1, 11, 0, 1, 0, 10, 0, 2, 0, 10, 0, 3, 0, 10, 0, 4, 0);
            x.register(2, 4095);
            x.register(3, 1024);
            x.register(4, 4096);
            CHECKS.due("run", x.run(p, 0, 1), 0);
            CHECKS.due("told(5) at 0", x.told(5), 0);
            CHECKS.due("run", x.run(p, 0, 9), 4);
            CHECKS.told(x, 12, 4, 2, 0, 0, 4095);
            CHECKS.due("run", x.run(p, 8, 9), 4);
            CHECKS.told(x, 12, 2, 0, 0, 0, FaultIsolation.NONE);
        }
    }

    /** "All 0 (5: NONE) without a run." */
    private static void toldWithoutARun() {
        FaultIsolation x = new FaultIsolation(1);
        CHECKS.told(x, 0, 0, 0, 0, 0, -1);
        Made.addAll(x, 11, 0, 1, 0);
        x.rewrite();
        x.verify();
        x.register(0, 5);
        x.memory(0, 5);
        x.clear();
        CHECKS.illegalArgument("run", () -> x.run(true, 4, 0));
        CHECKS.told(x, 0, 0, 0, 0, 0, -1);
    }

    /** told: "Illegal argument." */
    private static void toldIs0To5() {
        FaultIsolation x = Made.program(0, 0, 0, 0, 0);
        x.run(true, 0, 1);
        for (int what : new int[] {-1, 6, LEAST, MOST}) {
            CHECKS.illegalArgument("told(" + what + ")", () -> x.told(what));
        }
        CHECKS.told(x, 0, 1, 0, 0, 0, -1);
    }

    /** "All registers and bytes of the memory become 0." */
    private static void clearsAll() {
        for (int from = 0; from < 4096; from += 240) {
            FaultIsolation x = new FaultIsolation(1);
            for (int r = 0; r < 8; r++) {
                x.register(r, -1 - r);
            }
            for (int i = from; i < from + 240 && i < 4096; i++) {
                x.memory(i, 255);
            }
            x.clear();
            for (int r = 0; r < 8; r++) {
                CHECKS.due("registerAt(" + r + ")", x.registerAt(r), 0);
            }
            for (int i = from; i < from + 240 && i < 4096; i++) {
                CHECKS.due("memoryAt(" + i + ")", x.memoryAt(i), 0);
            }
        }
    }

    /** "All registers and bytes of the memory become 0.": and nothing else does */
    private static void clearsNothingElse() {
        FaultIsolation x = Made.program(2, 1, 0, 7, 9, 11, 0, 1, 0, 12, 0, 0, 3, 0, 0, 0, 0);
        x.rewrite();
        x.run(true, 0, 9);
        x.clear();
        CHECKS.told(x, 12, 4, 1, 1, 0, 0);
        CHECKS.due("cut(0)", x.cut(0), 4);
        CHECKS.due("wrong()", x.wrong(), -1);
        CHECKS.due("size()", x.size(), 64);
        CHECKS.code(x, 0, 1, 0, 7, 9);
        CHECKS.due("place(3)", x.place(3), 48);
        CHECKS.due("verify()", x.verify(), -1);
        CHECKS.due("run", x.run(true, 0, 9), 1);
        CHECKS.told(x, 12, 4, 1, 1, 0, 0);
    }
}
