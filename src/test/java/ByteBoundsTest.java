/**
 * Boundary cases of promises 8 to 12 and of "VERIFYING" under "Terms": a test for each sentence that names one. The
 * sentence stands above its test. That refused calls change nothing is in RefusedCallsTest.
 */
public final class ByteBoundsTest {
    private static final Checks CHECKS = new Checks();

    public static void main(String[] args) {
        bundlesAre0To64();
        bundlesStay();
        bundlesMoreAreHalts();
        bundlesForgetPlaces();
        sizeIsOfTheBytes();
        bytesThatThereAre();
        pokeTells();
        pokeTakes0To255();
        pokeNeedsAByte();
        sizes();
        sizeGoesFirst();
        theFirstRefused();
        words();
        registers();
        jumpsToABundleBelowTheSize();
        callIsTheLast();
        loadAndStoreHave6And0();
        twoBeforeLoadAndStore();
        twoBeforeInItsBundle();
        base();
        toHas6();
        oneBeforeTo();
        oneBeforeToInItsBundle();
        maskIsOfTheSizeNow();
        verifyChangesNothing();
        CHECKS.end();
    }

    /** "There are so many bundles of bytes (0 .. 64)"; "Illegal argument." */
    private static void bundlesAre0To64() {
        FaultIsolation x = new FaultIsolation(0);
        for (int n = 0; n <= 64; n++) {
            x.bundles(n);
            CHECKS.due("size() of " + n, x.size(), 16 * n);
        }
        CHECKS.illegalBundles(x, 65);
        CHECKS.due("size()", x.size(), 1024);
        x.bundles(0);
        CHECKS.due("size() of 0", x.size(), 0);
        CHECKS.illegalBundles(x, -1);
        CHECKS.due("size()", x.size(), 0);
    }

    /** "those that were stay, as far as there are so many" */
    private static void bundlesStay() {
        for (int n : new int[] {1, 2, 3, 64}) {
            FaultIsolation x = Made.bytes(0, 2);
            for (int i = 0; i < 32; i++) {
                x.poke(i, 200 + i);
            }
            x.bundles(n);
            for (int i = 0; i < 32 && i < 16 * n; i++) {
                CHECKS.due("byteAt(" + i + ") of " + n, x.byteAt(i), 200 + i);
            }
        }
    }

    /** "others are HALTs" */
    private static void bundlesMoreAreHalts() {
        for (int n : new int[] {0, 1, 2}) {
            FaultIsolation x = Made.bytes(0, 4);
            for (int i = 0; i < 64; i++) {
                x.poke(i, 255);
            }
            x.bundles(n);
            x.bundles(6);
            for (int i = 0; i < 96; i++) {
                CHECKS.due("byteAt(" + i + ") with " + n + " between", x.byteAt(i), i < 16 * n ? 255 : 0);
            }
            CHECKS.due("run", x.run(false, 16 * n, 1), 1);
        }
        FaultIsolation last = Made.bytes(0, 64);
        last.poke(1023, 255);
        last.bundles(63);
        last.bundles(64);
        CHECKS.due("byteAt(1023)", last.byteAt(1023), 0);
    }

    /** "What place() told is forgotten." */
    private static void bundlesForgetPlaces() {
        for (int n : new int[] {0, 1, 2, 64}) {
            FaultIsolation x = Made.program(0, 0, 0, 0, 0);
            x.rewrite();
            CHECKS.due("place(0)", x.place(0), 0);
            CHECKS.illegalBundles(x, 65);
            CHECKS.due("place(0) behind a refused call", x.place(0), 0);
            x.bundles(n);
            CHECKS.illegalArgument("place(0) behind bundles(" + n + ")", () -> x.place(0));
            x.rewrite();
            CHECKS.due("place(0) of the next rewriting", x.place(0), 0);
        }
    }

    /** "How many bytes there are." */
    private static void sizeIsOfTheBytes() {
        FaultIsolation x = new FaultIsolation(0);
        CHECKS.due("size() of none", x.size(), 0);
        x.add(0, 0, 0, 0);
        CHECKS.due("size() of none, with a program", x.size(), 0);
        x.rewrite();
        CHECKS.due("size()", x.size(), 16);
        x.cut(1);
        CHECKS.due("size() without the program", x.size(), 16);
        x.bundles(64);
        CHECKS.due("size() of 64", x.size(), 1024);
    }

    /** byteAt: "Illegal argument: there is none such." */
    private static void bytesThatThereAre() {
        FaultIsolation x = new FaultIsolation(0);
        CHECKS.illegalArgument("byteAt(0) of none", () -> x.byteAt(0));
        for (int n : new int[] {1, 3, 64}) {
            x.bundles(n);
            x.poke(0, n);
            x.poke(16 * n - 1, 100 + n);
            CHECKS.due("byteAt(0)", x.byteAt(0), n);
            CHECKS.due("the last byte", x.byteAt(16 * n - 1), 100 + n);
            CHECKS.illegalArgument("behind the last byte", () -> x.byteAt(16 * n));
            CHECKS.illegalArgument("byteAt(-1)", () -> x.byteAt(-1));
        }
        x.bundles(2);
        CHECKS.illegalArgument("byteAt(32), which was", () -> x.byteAt(32));
    }

    /** "A byte becomes another one (0 .. 255): what it was." */
    private static void pokeTells() {
        FaultIsolation x = Made.bytes(0, 1);
        CHECKS.due("poke(5, 255)", x.poke(5, 255), 0);
        CHECKS.due("poke(5, 128)", x.poke(5, 128), 255);
        CHECKS.due("poke(5, 0)", x.poke(5, 0), 128);
        CHECKS.due("poke(5, 0)", x.poke(5, 0), 0);
        CHECKS.due("byteAt(4)", x.byteAt(4), 0);
        CHECKS.due("byteAt(6)", x.byteAt(6), 0);
    }

    /** "A byte becomes another one (0 .. 255)"; "Illegal argument" */
    private static void pokeTakes0To255() {
        FaultIsolation x = Made.bytes(0, 1);
        for (int v = 0; v <= 255; v++) {
            CHECKS.due("poke(0, " + v + ")", x.poke(0, v), Math.max(0, v - 1));
        }
        CHECKS.illegalArgument("poke(0, 256)", () -> x.poke(0, 256));
        CHECKS.illegalArgument("poke(0, -1)", () -> x.poke(0, -1));
        CHECKS.due("byteAt(0)", x.byteAt(0), 255);
    }

    /** poke: "Illegal argument: also if there is none such." */
    private static void pokeNeedsAByte() {
        FaultIsolation x = new FaultIsolation(0);
        CHECKS.illegalArgument("poke(0, 1) of none", () -> x.poke(0, 1));
        x.bundles(64);
        CHECKS.due("poke(1023, 1)", x.poke(1023, 1), 0);
        CHECKS.illegalArgument("poke(1024, 1)", () -> x.poke(1024, 1));
        CHECKS.illegalArgument("poke(-1, 1)", () -> x.poke(-1, 1));
        x.bundles(1);
        CHECKS.due("poke(15, 1)", x.poke(15, 1), 0);
        CHECKS.illegalArgument("poke(16, 1)", () -> x.poke(16, 1));
        x.bundles(2);
        CHECKS.due("byteAt(16)", x.byteAt(16), 0);
    }

    /** "takes bytes whose size is 16 times a power of 2 (1 .. 64)"; "(the size, if that is not)" */
    private static void sizes() {
        FaultIsolation x = new FaultIsolation(0);
        for (int n = 0; n <= 64; n++) {
            x.bundles(n);
            boolean power = n == 1 || n == 2 || n == 4 || n == 8 || n == 16 || n == 32 || n == 64;
            CHECKS.due("verify() of " + n, x.verify(), power ? -1 : 16 * n);
        }
    }

    /** "(the size, if that is not)": also if an instruction is not as it must be */
    private static void sizeGoesFirst() {
        FaultIsolation x = Made.bytes(0, 3, 255);
        CHECKS.due("verify() of 3 bundles", x.verify(), 48);
        x.bundles(4);
        CHECKS.due("verify() of 4 bundles", x.verify(), 0);
    }

    /** "else the address of the first instruction that is not as it must be" */
    private static void theFirstRefused() {
        FaultIsolation x = Made.bytes(0, 64);
        x.poke(1020, 18);
        CHECKS.due("verify() of the last", x.verify(), 1020);
        x.poke(1016, 255);
        CHECKS.due("verify() of the last two", x.verify(), 1016);
        x.poke(16, 12);
        x.poke(19, 1);
        CHECKS.due("verify() of three", x.verify(), 16);
        x.poke(0, 14);
        CHECKS.due("verify() of four", x.verify(), 0);
    }

    /** "its word is 0 to 17" */
    private static void words() {
        for (int word = 0; word < 256; word++) {
            // what LOAD, STORE and TO need before them is there
            boolean to = word == 14;
            int[] before = to ? new int[] {0, 0, 0, 0, 16, 6, 0, 0} : new int[] {16, 6, 3, 255, 17, 6, 0, 0};
            FaultIsolation x = Made.bytes(0, 1, before);
            Made.pokeAll(x, 8, word, to ? 6 : 0, word == 10 || word == 11 ? 6 : 0, 0);
            if (word == 15) {
                Made.pokeAll(x, 8, 0, 0, 0, 0, 15);
            }
            CHECKS.due("verify() of word " + word, x.verify(), word <= 17 ? -1 : 8);
        }
    }

    /** "registers it has are 0 to 7" */
    private static void registers() {
        int[] registers = {0, 1, 3, 3, 3, 3, 3, 3, 3, 2, 1, 1, 0, 1, 0, 0, 1, 1};
        for (int word = 0; word <= 17; word++) {
            boolean reaches = word == 10 || word == 11;
            for (int at = 1; at <= registers[word]; at++) {
                for (int r : new int[] {0, 6, 7, 8, 255}) {
                    // the next one's word is no register of this one
                    FaultIsolation x = Made.bytes(0, 1, 16, 6, 3, 255, 17, 6, 0, 0, word, 0, reaches ? 6 : 0, 0, 9);
                    x.poke(8 + at, r);
                    CHECKS.due("verify() of " + word + " with " + r + " at " + at, x.verify(), r <= 7 ? -1 : 8);
                }
            }
        }
        FaultIsolation none = Made.bytes(0, 1, 0, 255, 255, 255, 12, 255, 0, 0, 1, 7, 255, 255, 15, 255, 0, 0);
        CHECKS.due("verify() of what are no registers", none.verify(), -1);
        FaultIsolation number = Made.bytes(0, 1, 9, 7, 7, 255, 16, 7, 255, 255, 17, 7, 255, 255);
        CHECKS.due("verify() of numbers", number.verify(), -1);
    }

    /** "GO, ZERO and CALL go to a multiple of 16 below the size" */
    private static void jumpsToABundleBelowTheSize() {
        for (int word : new int[] {12, 13, 15}) {
            for (int n = 1; n <= 64; n *= 2) {
                int size = 16 * n;
                for (int to : new int[] {0, 1, 4, 8, 12, 15, size - 17, size - 16, size - 15, size - 4, size - 1, size, size + 1,
                    size + 16, 1024, 32768, 65520, 65535}) {
                    if (to >= 0) {
                        FaultIsolation x = Made.bytes(0, n);
                        Made.pokeAll(x, 12, word, 0, to / 256, to % 256);
                        CHECKS.due("verify() of " + word + " to " + to + " of " + size, x.verify(),
                            to % 16 == 0 && to < size ? -1 : 12);
                    }
                }
            }
        }
    }

    /** "CALL is the last in its bundle" */
    private static void callIsTheLast() {
        for (int at = 0; at < 64; at += 4) {
            FaultIsolation x = Made.bytes(0, 4);
            x.poke(at, 15);
            CHECKS.due("verify() of CALL at " + at, x.verify(), at == 12 || at == 28 || at == 44 || at == 60 ? -1 : at);
        }
    }

    /** "LOAD and STORE have 6 as B and 0 as c" */
    private static void loadAndStoreHave6And0() {
        for (int word = 10; word <= 11; word++) {
            for (int b = 0; b <= 8; b++) {
                FaultIsolation x = Made.bytes(0, 1, 16, 6, 3, 255, 17, 6, 0, 0, word, 0, b, 0);
                CHECKS.due("verify() with B " + b, x.verify(), b == 6 ? -1 : 8);
            }
            for (int c : new int[] {0, 1, 128, 255}) {
                FaultIsolation x = Made.bytes(0, 1, 16, 6, 3, 255, 17, 6, 0, 0, word, 0, 6, c);
                CHECKS.due("verify() with c " + c, x.verify(), c == 0 ? -1 : 8);
            }
        }
    }

    /** "the two instructions before it .. are ANDN 6 1023 and ORN 6 BASE, in this order" */
    private static void twoBeforeLoadAndStore() {
        for (int word = 10; word <= 11; word++) {
            int[] good = {16, 6, 3, 255, 17, 6, 8, 0};
            for (int i = 0; i < good.length; i++) {
                for (int change : new int[] {1, 4, 255}) {
                    FaultIsolation x = Made.bytes(2, 1, good);
                    Made.pokeAll(x, 8, word, 7, 6, 0);
                    CHECKS.due("verify()", x.verify(), -1);
                    x.poke(i, good[i] ^ change);
                    // a word or register that there is not is refused itself
                    boolean itself = i % 4 == 0 && (good[i] ^ change) > 17 || i % 4 == 1 && (good[i] ^ change) > 7;
                    CHECKS.due("verify() with another number at " + i, x.verify(), itself ? i / 4 * 4 : 8);
                }
            }
            FaultIsolation turned = Made.bytes(2, 1, 17, 6, 8, 0, 16, 6, 3, 255, word, 7, 6, 0);
            CHECKS.due("verify() in the other order", turned.verify(), 8);
            FaultIsolation between = Made.bytes(2, 1, 16, 6, 3, 255, 17, 6, 8, 0, 6, 0, 0, 0, word, 7, 6, 0);
            CHECKS.due("verify() with one between it and them", between.verify(), 12);
            FaultIsolation apart = Made.bytes(2, 1, 16, 6, 3, 255, 6, 0, 0, 0, 17, 6, 8, 0, word, 7, 6, 0);
            CHECKS.due("verify() with one between them", apart.verify(), 12);
            FaultIsolation twice = Made.bytes(2, 1, 16, 6, 3, 255, 17, 6, 8, 0, word, 7, 6, 0, word, 7, 6, 0);
            CHECKS.due("verify() of a second one behind them", twice.verify(), 12);
        }
    }

    /** "the two instructions before it, in its bundle" */
    private static void twoBeforeInItsBundle() {
        for (int word = 10; word <= 11; word++) {
            for (int at = 0; at <= 20; at += 4) {
                FaultIsolation x = Made.bytes(0, 2);
                Made.pokeAll(x, at, 16, 6, 3, 255, 17, 6, 0, 0, word, 7, 6, 0);
                boolean over = at == 8 || at == 12;
                CHECKS.due("verify() of " + word + " with two from " + at + " on", x.verify(), over ? at + 8 : -1);
            }
            FaultIsolation first = Made.bytes(0, 1, word, 7, 6, 0);
            CHECKS.due("verify() of the first of all", first.verify(), 0);
            FaultIsolation second = Made.bytes(0, 1, 17, 6, 0, 0, word, 7, 6, 0);
            CHECKS.due("verify() of the second of all", second.verify(), 4);
        }
    }

    /** "ORN 6 BASE": of this object's region, below 0 and above 3 too */
    private static void base() {
        int[][] regions = {{-1, 0}, {0, 0}, {1, 4}, {2, 8}, {3, 12}, {4, 12}};
        for (int[] region : regions) {
            for (int b = 0; b <= 16; b += 4) {
                FaultIsolation x = Made.bytes(region[0], 1, 16, 6, 3, 255, 17, 6, b, 0, 11, 0, 6, 0);
                CHECKS.due("verify() in region " + region[0] + " with " + b, x.verify(), b == region[1] ? -1 : 8);
            }
        }
    }

    /** "TO has 6 as A" */
    private static void toHas6() {
        for (int a = 0; a <= 8; a++) {
            FaultIsolation x = Made.bytes(0, 1, 16, 6, 0, 0, 14, a, 255, 255);
            CHECKS.due("verify() of TO " + a, x.verify(), a == 6 ? -1 : 4);
        }
    }

    /** "the one before it .. is ANDN 6 MASK", MASK being "the size of the bytes, less 16" */
    private static void oneBeforeTo() {
        for (int n = 1; n <= 64; n *= 2) {
            for (int mask : new int[] {0, 16, 48, 112, 240, 496, 1008, 1023, 1024, 16 * n, 16 * n - 1, 16 * n - 15}) {
                FaultIsolation x = Made.bytes(0, n, 16, 6, mask / 256, mask % 256, 14, 6, 0, 0);
                CHECKS.due("verify() of mask " + mask + " with " + n, x.verify(), mask == 16 * n - 16 ? -1 : 4);
            }
            int mask = 16 * n - 16;
            FaultIsolation or = Made.bytes(0, n, 17, 6, mask / 256, mask % 256, 14, 6, 0, 0);
            CHECKS.due("verify() behind ORN", or.verify(), 4);
            FaultIsolation other = Made.bytes(0, n, 16, 5, mask / 256, mask % 256, 14, 6, 0, 0);
            CHECKS.due("verify() behind ANDN 5", other.verify(), 4);
            FaultIsolation between = Made.bytes(0, n, 16, 6, mask / 256, mask % 256, 6, 0, 0, 0, 14, 6, 0, 0);
            CHECKS.due("verify() with one between", between.verify(), 8);
        }
    }

    /** "the one before it, in its bundle" */
    private static void oneBeforeToInItsBundle() {
        for (int at = 0; at <= 24; at += 4) {
            FaultIsolation x = Made.bytes(0, 2);
            Made.pokeAll(x, at, 16, 6, 0, 16, 14, 6, 0, 0);
            CHECKS.due("verify() of TO behind " + at, x.verify(), at == 12 ? 16 : -1);
        }
        FaultIsolation first = Made.bytes(0, 1, 14, 6, 0, 0);
        CHECKS.due("verify() of the first of all", first.verify(), 0);
    }

    /** "MASK is the size of the bytes, less 16.": of as many as there are when verify() is called */
    private static void maskIsOfTheSizeNow() {
        FaultIsolation x = Made.program(0, 14, 0, 0, 0);
        x.rewrite();
        CHECKS.due("verify()", x.verify(), -1);
        x.bundles(2);
        CHECKS.due("verify() with one bundle more", x.verify(), 8);
        x.poke(7, 16);
        CHECKS.due("verify() with the new mask", x.verify(), -1);
        x.bundles(1);
        CHECKS.due("verify() with one bundle less", x.verify(), 8);
    }

    /** verify() tells, and changes nothing that place(), size(), byteAt() and told() tell */
    private static void verifyChangesNothing() {
        FaultIsolation x = Made.program(0, 11, 0, 1, 0, 0, 0, 0, 0);
        x.rewrite();
        x.run(true, 0, 9);
        x.poke(31, 9);
        CHECKS.due("verify()", x.verify(), -1);
        CHECKS.due("verify() again", x.verify(), -1);
        CHECKS.due("size()", x.size(), 32);
        CHECKS.due("place(1)", x.place(1), 16);
        CHECKS.due("byteAt(31)", x.byteAt(31), 9);
        CHECKS.told(x, 4, 2, 0, 0, 1, -1);
    }
}
