/** Promises 1 (no bytes) and 8 to 12: bundles, size, byteAt, poke, verify. */
public final class BytesTest {
    private static final Checks CHECKS = new Checks();

    public static void main(String[] args) {
        newObject();
        bundlesStayOrAreHalts();
        bundlesRefuses();
        bytesAndPokes();
        verifySizes();
        verifyWords();
        verifyRegisters();
        verifyJumps();
        verifyCallIsLast();
        verifyLoadAndStore();
        verifyTo();
        verifyIsOfTheFirst();
        CHECKS.end();
    }

    private static void newObject() {
        FaultIsolation x = new FaultIsolation(0);
        CHECKS.due("size()", x.size(), 0);
        CHECKS.due("verify()", x.verify(), 0);
        CHECKS.illegalArgument("byteAt(0)", () -> x.byteAt(0));
        CHECKS.illegalArgument("poke(0, 0)", () -> x.poke(0, 0));
        x.add(1, 1, 1, 1);
        CHECKS.due("size() is not of the program", x.size(), 0);
    }

    private static void bundlesStayOrAreHalts() {
        FaultIsolation x = Made.bytes(0, 64);
        for (int i = 0; i < 1024; i += 7) {
            x.poke(i, i % 251 + 1);
        }
        x.bundles(64);
        CHECKS.due("byteAt(1022)", x.byteAt(1022), 1022 % 251 + 1);
        x.bundles(2);
        x.bundles(4);
        for (int i = 0; i < 64; i++) {
            CHECKS.due("byteAt(" + i + ")", x.byteAt(i), i < 32 && i % 7 == 0 ? i + 1 : 0);
        }
        x.bundles(0);
        x.bundles(64);
        for (int i = 0; i < 1024; i += 7) {
            CHECKS.due("byteAt(" + i + ")", x.byteAt(i), 0);
        }
    }

    private static void bundlesRefuses() {
        FaultIsolation x = Made.bytes(0, 2);
        x.poke(31, 9);
        for (int n : new int[] {-1, 65, Integer.MIN_VALUE, Integer.MAX_VALUE, 1 << 28}) {
            CHECKS.illegalBundles(x, n);
        }
        CHECKS.due("size()", x.size(), 32);
        CHECKS.due("byteAt(31)", x.byteAt(31), 9);
    }

    private static void bytesAndPokes() {
        FaultIsolation x = Made.bytes(0, 3);
        CHECKS.due("poke(0, 255)", x.poke(0, 255), 0);
        CHECKS.due("poke(0, 1)", x.poke(0, 1), 255);
        CHECKS.due("poke(47, 3)", x.poke(47, 3), 0);
        CHECKS.due("byteAt(0)", x.byteAt(0), 1);
        CHECKS.due("byteAt(47)", x.byteAt(47), 3);
        for (int i : new int[] {-1, 48, 1023, 1024, Integer.MIN_VALUE, Integer.MAX_VALUE}) {
            CHECKS.illegalArgument("byteAt(" + i + ")", () -> x.byteAt(i));
            CHECKS.illegalArgument("poke(" + i + ", 0)", () -> x.poke(i, 0));
        }
        for (int v : new int[] {-1, 256, Integer.MIN_VALUE, Integer.MAX_VALUE}) {
            CHECKS.illegalArgument("poke(0, " + v + ")", () -> x.poke(0, v));
        }
        CHECKS.due("byteAt(0)", x.byteAt(0), 1);
    }

    private static void verifySizes() {
        FaultIsolation x = new FaultIsolation(0);
        for (int n = 0; n <= 64; n++) {
            x.bundles(n);
            boolean power = n == 1 || n == 2 || n == 4 || n == 8 || n == 16 || n == 32 || n == 64;
            CHECKS.due("verify() of " + n, x.verify(), power ? -1 : 16 * n);
        }
        x.bundles(3);
        x.poke(0, 200);
        CHECKS.due("the size goes before the instructions", x.verify(), 48);
        x.bundles(4);
        CHECKS.due("verify()", x.verify(), 0);
    }

    private static void verifyWords() {
        for (int word = 0; word < 256; word++) {
            FaultIsolation x = Made.bytes(0, 1);
            x.poke(12, word);
            boolean bare = word <= 17 && word != 10 && word != 11 && word != 14;
            CHECKS.due("verify() of word " + word, x.verify(), bare ? -1 : 12);
        }
    }

    private static void verifyRegisters() {
        int[] registers = {0, 1, 3, 3, 3, 3, 3, 3, 3, 2, -1, -1, 0, 1, -1, 0, 1, 1};
        for (int word = 0; word <= 17; word++) {
            if (registers[word] < 0) {
                continue;
            }
            for (int at = 1; at <= 3; at++) {
                FaultIsolation x = Made.bytes(0, 2);
                boolean jump = word == 12 || word == 13 || word == 15;
                for (int r : new int[] {6, 7, 8, 255}) {
                    Made.pokeAll(x, 28, word, 0, 0, 0);
                    x.poke(28 + at, r);
                    boolean taken = at <= registers[word] ? r <= 7 : !jump || at == 1;
                    CHECKS.due("verify() of " + word + ", " + at + " being " + r, x.verify(), taken ? -1 : 28);
                }
            }
        }
        FaultIsolation x = Made.bytes(0, 1);
        Made.pokeAll(x, 0, 16, 6, 3, 255, 17, 6, 0, 0, 10, 8, 6, 0);
        CHECKS.due("verify() of LOAD 8", x.verify(), 8);
        x.poke(9, 7);
        CHECKS.due("verify() of LOAD 7", x.verify(), -1);
    }

    private static void verifyJumps() {
        for (int word : new int[] {12, 13, 15}) {
            for (int n = 0; n < 65536; n += n < 1100 ? 1 : 997) {
                FaultIsolation x = Made.bytes(0, 32);
                Made.pokeAll(x, 12, word, 0, n / 256, n % 256);
                CHECKS.due("verify() of " + word + " to " + n, x.verify(), n % 16 == 0 && n < 512 ? -1 : 12);
            }
        }
    }

    private static void verifyCallIsLast() {
        for (int address = 0; address < 64; address += 4) {
            FaultIsolation x = Made.bytes(0, 4);
            x.poke(address, 15);
            CHECKS.due("verify() of CALL at " + address, x.verify(), address % 16 == 12 ? -1 : address);
        }
    }

    private static void verifyLoadAndStore() {
        for (int region = 0; region < 4; region++) {
            for (int word = 10; word <= 11; word++) {
                FaultIsolation x = Made.bytes(region, 2);
                int[] good = {16, 6, 3, 255, 17, 6, 4 * region, 0, word, 2, 6, 0};
                Made.pokeAll(x, 4, good);
                CHECKS.due("verify()", x.verify(), -1);
                for (int i = 0; i < good.length; i++) {
                    // its word and its A may be others
                    if (i == 8 || i == 9) {
                        continue;
                    }
                    x.poke(4 + i, good[i] ^ 1);
                    CHECKS.due("verify() with another number at " + i, x.verify(), 12);
                    x.poke(4 + i, good[i]);
                }
                Made.pokeAll(x, 4, 17, 6, 4 * region, 0, 16, 6, 3, 255);
                CHECKS.due("verify() in the other order", x.verify(), 12);
                FaultIsolation over = Made.bytes(region, 2);
                Made.pokeAll(over, 8, good);
                CHECKS.due("verify() over a bundle's end", over.verify(), 16);
                FaultIsolation over2 = Made.bytes(region, 2);
                Made.pokeAll(over2, 12, good);
                CHECKS.due("verify() over a bundle's end", over2.verify(), 20);
                FaultIsolation between = Made.bytes(region, 1);
                Made.pokeAll(between, 0, 16, 6, 3, 255, 17, 6, 4 * region, 0, 6, 0, 0, 0, word, 2, 6, 0);
                CHECKS.due("verify() with one between", between.verify(), 12);
                FaultIsolation first = Made.bytes(region, 1);
                Made.pokeAll(first, 0, word, 2, 6, 0);
                CHECKS.due("verify() of the first", first.verify(), 0);
            }
        }
    }

    private static void verifyTo() {
        for (int n = 1; n <= 64; n *= 2) {
            int mask = 16 * n - 16;
            FaultIsolation x = Made.bytes(0, n);
            int[] good = {16, 6, mask / 256, mask % 256, 14, 6, 9, 9};
            Made.pokeAll(x, 8, good);
            CHECKS.due("verify() of TO", x.verify(), -1);
            for (int i = 1; i < 6; i++) {
                // its word may be another
                if (i == 4) {
                    continue;
                }
                x.poke(8 + i, good[i] ^ 1);
                CHECKS.due("verify() of TO with another number at " + i, x.verify(), 12);
                x.poke(8 + i, good[i]);
            }
            x.poke(8, 17);
            CHECKS.due("verify() of TO behind ORN", x.verify(), 12);
            FaultIsolation early = Made.bytes(0, n);
            Made.pokeAll(early, 0, good);
            CHECKS.due("verify() of TO as the second", early.verify(), -1);
            FaultIsolation first = Made.bytes(0, n);
            Made.pokeAll(first, 0, 14, 6, 0, 0);
            CHECKS.due("verify() of TO as the first", first.verify(), 0);
            if (n > 1) {
                FaultIsolation over = Made.bytes(0, n);
                Made.pokeAll(over, 12, good);
                CHECKS.due("verify() of TO over a bundle's end", over.verify(), 16);
            }
        }
    }

    private static void verifyIsOfTheFirst() {
        FaultIsolation x = Made.bytes(0, 64);
        for (int address = 1020; address >= 0; address -= 12) {
            x.poke(address, 18);
            CHECKS.due("verify()", x.verify(), address);
        }
    }
}
