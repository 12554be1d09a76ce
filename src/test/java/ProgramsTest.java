/** Promises 1 (no program) and 2 to 7: add, set, cut, wrong, rewrite, place. */
public final class ProgramsTest {
    private static final Checks CHECKS = new Checks();
    private static final int[] NOT_BYTES = {-1, 256, Integer.MIN_VALUE, Integer.MAX_VALUE};

    public static void main(String[] args) {
        newObject();
        addTakesAnyBytes();
        addRefuses();
        setChanges();
        setRefuses();
        cutTakesAway();
        wrongWords();
        wrongRegisters();
        wrongPlaces();
        rewriteEachWord();
        rewriteFillsForOneBundle();
        rewriteFillsForTargets();
        rewriteForgetsOldTargets();
        rewriteFillsBeforeCall();
        rewriteSizes();
        rewriteMasks();
        rewriteRefuses();
        rewriteReplacesAll();
        rewriteOfTheLongest();
        placeIsOfTheLastRewriting();
        placeRefuses();
        CHECKS.end();
    }

    private static FaultIsolation program(int... numbers) {
        FaultIsolation x = new FaultIsolation(1);
        for (int i = 0; i + 3 < numbers.length; i += 4) {
            CHECKS.due("add", x.add(numbers[i], numbers[i + 1], numbers[i + 2], numbers[i + 3]), i / 4);
        }
        return x;
    }

    private static void newObject() {
        FaultIsolation x = new FaultIsolation(2);
        CHECKS.due("wrong() of none", x.wrong(), 0);
        CHECKS.due("cut(0) of none", x.cut(0), 0);
        CHECKS.illegalArgument("cut(1) of none", () -> x.cut(1));
        CHECKS.illegalArgument("place(0) of none", () -> x.place(0));
        CHECKS.illegalState("rewrite() of none", x::rewrite);
    }

    private static void addTakesAnyBytes() {
        FaultIsolation x = program(255, 255, 255, 255, 0, 0, 0, 0);
        CHECKS.due("wrong()", x.wrong(), 0);
        for (int i = 2; i < 60; i++) {
            CHECKS.due("add", x.add(i, i, i, i), i);
        }
    }

    private static void addRefuses() {
        FaultIsolation x = program(0, 0, 0, 0);
        for (int v : NOT_BYTES) {
            CHECKS.illegalArgument("add word " + v, () -> x.add(v, 0, 0, 0));
            CHECKS.illegalArgument("add a " + v, () -> x.add(0, v, 0, 0));
            CHECKS.illegalArgument("add b " + v, () -> x.add(0, 0, v, 0));
            CHECKS.illegalArgument("add c " + v, () -> x.add(0, 0, 0, v));
        }
        CHECKS.due("cut(0)", x.cut(0), 1);
        for (int i = 1; i < 60; i++) {
            x.add(0, 0, 0, 0);
        }
        CHECKS.illegalState("add beyond 60", () -> x.add(0, 0, 0, 0));
        CHECKS.illegalArgument("a wrong number beyond 60", () -> x.add(0, 0, 0, 256));
        CHECKS.due("cut(0) at 60", x.cut(0), 60);
        CHECKS.due("cut(1)", x.cut(1), 59);
        CHECKS.due("add again", x.add(0, 0, 0, 0), 59);
    }

    private static void setChanges() {
        FaultIsolation x = program(0, 0, 0, 0, 0, 0, 0, 0, 0, 0, 0, 0);
        x.set(1, 1, 2, 3, 4);
        x.set(2, 9, 5, 4, 255);
        x.rewrite();
        CHECKS.code(x, 0, 0, 0, 0, 0, 1, 2, 3, 4, 9, 5, 4, 255, 0, 0, 0, 0);
        x.set(1, 255, 255, 255, 255);
        CHECKS.due("wrong()", x.wrong(), 1);
    }

    private static void setRefuses() {
        FaultIsolation x = program(1, 1, 1, 1, 1, 2, 2, 2);
        for (int place : new int[] {-1, 2, 60, Integer.MIN_VALUE, Integer.MAX_VALUE}) {
            CHECKS.illegalSet(x, place, 0, 0, 0, 0);
        }
        for (int v : NOT_BYTES) {
            CHECKS.illegalSet(x, 0, v, 0, 0, 0);
            CHECKS.illegalSet(x, 0, 0, v, 0, 0);
            CHECKS.illegalSet(x, 1, 0, 0, v, 0);
            CHECKS.illegalSet(x, 1, 0, 0, 0, v);
        }
        x.rewrite();
        CHECKS.code(x, 0, 1, 1, 1, 1, 1, 2, 2, 2);
        x.cut(1);
        CHECKS.illegalSet(x, 1, 0, 0, 0, 0);
    }

    private static void cutTakesAway() {
        FaultIsolation x = program(1, 0, 0, 1, 1, 1, 0, 2, 1, 2, 0, 3);
        CHECKS.illegalArgument("cut(-1)", () -> x.cut(-1));
        CHECKS.illegalArgument("cut(4)", () -> x.cut(4));
        CHECKS.illegalArgument("cut(least)", () -> x.cut(Integer.MIN_VALUE));
        CHECKS.illegalArgument("cut(most)", () -> x.cut(Integer.MAX_VALUE));
        CHECKS.due("cut(0)", x.cut(0), 3);
        CHECKS.due("cut(2)", x.cut(2), 1);
        CHECKS.due("run", x.run(true, 0, 9), 2);
        CHECKS.told(x, 4, 1);
        x.rewrite();
        CHECKS.code(x, 0, 1, 0, 0, 1, 0, 0, 0, 0, 0, 0, 0, 0);
        CHECKS.due("cut(1)", x.cut(1), 0);
        CHECKS.due("wrong()", x.wrong(), 0);
        CHECKS.due("add", x.add(0, 0, 0, 0), 0);
    }

    private static void wrongWords() {
        for (int word = 0; word < 256; word++) {
            FaultIsolation x = program(0, 0, 0, 0, word, 0, 0, 0);
            CHECKS.due("wrong() of word " + word, x.wrong(), word <= 15 || word == 18 ? -1 : 1);
        }
        FaultIsolation x = program(17, 0, 0, 0, 0, 0, 0, 0, 16, 0, 0, 0);
        CHECKS.due("wrong() is the first", x.wrong(), 0);
    }

    private static void wrongRegisters() {
        int[] registers = {0, 1, 3, 3, 3, 3, 3, 3, 3, 2, 2, 2, 0, 1, 1, 0, -1, -1, 1};
        for (int word = 0; word <= 18; word++) {
            if (registers[word] < 0) {
                continue;
            }
            FaultIsolation x = new FaultIsolation(1);
            Made.addTimes(x, 60, 0, 0, 0, 0);
            for (int r : new int[] {0, 5, 6, 7, 8, 255}) {
                boolean bad = r == 6 || r > 7;
                x.set(3, word, r, 0, 0);
                CHECKS.due("A of " + word + " is " + r, x.wrong(), bad && registers[word] >= 1 ? 3 : -1);
                x.set(3, word, 0, 0, r);
                boolean far = r > 59 && (word == 12 || word == 13 || word == 15 || word == 18);
                CHECKS.due("C of " + word + " is " + r, x.wrong(), bad && registers[word] >= 3 || far ? 3 : -1);
                if (registers[word] >= 2 || word < 2) {
                    x.set(3, word, 0, r, 0);
                    CHECKS.due("B of " + word + " is " + r, x.wrong(), bad && registers[word] >= 2 ? 3 : -1);
                }
            }
        }
    }

    private static void wrongPlaces() {
        for (int word : new int[] {12, 13, 15, 18}) {
            FaultIsolation x = program(word, 0, 0, 1, 0, 0, 0, 0);
            CHECKS.due("the last place, " + word, x.wrong(), -1);
            x.set(0, word, 0, 0, 2);
            CHECKS.due("behind the last, " + word, x.wrong(), 0);
            x.set(0, word, 0, 1, 0);
            CHECKS.due("256, " + word, x.wrong(), 0);
            x.set(0, word, 0, 255, 255);
            CHECKS.due("65535, " + word, x.wrong(), 0);
            x.set(0, word, 0, 0, 1);
            x.cut(1);
            CHECKS.due("cut away, " + word, x.wrong(), 0);
        }
        FaultIsolation y = program(1, 0, 255, 255, 14, 0, 255, 255, 9, 0, 0, 255);
        CHECKS.due("N of others is no place", y.wrong(), -1);
    }

    private static void rewriteEachWord() {
        for (int word = 0; word <= 9; word++) {
            FaultIsolation x = program(word, 1, 2, 3);
            CHECKS.due("rewrite() of " + word, x.rewrite(), 1);
            CHECKS.code(x, 0, word, 1, 2, 3, 0, 0, 0, 0, 0, 0, 0, 0, 0, 0, 0, 0);
        }
        for (int word = 10; word <= 11; word++) {
            FaultIsolation x = program(word, 3, 7, 200);
            CHECKS.due("rewrite() of " + word, x.rewrite(), 2);
            CHECKS.code(x, 0, 9, 6, 7, 200, 16, 6, 3, 255, 17, 6, 4, 0, word, 3, 6, 0, 0, 0, 0, 0);
        }
        FaultIsolation to = program(14, 7, 0, 0);
        CHECKS.due("rewrite() of TO", to.rewrite(), 1);
        CHECKS.code(to, 0, 6, 6, 7, 7, 16, 6, 0, 0, 14, 6, 0, 0, 0, 0, 0, 0);
        FaultIsolation label = program(0, 0, 0, 0, 18, 5, 0, 1);
        CHECKS.due("rewrite() of LABEL", label.rewrite(), 2);
        CHECKS.code(label, 16, 1, 5, 0, 16, 0, 0, 0, 0);
        FaultIsolation go = program(0, 255, 255, 255, 12, 99, 0, 1);
        go.rewrite();
        CHECKS.code(go, 0, 0, 255, 255, 255, 6, 0, 0, 0, 6, 0, 0, 0, 6, 0, 0, 0, 12, 99, 0, 16);
        FaultIsolation zero = program(0, 0, 0, 0, 13, 4, 0, 1);
        zero.rewrite();
        CHECKS.code(zero, 16, 13, 4, 0, 16);
    }

    private static void rewriteFillsForOneBundle() {
        FaultIsolation x = program(1, 0, 0, 1, 11, 0, 1, 2, 1, 1, 0, 1, 14, 1, 0, 0, 1, 1, 0, 1, 1, 1, 0, 2, 14, 2, 0, 0);
        CHECKS.due("rewrite()", x.rewrite(), 8);
        int[] at = {0, 4, 32, 36, 48, 52, 56};
        for (int i = 0; i < at.length; i++) {
            CHECKS.due("place(" + i + ")", x.place(i), at[i]);
        }
        CHECKS.code(x, 0, 1, 0, 0, 1, 6, 0, 0, 0, 6, 0, 0, 0, 6, 0, 0, 0);
        CHECKS.code(x, 16, 9, 6, 1, 2, 16, 6, 3, 255, 17, 6, 4, 0, 11, 0, 6, 0);
        CHECKS.code(x, 32, 1, 1, 0, 1, 6, 6, 1, 1, 16, 6, 0, 112, 14, 6, 0, 0);
        CHECKS.code(x, 48, 1, 1, 0, 1, 1, 1, 0, 2, 6, 0, 0, 0, 6, 0, 0, 0);
        CHECKS.code(x, 64, 6, 6, 2, 2, 16, 6, 0, 112, 14, 6, 0, 0, 0, 0, 0, 0);
        CHECKS.due("verify()", x.verify(), -1);
    }

    private static void rewriteFillsForTargets() {
        FaultIsolation x = program(12, 0, 0, 2, 1, 0, 0, 1, 13, 1, 0, 3, 18, 2, 0, 5, 0, 0, 0, 0, 10, 1, 2, 3);
        CHECKS.due("rewrite()", x.rewrite(), 8);
        int[] at = {0, 4, 16, 32, 36, 48};
        for (int i = 0; i < at.length; i++) {
            CHECKS.due("place(" + i + ")", x.place(i), at[i]);
        }
        CHECKS.code(x, 0, 12, 0, 0, 16, 1, 0, 0, 1, 6, 0, 0, 0, 6, 0, 0, 0);
        CHECKS.code(x, 16, 13, 1, 0, 32, 6, 0, 0, 0, 6, 0, 0, 0, 6, 0, 0, 0);
        CHECKS.code(x, 32, 1, 2, 0, 48, 0, 0, 0, 0, 6, 0, 0, 0, 6, 0, 0, 0);
        CHECKS.code(x, 48, 9, 6, 2, 3);
        CHECKS.code(x, 64, 0, 0, 0, 0);
    }

    private static void rewriteForgetsOldTargets() {
        FaultIsolation x = program(13, 0, 0, 0, 12, 0, 0, 2, 0, 0, 0, 0);
        CHECKS.due("rewrite()", x.rewrite(), 2);
        CHECKS.due("place(2)", x.place(2), 16);
        x.set(1, 18, 0, 0, 0);
        CHECKS.due("rewrite() with no way to 2", x.rewrite(), 1);
        CHECKS.due("place(2)", x.place(2), 8);
    }

    private static void rewriteFillsBeforeCall() {
        FaultIsolation x = program(15, 7, 0, 2, 1, 0, 0, 1, 15, 0, 0, 0, 0, 0, 0, 0);
        CHECKS.due("rewrite()", x.rewrite(), 4);
        int[] at = {0, 16, 32, 48};
        for (int i = 0; i < at.length; i++) {
            CHECKS.due("place(" + i + ")", x.place(i), at[i]);
        }
        CHECKS.code(x, 0, 6, 0, 0, 0, 6, 0, 0, 0, 6, 0, 0, 0, 15, 7, 0, 32);
        CHECKS.code(x, 16, 1, 0, 0, 1, 6, 0, 0, 0, 6, 0, 0, 0, 6, 0, 0, 0);
        CHECKS.code(x, 32, 6, 0, 0, 0, 6, 0, 0, 0, 6, 0, 0, 0, 15, 0, 0, 0);
        CHECKS.code(x, 48, 0, 0, 0, 0);
        FaultIsolation y = program(1, 0, 0, 1, 1, 0, 0, 2, 1, 0, 0, 3, 15, 0, 0, 0);
        CHECKS.due("rewrite() of a CALL that needs nothing", y.rewrite(), 2);
        CHECKS.due("place(3)", y.place(3), 12);
        CHECKS.code(y, 12, 15, 0, 0, 0, 0, 0, 0, 0);
    }

    private static void rewriteSizes() {
        for (int n = 1; n <= 60; n++) {
            FaultIsolation x = new FaultIsolation(0);
            Made.addTimes(x, n, 1, 0, 0, n);
            int bundles = (n + 1 + 3) / 4;
            int want = bundles <= 1 ? 1 : bundles <= 2 ? 2 : bundles <= 4 ? 4 : bundles <= 8 ? 8 : 16;
            CHECKS.due("rewrite() of " + n, x.rewrite(), want);
            CHECKS.due("size() of " + n, x.size(), 16 * want);
            CHECKS.code(x, 4 * n - 4, 1, 0, 0, n, 0, 0, 0, 0);
            CHECKS.due("verify() of " + n, x.verify(), -1);
        }
    }

    private static void rewriteMasks() {
        for (int region = 0; region < 4; region++) {
            for (int n = 1; n < 59; n++) {
                FaultIsolation x = Made.program(region, 10, 0, 1, 2, 14, 0, 0, 0);
                Made.addTimes(x, n, 10, 0, 1, 2);
                int bundles = x.rewrite();
                CHECKS.code(x, 8, 17, 6, 4 * region, 0);
                CHECKS.code(x, 20, 16, 6, (16 * bundles - 16) / 256, (16 * bundles - 16) % 256);
                CHECKS.due("verify()", x.verify(), -1);
            }
        }
    }

    private static void rewriteRefuses() {
        FaultIsolation x = program(1, 1, 1, 1);
        x.rewrite();
        x.add(16, 0, 0, 0);
        CHECKS.illegalState("rewrite() of ANDN", x::rewrite);
        x.set(1, 2, 0, 0, 6);
        CHECKS.illegalState("rewrite() of register 6", x::rewrite);
        x.set(1, 12, 0, 0, 2);
        CHECKS.illegalState("rewrite() of no place", x::rewrite);
        CHECKS.due("size() stays", x.size(), 16);
        CHECKS.code(x, 0, 1, 1, 1, 1, 0, 0, 0, 0);
        CHECKS.due("place(0) stays", x.place(0), 0);
        CHECKS.illegalArgument("place(1)", () -> x.place(1));
        x.cut(2);
        CHECKS.illegalState("rewrite() of none", x::rewrite);
        CHECKS.due("place(0) stays", x.place(0), 0);
    }

    private static void rewriteReplacesAll() {
        FaultIsolation x = program(0, 0, 0, 0);
        x.bundles(64);
        for (int i = 0; i < 1024; i += 5) {
            x.poke(i, 201);
        }
        CHECKS.due("rewrite()", x.rewrite(), 1);
        CHECKS.due("size()", x.size(), 16);
        x.bundles(64);
        for (int i = 0; i < 1024; i += 5) {
            CHECKS.due("byteAt(" + i + ")", x.byteAt(i), 0);
        }
    }

    private static void rewriteOfTheLongest() {
        FaultIsolation x = new FaultIsolation(3);
        for (int i = 0; i < 60; i++) {
            x.add(15, 0, 0, i);
        }
        CHECKS.due("rewrite() of 60 CALLs", x.rewrite(), 64);
        CHECKS.due("place(59)", x.place(59), 944);
        CHECKS.code(x, 940, 15, 0, 3, 160, 6, 0, 0, 0, 6, 0, 0, 0, 6, 0, 0, 0, 15, 0, 3, 176, 0, 0, 0, 0);
        CHECKS.due("verify()", x.verify(), -1);
    }

    private static void placeIsOfTheLastRewriting() {
        FaultIsolation x = program(1, 0, 0, 0, 10, 0, 0, 0, 0, 0, 0, 0);
        x.rewrite();
        x.cut(3);
        x.add(0, 0, 0, 0);
        x.poke(0, 7);
        x.run(false, 0, 5);
        x.clear();
        CHECKS.due("place(0)", x.place(0), 0);
        CHECKS.due("place(1)", x.place(1), 4);
        CHECKS.due("place(2)", x.place(2), 32);
        x.rewrite();
        CHECKS.due("place(0)", x.place(0), 0);
        CHECKS.illegalArgument("place(1) is of the rewriting before", () -> x.place(1));
    }

    private static void placeRefuses() {
        FaultIsolation x = program(0, 0, 0, 0, 0, 0, 0, 0);
        CHECKS.illegalArgument("place(0) before rewriting", () -> x.place(0));
        x.rewrite();
        for (int i : new int[] {-1, 2, 59, 60, 61, Integer.MIN_VALUE, Integer.MAX_VALUE}) {
            CHECKS.illegalArgument("place(" + i + ")", () -> x.place(i));
        }
        CHECKS.due("place(1)", x.place(1), 4);
        CHECKS.illegalBundles(x, 65);
        CHECKS.due("place(1) is not forgotten", x.place(1), 4);
        x.bundles(1);
        CHECKS.illegalArgument("place(0) is forgotten", () -> x.place(0));
        CHECKS.due("rewrite()", x.rewrite(), 1);
        CHECKS.due("place(1) is told anew", x.place(1), 4);
    }
}
