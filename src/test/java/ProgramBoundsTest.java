/**
 * Boundary cases of promises 1 to 7 and of "PROGRAM", "SOUND" and "REWRITING" under "Terms": a test for each sentence
 * that names one. The sentence stands above its test. That refused calls change nothing is in RefusedCallsTest.
 */
public final class ProgramBoundsTest {
    private static final Checks CHECKS = new Checks();
    private static final int[] PLACED = {12, 13, 15, 18};

    public static void main(String[] args) {
        regionBelowAndAbove();
        newObjectIsEmpty();
        theLastCallThatIsPromised();
        addGivesTheNextPlace();
        addTakesWhatIsNotSound();
        addTakes0To255();
        addTakes60();
        setChangesThatOneAlone();
        setNeedsAPlaceThatIsThere();
        cutTakesTheLastOnes();
        cutTakes0ToAll();
        wrongOfNone();
        wrongIsTheFirst();
        wrongOfASoundProgram();
        wordsOfPrograms();
        registersOfPrograms();
        placesOfPrograms();
        addressesOfPrograms();
        masked();
        jumpsByRegister();
        othersStay();
        oneBundle();
        ledToBeginsABundle();
        ledToByEachOfFour();
        callIsTheLast();
        behindCall();
        newAddressOfWhatLeadsToItself();
        newAddressAbove255();
        haltBehindAll();
        nextPowerOf2();
        mask();
        neverTooLong();
        rewriteNeedsASoundProgram();
        rewriteTakesThePlaceOfAllBytes();
        rewriteAgain();
        placeOfWhatWasRewrittenLast();
        placeOfNoneSuch();
        CHECKS.end();
    }

    /** "BASE is 1024 times so much (below 0 counts as 0, above 3 as 3)" */
    private static void regionBelowAndAbove() {
        int[][] regions = {{Integer.MIN_VALUE, 0}, {-1, 0}, {0, 0}, {1, 4}, {2, 8}, {3, 12}, {4, 12}, {Integer.MAX_VALUE, 12}};
        for (int[] region : regions) {
            FaultIsolation x = Made.program(region[0], 10, 0, 0, 0);
            x.rewrite();
            CHECKS.code(x, 8, 17, 6, region[1], 0);
            CHECKS.due("verify() in region " + region[0], x.verify(), -1);
        }
    }

    /** "no program, no bytes, registers and memory are 0" */
    private static void newObjectIsEmpty() {
        FaultIsolation x = new FaultIsolation(3);
        CHECKS.due("cut(0)", x.cut(0), 0);
        CHECKS.due("size()", x.size(), 0);
        for (int r = 0; r < 8; r++) {
            CHECKS.due("registerAt(" + r + ")", x.registerAt(r), 0);
        }
        for (int from = 0; from < 4096; from += 256) {
            FaultIsolation y = new FaultIsolation(3);
            for (int i = from; i < from + 256; i++) {
                CHECKS.due("memoryAt(" + i + ")", y.memoryAt(i), 0);
            }
        }
    }

    /** "An object is used for at most 512 calls after it has been made" */
    private static void theLastCallThatIsPromised() {
        FaultIsolation x = new FaultIsolation(0);
        for (int i = 1; i < 512; i++) {
            CHECKS.due("register(3, " + i + ")", x.register(3, i), i - 1);
        }
        CHECKS.due("registerAt(3) is the 512th call", x.registerAt(3), 511);
    }

    /** "An instruction behind the program's others, also one that is not sound: its place." */
    private static void addGivesTheNextPlace() {
        FaultIsolation x = new FaultIsolation(0);
        for (int i = 0; i < 60; i++) {
            CHECKS.due("add", x.add(1, 0, 0, i), i);
        }
        x.rewrite();
        for (int i = 0; i < 60; i++) {
            CHECKS.code(x, 4 * i, 1, 0, 0, i);
        }
    }

    /** "An instruction behind the program's others, also one that is not sound: its place." */
    private static void addTakesWhatIsNotSound() {
        FaultIsolation x = new FaultIsolation(0);
        CHECKS.due("add of ANDN", x.add(16, 0, 0, 0), 0);
        CHECKS.due("add of register 6", x.add(1, 6, 0, 0), 1);
        CHECKS.due("add of register 8", x.add(1, 8, 0, 0), 2);
        CHECKS.due("add of no place", x.add(12, 0, 255, 255), 3);
        CHECKS.due("add of word 255", x.add(255, 255, 255, 255), 4);
        CHECKS.due("wrong()", x.wrong(), 0);
    }

    /** "Illegal argument: a number is not 0 .. 255" */
    private static void addTakes0To255() {
        FaultIsolation x = new FaultIsolation(0);
        CHECKS.due("add of 0s", x.add(0, 0, 0, 0), 0);
        CHECKS.due("add of 255s", x.add(255, 255, 255, 255), 1);
        for (int v : new int[] {-1, 256}) {
            CHECKS.illegalArgument("word " + v, () -> x.add(v, 1, 1, 1));
            CHECKS.illegalArgument("a " + v, () -> x.add(1, v, 1, 1));
            CHECKS.illegalArgument("b " + v, () -> x.add(1, 1, v, 1));
            CHECKS.illegalArgument("c " + v, () -> x.add(1, 1, 1, v));
        }
        CHECKS.due("add behind refused ones", x.add(1, 1, 1, 1), 2);
    }

    /** "illegal state: there are 60", and "Of several exceptions the one named first is thrown" */
    private static void addTakes60() {
        FaultIsolation x = new FaultIsolation(0);
        Made.addTimes(x, 59, 0, 0, 0, 0);
        CHECKS.due("the 60th", x.add(0, 0, 0, 0), 59);
        CHECKS.illegalState("the 61st", () -> x.add(0, 0, 0, 0));
        CHECKS.illegalArgument("the 61st with a wrong number", () -> x.add(256, 0, 0, 0));
        CHECKS.due("there are 60", x.cut(0), 60);
        CHECKS.due("cut(1)", x.cut(1), 59);
        CHECKS.due("the 60th again", x.add(0, 0, 0, 0), 59);
        CHECKS.illegalState("the 61st again", () -> x.add(0, 0, 0, 0));
    }

    /** "The program's instruction at a place becomes another one." */
    private static void setChangesThatOneAlone() {
        FaultIsolation x = new FaultIsolation(0);
        Made.addTimes(x, 60, 1, 1, 1, 1);
        x.set(0, 0, 0, 0, 0);
        x.set(59, 9, 2, 3, 255);
        x.rewrite();
        CHECKS.code(x, 0, 0, 0, 0, 0, 1, 1, 1, 1);
        CHECKS.code(x, 232, 1, 1, 1, 1, 9, 2, 3, 255, 0, 0, 0, 0);
        CHECKS.due("there are 60", x.cut(0), 60);
        x.set(59, 255, 255, 255, 255);
        CHECKS.due("wrong()", x.wrong(), 59);
    }

    /** "Illegal argument: also if there is none." */
    private static void setNeedsAPlaceThatIsThere() {
        FaultIsolation x = new FaultIsolation(0);
        CHECKS.illegalSet(x, 0, 0, 0, 0, 0);
        x.add(1, 1, 1, 1);
        x.set(0, 0, 0, 0, 0);
        CHECKS.illegalSet(x, 1, 0, 0, 0, 0);
        CHECKS.illegalSet(x, -1, 0, 0, 0, 0);
        Made.addTimes(x, 59, 1, 1, 1, 1);
        x.set(59, 0, 0, 0, 0);
        CHECKS.illegalSet(x, 60, 0, 0, 0, 0);
        x.cut(1);
        CHECKS.illegalSet(x, 59, 0, 0, 0, 0);
        for (int v : new int[] {-1, 256}) {
            CHECKS.illegalSet(x, 0, v, 0, 0, 0);
            CHECKS.illegalSet(x, 0, 0, v, 0, 0);
            CHECKS.illegalSet(x, 0, 0, 0, v, 0);
            CHECKS.illegalSet(x, 0, 0, 0, 0, v);
        }
    }

    /** "The last n instructions go: how many there are." */
    private static void cutTakesTheLastOnes() {
        FaultIsolation x = Made.program(0, 1, 1, 0, 1, 1, 2, 0, 2, 1, 3, 0, 3, 1, 4, 0, 4);
        CHECKS.due("cut(2) of 4", x.cut(2), 2);
        CHECKS.due("add", x.add(0, 0, 0, 0), 2);
        x.rewrite();
        CHECKS.code(x, 0, 1, 1, 0, 1, 1, 2, 0, 2, 0, 0, 0, 0, 0, 0, 0, 0);
        CHECKS.due("run", x.run(true, 0, 9), 1);
        CHECKS.told(x, 8, 3);
    }

    /** "Illegal argument: n is below 0, or more than there are." */
    private static void cutTakes0ToAll() {
        FaultIsolation x = new FaultIsolation(0);
        CHECKS.due("cut(0) of none", x.cut(0), 0);
        CHECKS.illegalArgument("cut(1) of none", () -> x.cut(1));
        Made.addTimes(x, 60, 0, 0, 0, 0);
        CHECKS.illegalArgument("cut(-1)", () -> x.cut(-1));
        CHECKS.illegalArgument("cut(61)", () -> x.cut(61));
        CHECKS.due("cut(0)", x.cut(0), 60);
        CHECKS.due("cut(60)", x.cut(60), 0);
        CHECKS.illegalArgument("cut(1) of none again", () -> x.cut(1));
        CHECKS.due("add", x.add(0, 0, 0, 0), 0);
    }

    /** "0 if there is none at all" */
    private static void wrongOfNone() {
        FaultIsolation x = new FaultIsolation(0);
        CHECKS.due("wrong() of a new object", x.wrong(), 0);
        x.add(0, 0, 0, 0);
        CHECKS.due("wrong() of one", x.wrong(), -1);
        x.cut(1);
        CHECKS.due("wrong() of none again", x.wrong(), 0);
    }

    /** "The place of the first instruction that is not sound" */
    private static void wrongIsTheFirst() {
        FaultIsolation x = new FaultIsolation(0);
        Made.addTimes(x, 60, 0, 0, 0, 0);
        for (int place = 59; place >= 0; place--) {
            x.set(place, 16, 0, 0, 0);
            CHECKS.due("wrong()", x.wrong(), place);
        }
    }

    /** "NONE: the program is sound." */
    private static void wrongOfASoundProgram() {
        FaultIsolation x = new FaultIsolation(0);
        Made.addTimes(x, 60, 12, 255, 0, 59);
        CHECKS.due("wrong()", x.wrong(), FaultIsolation.NONE);
    }

    /** "with words 0 to 15 and 18" */
    private static void wordsOfPrograms() {
        for (int word = 0; word < 256; word++) {
            FaultIsolation x = Made.program(0, 0, 0, 0, 0, word, 0, 0, 0);
            CHECKS.due("wrong() of word " + word, x.wrong(), word <= 15 || word == 18 ? -1 : 1);
        }
    }

    /** "registers (where an instruction has them) are 0 to 7 but not 6" */
    private static void registersOfPrograms() {
        int[] registers = {0, 1, 3, 3, 3, 3, 3, 3, 3, 2, 2, 2, 0, 1, 1, 0, -1, -1, 1};
        for (int word = 0; word <= 18; word++) {
            for (int at = 1; at <= 3 && registers[word] >= 0; at++) {
                for (int r : new int[] {0, 5, 6, 7, 8, 255}) {
                    // the next one's word is no register of this one
                    int[] it = {word, 0, 0, 0, 9, 0, 0, 0};
                    it[at] = r;
                    boolean place = at > 1 && (word == 12 || word == 13 || word == 15 || word == 18);
                    boolean bad = at <= registers[word] ? r == 6 || r > 7 : place && r > 1;
                    CHECKS.due("wrong() of " + word + " with " + r + " at " + at, Made.program(0, it).wrong(), bad ? 0 : -1);
                }
            }
        }
    }

    /** "N of GO, ZERO, CALL, LABEL are places (0 .. 59)"; "places are those of instructions" */
    private static void placesOfPrograms() {
        for (int word : PLACED) {
            FaultIsolation x = new FaultIsolation(0);
            Made.addTimes(x, 59, 0, 0, 0, 0);
            x.add(word, 0, 0, 59);
            CHECKS.due("59 of 60, " + word, x.wrong(), -1);
            x.set(59, word, 0, 0, 0);
            CHECKS.due("0 of 60, " + word, x.wrong(), -1);
            x.set(59, word, 0, 0, 60);
            CHECKS.due("60 of 60, " + word, x.wrong(), 59);
            x.set(59, word, 0, 1, 0);
            CHECKS.due("256 of 60, " + word, x.wrong(), 59);
            x.set(59, word, 0, 255, 255);
            CHECKS.due("65535 of 60, " + word, x.wrong(), 59);
            x.set(59, 0, 0, 0, 0);
            x.set(0, word, 0, 0, 59);
            CHECKS.due("59 of 60 from 0, " + word, x.wrong(), -1);
            x.cut(1);
            CHECKS.due("59 of 59, " + word, x.wrong(), 0);
        }
    }

    /** "instructions, whose addresses are 4 times their places" */
    private static void addressesOfPrograms() {
        FaultIsolation x = new FaultIsolation(0);
        Made.addTimes(x, 59, 12, 0, 0, 59);
        x.add(0, 0, 0, 0);
        CHECKS.due("run", x.run(true, 0, 9), 1);
        CHECKS.told(x, 236, 2);
        CHECKS.due("run at 236", x.run(true, 236, 1), 1);
        CHECKS.due("run at 240", x.run(true, 240, 1), 2);
    }

    /** "LOAD, STORE: MORE 6 B c; ANDN 6 1023; ORN 6 BASE; the same with 6 as B and 0 as c." */
    private static void masked() {
        for (int word = 10; word <= 11; word++) {
            for (int c : new int[] {0, 255}) {
                FaultIsolation x = Made.program(3, word, 7, 0, c);
                CHECKS.due("rewrite()", x.rewrite(), 2);
                CHECKS.code(x, 0, 9, 6, 0, c, 16, 6, 3, 255, 17, 6, 12, 0, word, 7, 6, 0, 0, 0, 0, 0);
            }
        }
    }

    /** "TO: OR 6 A A; ANDN 6 MASK; TO 6." */
    private static void jumpsByRegister() {
        for (int a : new int[] {0, 7}) {
            // its B and C mean nothing, and what is written is TO 6 alone
            FaultIsolation x = Made.program(0, 14, a, 255, 255);
            CHECKS.due("rewrite()", x.rewrite(), 1);
            CHECKS.code(x, 0, 6, 6, a, a, 16, 6, 0, 0, 14, 6, 0, 0, 0, 0, 0, 0);
        }
    }

    /** "All others stay." */
    private static void othersStay() {
        int[][] others = {{0, 255, 255, 255}, {1, 7, 255, 255}, {2, 7, 7, 7}, {3, 0, 7, 5}, {4, 1, 2, 3}, {5, 4, 5, 7},
            {6, 5, 4, 3}, {7, 2, 1, 0}, {8, 7, 0, 7}, {9, 7, 7, 255}};
        for (int[] other : others) {
            FaultIsolation x = Made.program(0, other);
            CHECKS.due("rewrite()", x.rewrite(), 1);
            CHECKS.code(x, 0, other);
            CHECKS.code(x, 4, 0, 0, 0, 0, 0, 0, 0, 0, 0, 0, 0, 0);
        }
    }

    /** So many SETs, then these instructions, rewritten. */
    private static FaultIsolation behind(int sets, int... numbers) {
        FaultIsolation x = new FaultIsolation(0);
        Made.addTimes(x, sets, 1, 1, 1, 1);
        Made.addAll(x, numbers);
        x.rewrite();
        return x;
    }

    private static void filled(FaultIsolation x, int from, int to) {
        for (int at = from; at < to; at += 4) {
            CHECKS.code(x, at, 6, 0, 0, 0);
        }
    }

    /** "What an instruction becomes lies in one bundle"; "Where that is not so the rest of the bundle .. is filled" */
    private static void oneBundle() {
        for (int sets = 0; sets <= 4; sets++) {
            int at = 4 * sets;
            FaultIsolation load = behind(sets, 10, 0, 1, 2);
            int first = sets == 0 || sets == 4 ? at : 16;
            CHECKS.due("place of LOAD behind " + sets, load.place(sets), at);
            filled(load, at, first);
            CHECKS.code(load, first, 9, 6, 1, 2, 16, 6, 3, 255, 17, 6, 0, 0, 10, 0, 6, 0, 0, 0, 0, 0);
            FaultIsolation to = behind(sets, 14, 2, 0, 0);
            first = sets == 2 || sets == 3 ? 16 : at;
            CHECKS.due("place of TO behind " + sets, to.place(sets), at);
            filled(to, at, first);
            CHECKS.code(to, first, 6, 6, 2, 2, 16, 6, 0, to.size() - 16, 14, 6, 0, 0);
            FaultIsolation set = behind(sets, 1, 2, 3, 4);
            CHECKS.due("place of SET behind " + sets, set.place(sets), at);
            CHECKS.code(set, at, 1, 2, 3, 4, 0, 0, 0, 0);
        }
    }

    /** "instructions to which a GO, ZERO, CALL or LABEL of the program leads begin a bundle" */
    private static void ledToBeginsABundle() {
        // each leads to itself or is led to by the GO behind it
        int[][] ones = {{1, 2, 3, 4}, {10, 0, 1, 2}, {14, 2, 0, 0}, {15, 0, 0, 0}};
        int[][] firsts = {{1, 2, 3, 4}, {9, 6, 1, 2}, {6, 6, 2, 2}, {6, 0, 0, 0}};
        for (int i = 0; i < ones.length; i++) {
            for (int sets = 0; sets <= 4; sets++) {
                FaultIsolation x = new FaultIsolation(0);
                Made.addTimes(x, sets, 1, 1, 1, 1);
                Made.addAll(x, ones[i]);
                Made.addAll(x, 12, 0, 0, sets);
                x.rewrite();
                int at = sets == 0 ? 0 : 16;
                CHECKS.due("place of " + ones[i][0] + " behind " + sets, x.place(sets), at);
                filled(x, 4 * sets, at);
                CHECKS.code(x, at, firsts[i]);
                CHECKS.code(x, x.place(sets + 1), 12, 0, 0, at);
                CHECKS.due("verify()", x.verify(), -1);
            }
        }
    }

    /** "instructions to which a GO, ZERO, CALL or LABEL of the program leads begin a bundle": none other does */
    private static void ledToByEachOfFour() {
        // LOAD and STORE fill a bundle, TO three quarters of it; 12, 13, 15 and 18 lead to it
        int[] secondBehind = {8, 8, 8, 8, 8, 8, 8, 8, 8, 8, 20, 20, 16, 16, 16, 32, -1, -1, 16};
        for (int word = 0; word <= 18; word++) {
            if (word == 16 || word == 17) {
                continue;
            }
            boolean leads = word == 12 || word == 13 || word == 15 || word == 18;
            FaultIsolation back = Made.program(0, 0, 0, 0, 0, 0, 0, 0, 0, word, 0, 0, 1);
            back.rewrite();
            CHECKS.due("place(1) with " + word + " behind it", back.place(1), leads ? 16 : 4);
            FaultIsolation forth = Made.program(0, word, 0, 0, 2, 0, 0, 0, 0, 0, 0, 0, 0);
            forth.rewrite();
            CHECKS.due("place(2) with " + word + " before it", forth.place(2), secondBehind[word]);
        }
    }

    /** "CALL is the last one in its bundle"; "(before CALL: what is needed) is filled with OR 0 0 0" */
    private static void callIsTheLast() {
        for (int sets = 0; sets <= 4; sets++) {
            FaultIsolation x = behind(sets, 15, 9, 0, 0);
            int call = sets == 4 ? 28 : 12;
            CHECKS.due("place of CALL behind " + sets, x.place(sets), 4 * sets);
            filled(x, 4 * sets, call);
            CHECKS.code(x, call, 15, 9, 0, 0, 0, 0, 0, 0);
            CHECKS.due("verify()", x.verify(), -1);
        }
    }

    /** "what comes behind it in the program begins the next one" */
    private static void behindCall() {
        int[][] ones = {{1, 2, 3, 4}, {10, 0, 1, 2}, {14, 2, 0, 0}, {15, 0, 0, 0}, {0, 0, 0, 0}};
        for (int[] one : ones) {
            for (int sets = 0; sets <= 3; sets++) {
                FaultIsolation x = new FaultIsolation(0);
                Made.addTimes(x, sets, 1, 1, 1, 1);
                Made.addAll(x, 15, 0, 0, 0);
                Made.addAll(x, one);
                x.rewrite();
                CHECKS.due("place of " + one[0] + " behind CALL", x.place(sets + 1), 16);
            }
        }
    }

    /** "LABEL: SET to the new address of that instruction. GO, ZERO, CALL: with its new address.": of itself too */
    private static void newAddressOfWhatLeadsToItself() {
        for (int word : PLACED) {
            FaultIsolation x = behind(1, word, 5, 0, 1);
            CHECKS.due("place(1)", x.place(1), 16);
            filled(x, 4, word == 15 ? 28 : 16);
            CHECKS.code(x, word == 15 ? 28 : 16, word == 18 ? 1 : word, 5, 0, 16);
        }
    }

    /** "LABEL: SET to the new address of that instruction. GO, ZERO, CALL: with its new address.": beyond a byte too */
    private static void newAddressAbove255() {
        for (int word : PLACED) {
            FaultIsolation x = new FaultIsolation(0);
            x.add(word, 5, 0, 59);
            Made.addTimes(x, 58, 10, 0, 0, 0);
            x.add(0, 0, 0, 0);
            CHECKS.due("rewrite()", x.rewrite(), 64);
            CHECKS.due("place(59)", x.place(59), 944);
            CHECKS.code(x, word == 15 ? 12 : 0, word == 18 ? 1 : word, 5, 3, 176);
        }
    }

    /** "Behind all comes a HALT; then HALTs": in a bundle of its own if the others are full */
    private static void haltBehindAll() {
        for (int sets = 1; sets <= 8; sets++) {
            FaultIsolation x = behind(sets);
            CHECKS.due("size() of " + sets, x.size(), sets <= 3 ? 16 : sets <= 7 ? 32 : 64);
            for (int at = 4 * sets; at < x.size(); at += 4) {
                CHECKS.code(x, at, 0, 0, 0, 0);
            }
            CHECKS.due("run", x.run(false, 0, 99), 1);
            CHECKS.told(x, 4 * sets, sets + 1);
        }
    }

    /** "up to as many bundles as the next power of 2 (1 at least, 64 at most; more would be TOO LONG)" */
    private static void nextPowerOf2() {
        FaultIsolation one = Made.program(0, 0, 0, 0, 0);
        CHECKS.due("rewrite() of one bundle", one.rewrite(), 1);
        // so many CALLs fill a bundle each, and the HALT is in one more
        int[][] sizes = {{1, 2}, {2, 4}, {3, 4}, {4, 8}, {7, 8}, {8, 16}, {15, 16}, {16, 32}, {31, 32}, {32, 64}, {60, 64}};
        for (int[] size : sizes) {
            FaultIsolation x = new FaultIsolation(0);
            Made.addTimes(x, size[0], 15, 0, 0, 0);
            CHECKS.due("rewrite() of " + size[0] + " CALLs", x.rewrite(), size[1]);
            CHECKS.due("size() of " + size[0] + " CALLs", x.size(), 16 * size[1]);
            CHECKS.code(x, 16 * size[0], 0, 0, 0, 0);
            CHECKS.code(x, 16 * size[1] - 4, 0, 0, 0, 0);
            CHECKS.due("verify()", x.verify(), -1);
        }
    }

    /** "MASK is the size of the bytes, less 16." */
    private static void mask() {
        // CALLs fill a bundle each, and TO with the HALT one more
        int[][] masks = {{0, 0}, {1, 16}, {2, 48}, {3, 48}, {7, 112}, {15, 240}, {16, 496}, {31, 496}, {32, 1008}, {59, 1008}};
        for (int[] mask : masks) {
            FaultIsolation x = new FaultIsolation(0);
            Made.addTimes(x, mask[0], 15, 0, 0, 0);
            x.add(14, 1, 0, 0);
            CHECKS.due("rewrite()", x.rewrite(), mask[1] / 16 + 1);
            CHECKS.code(x, 16 * mask[0], 6, 6, 1, 1, 16, 6, mask[1] / 256, mask[1] % 256, 14, 6, 0, 0, 0, 0, 0, 0);
            CHECKS.due("verify()", x.verify(), -1);
        }
    }

    /**
     * "LONG, changing nothing (place() neither)": no program of 60 can be so long, since each instruction, with what is
     * filled in before it, ends in the bundle behind the one before it at the latest. So the longest are not LONG.
     */
    private static void neverTooLong() {
        for (int word : new int[] {10, 11, 15}) {
            FaultIsolation x = new FaultIsolation(0);
            Made.addTimes(x, 60, word, 0, 0, 0);
            CHECKS.due("rewrite() of 60 of " + word, x.rewrite(), 64);
            CHECKS.due("place(59)", x.place(59), 944);
        }
        FaultIsolation targets = new FaultIsolation(0);
        for (int i = 0; i < 60; i++) {
            targets.add(13, 0, 0, i);
        }
        CHECKS.due("rewrite() of 60 that are led to", targets.rewrite(), 64);
        CHECKS.due("place(59)", targets.place(59), 944);
    }

    /** "Illegal state: the program is not sound." */
    private static void rewriteNeedsASoundProgram() {
        FaultIsolation none = new FaultIsolation(0);
        CHECKS.illegalState("rewrite() of none", none::rewrite);
        int[][] unsound = {{16, 0, 0, 0}, {17, 0, 0, 0}, {19, 0, 0, 0}, {255, 0, 0, 0}, {1, 6, 0, 0}, {2, 0, 8, 0}, {12, 0, 0, 2}};
        for (int[] one : unsound) {
            FaultIsolation x = Made.program(0, 0, 0, 0, 0);
            Made.addAll(x, one);
            CHECKS.illegalState("rewrite() of word " + one[0], x::rewrite);
            x.cut(1);
            CHECKS.due("rewrite() without it", x.rewrite(), 1);
        }
    }

    /** "Makes bytes of the program: how many bundles": others are no longer there */
    private static void rewriteTakesThePlaceOfAllBytes() {
        FaultIsolation x = Made.program(0, 0, 0, 0, 0);
        x.bundles(64);
        for (int i = 0; i < 1024; i += 15) {
            x.poke(i, 201);
        }
        CHECKS.due("rewrite()", x.rewrite(), 1);
        CHECKS.due("size()", x.size(), 16);
        CHECKS.code(x, 0, 0, 0, 0, 0, 0, 0, 0, 0, 0, 0, 0, 0, 0, 0, 0, 0);
        x.bundles(64);
        for (int i = 0; i < 1024; i += 15) {
            CHECKS.due("byteAt(" + i + ")", x.byteAt(i), 0);
        }
    }

    /** "Makes bytes of the program": of the one at hand, whatever was rewritten before */
    private static void rewriteAgain() {
        FaultIsolation x = Made.program(0, 1, 1, 0, 1, 1, 2, 0, 2, 12, 0, 0, 1);
        CHECKS.due("rewrite()", x.rewrite(), 2);
        CHECKS.due("place(1)", x.place(1), 16);
        for (int i = 0; i < 2; i++) {
            x.set(2, 1, 3, 0, 3);
            CHECKS.due("rewrite() with no way to 1", x.rewrite(), 1);
            CHECKS.due("place(1)", x.place(1), 4);
            CHECKS.code(x, 0, 1, 1, 0, 1, 1, 2, 0, 2, 1, 3, 0, 3, 0, 0, 0, 0);
            x.set(2, 12, 0, 0, 1);
            CHECKS.due("rewrite() with a way to 1", x.rewrite(), 2);
            CHECKS.due("place(1)", x.place(1), 16);
            CHECKS.code(x, 0, 1, 1, 0, 1, 6, 0, 0, 0, 6, 0, 0, 0, 6, 0, 0, 0, 1, 2, 0, 2, 12, 0, 0, 16, 0, 0, 0, 0);
        }
    }

    /** "The NEW ADDRESS of an instruction of the program as it was rewritten last." */
    private static void placeOfWhatWasRewrittenLast() {
        FaultIsolation x = Made.program(0, 1, 0, 0, 0, 15, 0, 0, 0, 0, 0, 0, 0);
        x.rewrite();
        x.set(1, 0, 0, 0, 0);
        x.cut(3);
        CHECKS.due("place(1) of what has gone", x.place(1), 4);
        CHECKS.due("place(2) of what has gone", x.place(2), 16);
        CHECKS.illegalState("rewrite() of none", x::rewrite);
        CHECKS.due("place(2) behind a refused one", x.place(2), 16);
        Made.addTimes(x, 2, 0, 0, 0, 0);
        CHECKS.due("place(2) before the next one", x.place(2), 16);
        x.rewrite();
        CHECKS.due("place(1) of the next one", x.place(1), 4);
        CHECKS.illegalArgument("place(2) of the one before", () -> x.place(2));
    }

    /** "Illegal argument: there was none such." */
    private static void placeOfNoneSuch() {
        FaultIsolation x = new FaultIsolation(0);
        CHECKS.illegalArgument("place(0) of a new object", () -> x.place(0));
        Made.addTimes(x, 59, 0, 0, 0, 0);
        CHECKS.illegalArgument("place(0) before rewriting", () -> x.place(0));
        x.rewrite();
        x.add(0, 0, 0, 0);
        CHECKS.due("place(0)", x.place(0), 0);
        CHECKS.due("place(58)", x.place(58), 232);
        CHECKS.illegalArgument("place(59), added since", () -> x.place(59));
        CHECKS.illegalArgument("place(-1)", () -> x.place(-1));
        x.rewrite();
        CHECKS.due("place(59)", x.place(59), 236);
        CHECKS.illegalArgument("place(60)", () -> x.place(60));
    }
}
