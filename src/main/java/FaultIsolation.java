/**
 * Software fault isolation: a rewriter that turns a program into bytes in bundles, a verifier that
 * takes only such bytes, and a machine that runs the program, or any bytes, and tells what they touch.
 */
public final class FaultIsolation {
    /** There is none. */
    public static final int NONE = -1;
    /** The bytes would be too many. */
    public static final int LONG = -2;

    private static final int HALT = 0;
    private static final int SET = 1;
    private static final int ADD = 2;
    private static final int LESS = 3;
    private static final int TIMES = 4;
    private static final int AND = 5;
    private static final int OR = 6;
    private static final int UNLIKE = 7;
    private static final int DOWN = 8;
    private static final int MORE = 9;
    private static final int LOAD = 10;
    private static final int STORE = 11;
    private static final int GO = 12;
    private static final int ZERO = 13;
    private static final int TO = 14;
    private static final int CALL = 15;
    private static final int ANDN = 16;
    private static final int ORN = 17;
    private static final int LABEL = 18;

    /** How many of A, B, C are registers, by word: they are always the first ones. */
    private static final int[] REGISTERS_OF_WORD =
        {0, 1, 3, 3, 3, 3, 3, 3, 3, 2, 2, 2, 0, 1, 1, 0, 1, 1, 1};

    private static final int GOES_ON = 0;
    private static final int HALTED = 1;
    private static final int OUT = 2;
    private static final int WRONG = 3;
    private static final int NO_MEMORY = 4;

    private static final int REGISTERS = 8;
    /** The register that rewriting keeps for masked addresses, so that programs may not use it. */
    private static final int MASKED = 6;
    private static final int RETURN = 7;
    private static final int MEMORY = 4096;
    private static final int REGION = 1024;
    private static final int INSTRUCTION = 4;
    private static final int BUNDLE = 16;
    private static final int MOST_INSTRUCTIONS = 60;
    private static final int MOST_BUNDLES = 64;
    private static final int MOST_STEPS = 1000;

    private final int base;
    private final Code program;
    private final Code code;
    private final Rewriter rewriter;
    private final Machine machine;

    public FaultIsolation(int region) {
        base = REGION * Math.max(0, Math.min(region, MEMORY / REGION - 1));
        program = new Code(INSTRUCTION * MOST_INSTRUCTIONS);
        code = new Code(BUNDLE * MOST_BUNDLES);
        rewriter = new Rewriter(base);
        machine = new Machine(base);
    }

    // ---- programs

    public int add(int word, int a, int b, int c) throws IllegalArgumentException, IllegalStateException {
        if (!areBytes(word, a, b, c)) {
            throw new IllegalArgumentException("a number is not 0 .. 255");
        }
        int next = program.instructions();
        if (next >= MOST_INSTRUCTIONS) {
            throw new IllegalStateException("there are 60 instructions");
        }
        program.resize(INSTRUCTION * (next + 1));
        program.write(INSTRUCTION * next, word, a, b, c);
        return next;
    }

    public void set(int place, int word, int a, int b, int c) throws IllegalArgumentException {
        if (place < 0 || place >= program.instructions()) {
            throw new IllegalArgumentException("there is no such instruction");
        }
        if (!areBytes(word, a, b, c)) {
            throw new IllegalArgumentException("a number is not 0 .. 255");
        }
        program.write(INSTRUCTION * place, word, a, b, c);
    }

    public int cut(int n) throws IllegalArgumentException {
        int there = program.instructions();
        if (n < 0 || n > there) {
            throw new IllegalArgumentException("there are not so many instructions");
        }
        program.resize(INSTRUCTION * (there - n));
        return there - n;
    }

    public int wrong() {
        return Soundness.firstUnsound(program);
    }

    public int rewrite() throws IllegalStateException {
        if (Soundness.firstUnsound(program) != NONE) {
            throw new IllegalStateException("the program is not sound");
        }
        return rewriter.translate(program, code);
    }

    public int place(int instruction) throws IllegalArgumentException {
        int address = rewriter.newAddress(instruction);
        if (address == NONE) {
            throw new IllegalArgumentException("no such instruction was rewritten");
        }
        return address;
    }

    // ---- bytes

    public void bundles(int n) throws IllegalArgumentException {
        if (n < 0 || n > MOST_BUNDLES) {
            throw new IllegalArgumentException("bundles are 0 .. 64");
        }
        code.resize(BUNDLE * n);
        rewriter.forget();
    }

    public int size() {
        return code.length();
    }

    public int byteAt(int i) throws IllegalArgumentException {
        if (!code.has(i)) {
            throw new IllegalArgumentException("there is no such byte");
        }
        return code.read(i);
    }

    public int poke(int i, int v) throws IllegalArgumentException {
        if (!code.has(i)) {
            throw new IllegalArgumentException("there is no such byte");
        }
        if (!isByte(v)) {
            throw new IllegalArgumentException("a byte is 0 .. 255");
        }
        int was = code.read(i);
        code.writeByte(i, v);
        return was;
    }

    public int verify() {
        return Verifier.firstRefused(code, base);
    }

    // ---- the machine

    public int register(int r, int v) throws IllegalArgumentException {
        if (!isRegister(r)) {
            throw new IllegalArgumentException("registers are 0 .. 7");
        }
        int was = machine.valueOf(r);
        machine.change(r, v);
        return was;
    }

    public int memory(int address, int v) throws IllegalArgumentException {
        if (!isInMemory(address)) {
            throw new IllegalArgumentException("addresses are 0 .. 4095");
        }
        if (!isByte(v)) {
            throw new IllegalArgumentException("a byte is 0 .. 255");
        }
        int was = machine.load(address);
        machine.store(address, v);
        return was;
    }

    public int run(boolean program, int address, int steps) throws IllegalArgumentException {
        if (steps < 1 || steps > MOST_STEPS) {
            throw new IllegalArgumentException("steps are 1 .. 1000");
        }
        if (address < 0) {
            throw new IllegalArgumentException("the address is below 0");
        }
        return machine.goOn(program ? this.program : code, program, address, steps);
    }

    public int told(int what) throws IllegalArgumentException {
        switch (what) {
            case 0: return machine.address;
            case 1: return machine.steps;
            case 2: return machine.strays;
            case 3: return machine.slips;
            case 4: return machine.regionStores;
            case 5: return machine.latestStray;
            default: throw new IllegalArgumentException("what is 0 .. 5");
        }
    }

    public int registerAt(int r) throws IllegalArgumentException {
        if (!isRegister(r)) {
            throw new IllegalArgumentException("registers are 0 .. 7");
        }
        return machine.valueOf(r);
    }

    public int memoryAt(int address) throws IllegalArgumentException {
        if (!isInMemory(address)) {
            throw new IllegalArgumentException("addresses are 0 .. 4095");
        }
        return machine.load(address);
    }

    public void clear() {
        machine.forgetAll();
    }

    private static boolean isByte(int v) {
        return v >= 0 && v <= 255;
    }

    private static boolean areBytes(int word, int a, int b, int c) {
        return isByte(word) && isByte(a) && isByte(b) && isByte(c);
    }

    private static boolean isRegister(int r) {
        return r >= 0 && r < REGISTERS;
    }

    private static boolean isInMemory(int address) {
        return address >= 0 && address < MEMORY;
    }

    private static boolean isBundleStart(int address) {
        return address % BUNDLE == 0;
    }

    /** GO, ZERO, CALL and LABEL, whose N is a place in programs. */
    private static boolean hasPlace(int word) {
        return word == GO || word == ZERO || word == CALL || word == LABEL;
    }

    private static int registersOf(int word) {
        return word >= 0 && word < REGISTERS_OF_WORD.length ? REGISTERS_OF_WORD[word] : 0;
    }

    /** A row of instructions. Behind its length all is 0, so that what it grows by are HALTs. */
    private static final class Code {
        private final int[] cells;
        private int length;

        Code(int most) {
            cells = new int[Math.max(0, most)];
            length = 0;
        }

        int length() {
            return length;
        }

        int instructions() {
            return length / INSTRUCTION;
        }

        boolean has(int i) {
            return i >= 0 && i < length;
        }

        boolean hasInstruction(int address) {
            return has(address) && address % INSTRUCTION == 0;
        }

        int read(int i) {
            return i >= 0 && i < cells.length ? cells[i] : 0;
        }

        int word(int address) {
            return read(address);
        }

        int a(int address) {
            return read(address + 1);
        }

        int b(int address) {
            return read(address + 2);
        }

        int c(int address) {
            return read(address + 3);
        }

        int n(int address) {
            return 256 * read(address + 2) + read(address + 3);
        }

        boolean is(int address, int word, int a, int n) {
            return word(address) == word && a(address) == a && n(address) == n;
        }

        boolean hasRegistersOnly(int address) {
            int count = registersOf(word(address));
            for (int i = 1; i <= count; i++) {
                if (!isRegister(read(address + i))) {
                    return false;
                }
            }
            return true;
        }

        boolean usesRegister(int address, int r) {
            int count = registersOf(word(address));
            for (int i = 1; i <= count; i++) {
                if (read(address + i) == r) {
                    return true;
                }
            }
            return false;
        }

        void writeByte(int i, int v) {
            if (i >= 0 && i < cells.length) {
                cells[i] = v;
            }
        }

        void write(int address, int word, int a, int b, int c) {
            if (address >= 0 && address <= cells.length - INSTRUCTION) {
                cells[address] = word;
                cells[address + 1] = a;
                cells[address + 2] = b;
                cells[address + 3] = c;
            }
        }

        void resize(int newLength) {
            length = Math.max(0, Math.min(newLength, cells.length));
            for (int i = length; i < cells.length; i++) {
                cells[i] = 0;
            }
        }
    }

    /** Which programs may be rewritten. */
    private static final class Soundness {
        static int firstUnsound(Code program) {
            int count = program.instructions();
            if (count == 0) {
                return 0;
            }
            for (int i = 0; i < count; i++) {
                if (!isSound(program, INSTRUCTION * i)) {
                    return i;
                }
            }
            return NONE;
        }

        private static boolean isSound(Code program, int address) {
            int word = program.word(address);
            return isProgramWord(word)
                && program.hasRegistersOnly(address)
                && !program.usesRegister(address, MASKED)
                && (!hasPlace(word) || program.n(address) < program.instructions());
        }

        static boolean isProgramWord(int word) {
            return word >= HALT && word <= CALL || word == LABEL;
        }
    }

    /** Turns a sound program into bytes, and remembers where its instructions went. */
    private static final class Rewriter {
        private final int base;
        private final boolean[] ledTo = new boolean[MOST_INSTRUCTIONS];
        /** New addresses at hand: they become those that are told only if the bytes are not too many. */
        private final int[] planned = new int[MOST_INSTRUCTIONS];
        private final int[] addresses = new int[MOST_INSTRUCTIONS];
        private int known;
        /** Where the next instruction is written. */
        private int end;

        Rewriter(int base) {
            this.base = base;
            known = 0;
            end = 0;
        }

        int newAddress(int instruction) {
            return instruction >= 0 && instruction < known && instruction < addresses.length
                ? addresses[instruction] : NONE;
        }

        void forget() {
            known = 0;
        }

        int translate(Code program, Code code) {
            markLedTo(program);
            int bundleCount = powerOf2From(plan(program) / BUNDLE + 1);
            // 60 instructions fill 61 bundles at most, so this holds only if more were allowed
            if (bundleCount > MOST_BUNDLES) {
                return LONG;
            }
            known = Math.min(program.instructions(), MOST_INSTRUCTIONS);
            System.arraycopy(planned, 0, addresses, 0, MOST_INSTRUCTIONS);
            code.resize(0);
            code.resize(BUNDLE * bundleCount);
            writeAll(program, code);
            return bundleCount;
        }

        private void markLedTo(Code program) {
            for (int i = 0; i < ledTo.length; i++) {
                ledTo[i] = false;
            }
            for (int i = 0; i < program.instructions(); i++) {
                int target = program.n(INSTRUCTION * i);
                if (hasPlace(program.word(INSTRUCTION * i)) && target >= 0 && target < ledTo.length) {
                    ledTo[target] = true;
                }
            }
        }

        /** Where the HALT behind all comes; the new addresses are in planned. */
        private int plan(Code program) {
            int at = 0;
            for (int i = 0; i < program.instructions() && i < planned.length; i++) {
                if (i < ledTo.length && ledTo[i]) {
                    at = bundleStartFrom(at);
                }
                planned[i] = at;
                int word = program.word(INSTRUCTION * i);
                at = firstWritten(at, word) + sizeOf(word);
            }
            return at;
        }

        private static int bundleStartFrom(int address) {
            return (address + BUNDLE - 1) / BUNDLE * BUNDLE;
        }

        /** Where what a word becomes begins, if the bytes before are filled up to an address. */
        private static int firstWritten(int address, int word) {
            int inBundle = address % BUNDLE;
            if (word == CALL) {
                return address - inBundle + BUNDLE - INSTRUCTION;
            }
            return inBundle + sizeOf(word) <= BUNDLE ? address : bundleStartFrom(address);
        }

        private static int sizeOf(int word) {
            if (word == LOAD || word == STORE) {
                return 4 * INSTRUCTION;
            }
            return word == TO ? 3 * INSTRUCTION : INSTRUCTION;
        }

        private static int powerOf2From(int least) {
            int power = 1;
            while (power < least && power <= MOST_BUNDLES) {
                power = 2 * power;
            }
            return power;
        }

        private void writeAll(Code program, Code code) {
            end = 0;
            int mask = code.length() - BUNDLE;
            for (int i = 0; i < program.instructions(); i++) {
                int from = INSTRUCTION * i;
                fillUpTo(code, firstWritten(newAddress(i), program.word(from)));
                writeOne(program, from, code, mask);
            }
        }

        private void fillUpTo(Code code, int address) {
            for (int at = end; at < address; at += INSTRUCTION) {
                append(code, OR, 0, 0, 0);
            }
        }

        private void writeOne(Code program, int from, Code code, int mask) {
            int word = program.word(from);
            int a = program.a(from);
            int b = program.b(from);
            int c = program.c(from);
            switch (word) {
                case LOAD:
                case STORE:
                    append(code, MORE, MASKED, b, c);
                    appendN(code, ANDN, MASKED, REGION - 1);
                    appendN(code, ORN, MASKED, base);
                    append(code, word, a, MASKED, 0);
                    break;
                case TO:
                    append(code, OR, MASKED, a, a);
                    appendN(code, ANDN, MASKED, mask);
                    append(code, TO, MASKED, 0, 0);
                    break;
                case LABEL:
                    appendN(code, SET, a, newAddress(program.n(from)));
                    break;
                case GO:
                case ZERO:
                case CALL:
                    appendN(code, word, a, newAddress(program.n(from)));
                    break;
                default:
                    append(code, word, a, b, c);
            }
        }

        private void append(Code code, int word, int a, int b, int c) {
            code.write(end, word, a, b, c);
            end += INSTRUCTION;
        }

        private void appendN(Code code, int word, int a, int n) {
            code.write(end, word, a, n >> 8 & 255, n & 255);
            end += INSTRUCTION;
        }
    }

    /** Goes over bytes once and takes only those that stay in the region and in their bundles. */
    private static final class Verifier {
        static int firstRefused(Code code, int base) {
            int size = code.length();
            if (!isGoodSize(size)) {
                return size;
            }
            for (int address = 0; address < size; address += INSTRUCTION) {
                if (!isTaken(code, address, base)) {
                    return address;
                }
            }
            return NONE;
        }

        private static boolean isGoodSize(int size) {
            int count = size / BUNDLE;
            return size % BUNDLE == 0 && count >= 1 && count <= MOST_BUNDLES && Integer.bitCount(count) == 1;
        }

        private static boolean isTaken(Code code, int address, int base) {
            int word = code.word(address);
            if (word > ORN || !code.hasRegistersOnly(address)) {
                return false;
            }
            switch (word) {
                case GO:
                case ZERO:
                    return leadsToBundle(code, address);
                case CALL:
                    return leadsToBundle(code, address) && address % BUNDLE == BUNDLE - INSTRUCTION;
                case LOAD:
                case STORE:
                    return code.b(address) == MASKED && code.c(address) == 0
                        && isBehindRegionMask(code, address, base);
                case TO:
                    return code.a(address) == MASKED && isBehindCodeMask(code, address);
                default:
                    return true;
            }
        }

        private static boolean leadsToBundle(Code code, int address) {
            return isBundleStart(code.n(address)) && code.has(code.n(address));
        }

        private static boolean isBehindRegionMask(Code code, int address, int base) {
            return address % BUNDLE >= 2 * INSTRUCTION
                && code.is(address - 2 * INSTRUCTION, ANDN, MASKED, REGION - 1)
                && code.is(address - INSTRUCTION, ORN, MASKED, base);
        }

        private static boolean isBehindCodeMask(Code code, int address) {
            return address % BUNDLE >= INSTRUCTION
                && code.is(address - INSTRUCTION, ANDN, MASKED, code.length() - BUNDLE);
        }
    }

    /** Registers and memory, and what the latest run did with them. */
    private static final class Machine {
        private final int base;
        private final int[] registers = new int[REGISTERS];
        private final int[] cells = new int[MEMORY];
        private int address;
        private int steps;
        private int strays;
        private int slips;
        private int regionStores;
        private int latestStray;

        Machine(int base) {
            this.base = base;
            latestStray = NONE;
        }

        int valueOf(int r) {
            return r >= 0 && r < registers.length ? registers[r] : 0;
        }

        void change(int r, int v) {
            if (r >= 0 && r < registers.length) {
                registers[r] = v;
            }
        }

        int load(int at) {
            return at >= 0 && at < cells.length ? cells[at] : 0;
        }

        void store(int at, int v) {
            if (at >= 0 && at < cells.length) {
                cells[at] = v;
            }
        }

        void forgetAll() {
            for (int i = 0; i < registers.length; i++) {
                registers[i] = 0;
            }
            for (int i = 0; i < cells.length; i++) {
                cells[i] = 0;
            }
        }

        int goOn(Code code, boolean ofProgram, int start, int mostSteps) {
            address = start;
            steps = 0;
            strays = 0;
            slips = 0;
            regionStores = 0;
            latestStray = NONE;
            int ending = GOES_ON;
            for (int i = 0; i < mostSteps && ending == GOES_ON; i++) {
                ending = step(code, ofProgram);
            }
            return ending;
        }

        private int step(Code code, boolean ofProgram) {
            if (!code.hasInstruction(address)) {
                return OUT;
            }
            int word = code.word(address);
            if (!isWord(word, ofProgram) || !code.hasRegistersOnly(address)) {
                return WRONG;
            }
            steps++;
            if (word == HALT) {
                return HALTED;
            }
            if (word == LOAD || word == STORE) {
                return reach(code);
            }
            if (word >= GO && word <= CALL) {
                jump(code, ofProgram);
            } else {
                change(code.a(address), result(code));
                address += INSTRUCTION;
            }
            return GOES_ON;
        }

        private static boolean isWord(int word, boolean ofProgram) {
            return ofProgram ? Soundness.isProgramWord(word) : word <= ORN;
        }

        private int reach(Code code) {
            int at = valueOf(code.b(address)) + code.c(address);
            if (!isInMemory(at)) {
                return NO_MEMORY;
            }
            boolean stores = code.word(address) == STORE;
            boolean inRegion = at >= base && at < base + REGION;
            if (!inRegion) {
                strays++;
                latestStray = at;
            } else if (stores) {
                regionStores++;
            }
            if (stores) {
                store(at, valueOf(code.a(address)) & 255);
            } else {
                change(code.a(address), load(at));
            }
            address += INSTRUCTION;
            return GOES_ON;
        }

        private void jump(Code code, boolean ofProgram) {
            int word = code.word(address);
            int behind = address + INSTRUCTION;
            if (word == ZERO && valueOf(code.a(address)) != 0) {
                address = behind;
                return;
            }
            int target = ofProgram ? INSTRUCTION * code.n(address) : code.n(address);
            if (word == TO) {
                target = valueOf(code.a(address));
            }
            if (word == CALL) {
                change(RETURN, behind);
            }
            if (!isBundleStart(target)) {
                slips++;
            }
            address = target;
        }

        private int result(Code code) {
            int n = code.n(address);
            int b = valueOf(code.b(address));
            int c = valueOf(code.c(address));
            switch (code.word(address)) {
                case SET: return n >= 32768 ? n - 65536 : n;
                case ADD: return b + c;
                case LESS: return b - c;
                case TIMES: return b * c;
                case AND: return b & c;
                case OR: return b | c;
                case UNLIKE: return b ^ c;
                case DOWN: return b >>> (c & 31);
                case MORE: return b + code.c(address);
                case ANDN: return valueOf(code.a(address)) & n;
                case ORN: return valueOf(code.a(address)) | n;
                // only LABEL is left: jumps, LOAD, STORE and HALT never come here
                default: return INSTRUCTION * n;
            }
        }
    }
}
