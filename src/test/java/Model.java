import java.util.ArrayList;
import java.util.Arrays;
import java.util.List;

/**
 * The document written a second time, from its words alone and without care for speed, so that ModelTest can compare.
 * A call answers null where an illegal argument is due; illegal states are asked for by isFull() and wrong().
 */
final class Model {
    private static final int[] FILL = {6, 0, 0, 0};
    private static final int[] HALT = {0, 0, 0, 0};
    /** Of A, B, C the registers of each word. */
    private static final String[] REGISTERS = {"", "A", "ABC", "ABC", "ABC", "ABC", "ABC", "ABC", "ABC", "AB", "AB", "AB",
        "", "A", "A", "", "A", "A", "A"};

    final int base;
    private final List<int[]> program = new ArrayList<>();
    private int[] bytes = {};
    private int[] places = {};
    private int[] registers = new int[8];
    private int[] memory = new int[4096];
    private int[] told = {0, 0, 0, 0, 0, -1};

    Model(int region) {
        base = region < 0 ? 0 : region > 3 ? 3072 : 1024 * region;
    }

    boolean isFull() {
        return program.size() == 60;
    }

    private static boolean isIn(int number, int least, int most) {
        return least <= number && number <= most;
    }

    private static boolean areBytes(int... numbers) {
        for (int number : numbers) {
            if (!isIn(number, 0, 255)) {
                return false;
            }
        }
        return true;
    }

    private static int n(int[] instruction) {
        return 256 * instruction[2] + instruction[3];
    }

    private static int[] withN(int word, int a, int n) {
        return new int[] {word, a, n / 256, n % 256};
    }

    private static boolean isOneOf(int word, int... words) {
        for (int one : words) {
            if (one == word) {
                return true;
            }
        }
        return false;
    }

    private static boolean hasPlace(int word) {
        return isOneOf(word, 12, 13, 15, 18);
    }

    private static boolean hasWrongRegister(int[] instruction, boolean not6) {
        for (char letter : REGISTERS[instruction[0]].toCharArray()) {
            int r = instruction[1 + letter - 'A'];
            if (r > 7 || not6 && r == 6) {
                return true;
            }
        }
        return false;
    }

    // ---- programs

    Integer add(int word, int a, int b, int c) {
        if (!areBytes(word, a, b, c)) {
            return null;
        }
        program.add(new int[] {word, a, b, c});
        return program.size() - 1;
    }

    Integer set(int place, int word, int a, int b, int c) {
        if (!areBytes(word, a, b, c) || !isIn(place, 0, program.size() - 1)) {
            return null;
        }
        program.set(place, new int[] {word, a, b, c});
        return 0;
    }

    Integer cut(int n) {
        if (!isIn(n, 0, program.size())) {
            return null;
        }
        for (int i = 0; i < n; i++) {
            program.remove(program.size() - 1);
        }
        return program.size();
    }

    Integer wrong() {
        if (program.isEmpty()) {
            return 0;
        }
        for (int i = 0; i < program.size(); i++) {
            int[] it = program.get(i);
            if (isOneOf(it[0], 16, 17) || it[0] > 18 || hasWrongRegister(it, true)
                || hasPlace(it[0]) && n(it) >= program.size()) {
                return i;
            }
        }
        return -1;
    }

    /** What is written does not depend on addresses but in its numbers: the second time they are all known. */
    Integer rewrite() {
        int[] addresses = new int[program.size()];
        int size = 4 * written(addresses, 0).size();
        List<int[]> all = written(addresses, size - 16);
        places = addresses;
        bytes = new int[size];
        for (int i = 0; i < size; i++) {
            bytes[i] = all.get(i / 4)[i % 4];
        }
        return size / 16;
    }

    private List<int[]> written(int[] addresses, int mask) {
        List<int[]> all = new ArrayList<>();
        for (int i = 0; i < program.size(); i++) {
            while (isLedTo(i) && all.size() % 4 != 0) {
                all.add(FILL);
            }
            addresses[i] = 4 * all.size();
            int[][] becomes = becomes(program.get(i), addresses, mask);
            while (program.get(i)[0] == 15 ? all.size() % 4 != 3 : all.size() % 4 + becomes.length > 4) {
                all.add(FILL);
            }
            all.addAll(List.of(becomes));
        }
        all.add(HALT);
        int bundles = 1;
        while (4 * bundles < all.size()) {
            bundles *= 2;
        }
        while (all.size() < 4 * bundles) {
            all.add(HALT);
        }
        return all;
    }

    private boolean isLedTo(int place) {
        for (int[] it : program) {
            if (hasPlace(it[0]) && n(it) == place) {
                return true;
            }
        }
        return false;
    }

    private int[][] becomes(int[] it, int[] addresses, int mask) {
        if (isOneOf(it[0], 10, 11)) {
            return new int[][] {{9, 6, it[2], it[3]}, withN(16, 6, 1023), withN(17, 6, base), {it[0], it[1], 6, 0}};
        }
        if (it[0] == 14) {
            return new int[][] {{6, 6, it[1], it[1]}, withN(16, 6, mask), {14, 6, 0, 0}};
        }
        if (hasPlace(it[0])) {
            return new int[][] {withN(it[0] == 18 ? 1 : it[0], it[1], addresses[n(it)])};
        }
        return new int[][] {it};
    }

    Integer place(int instruction) {
        return isIn(instruction, 0, places.length - 1) ? Integer.valueOf(places[instruction]) : null;
    }

    // ---- bytes

    Integer bundles(int n) {
        if (!isIn(n, 0, 64)) {
            return null;
        }
        bytes = Arrays.copyOf(bytes, 16 * n);
        places = new int[0];
        return 0;
    }

    Integer size() {
        return bytes.length;
    }

    Integer byteAt(int i) {
        return isIn(i, 0, bytes.length - 1) ? Integer.valueOf(bytes[i]) : null;
    }

    Integer poke(int i, int v) {
        Integer was = areBytes(v) ? byteAt(i) : null;
        if (was != null) {
            bytes[i] = v;
        }
        return was;
    }

    Integer verify() {
        if (!isOneOf(bytes.length, 16, 32, 64, 128, 256, 512, 1024)) {
            return bytes.length;
        }
        for (int address = 0; address < bytes.length; address += 4) {
            if (!isTaken(address)) {
                return address;
            }
        }
        return -1;
    }

    private int[] instructionAt(int address) {
        return Arrays.copyOfRange(bytes, address, address + 4);
    }

    private boolean isTaken(int address) {
        int[] it = instructionAt(address);
        if (it[0] > 17 || hasWrongRegister(it, false)) {
            return false;
        }
        if (isOneOf(it[0], 12, 13, 15) && (n(it) % 16 != 0 || n(it) >= bytes.length)) {
            return false;
        }
        if (it[0] == 15) {
            return address % 16 == 12;
        }
        if (isOneOf(it[0], 10, 11)) {
            return it[2] == 6 && it[3] == 0 && isBefore(address, 2, withN(16, 6, 1023)) && isBefore(address, 1, withN(17, 6, base));
        }
        return it[0] != 14 || it[1] == 6 && isBefore(address, 1, withN(16, 6, bytes.length - 16));
    }

    /** In the same bundle, so many instructions before an address, is this one. */
    private boolean isBefore(int address, int count, int[] one) {
        int before = address - 4 * count;
        return before >= 0 && before / 16 == address / 16 && Arrays.equals(instructionAt(before), one);
    }

    // ---- the machine

    Integer register(int r, int v) {
        Integer was = registerAt(r);
        if (was != null) {
            registers[r] = v;
        }
        return was;
    }

    Integer memory(int address, int v) {
        Integer was = areBytes(v) ? memoryAt(address) : null;
        if (was != null) {
            memory[address] = v;
        }
        return was;
    }

    Integer run(boolean ofProgram, int address, int steps) {
        if (!isIn(steps, 1, 1000) || address < 0) {
            return null;
        }
        told = new int[] {address, 0, 0, 0, 0, -1};
        int how = 0;
        for (int left = steps; left > 0 && how == 0; left--) {
            how = step(ofProgram);
        }
        return how;
    }

    private int step(boolean ofProgram) {
        int at = told[0];
        if (at % 4 != 0 || !isIn(at, 0, (ofProgram ? 4 * program.size() : bytes.length) - 1)) {
            return 2;
        }
        int[] it = ofProgram ? program.get(at / 4) : instructionAt(at);
        boolean isWord = ofProgram ? it[0] <= 15 || it[0] == 18 : it[0] <= 17;
        if (!isWord || hasWrongRegister(it, false)) {
            return 3;
        }
        told[1]++;
        if (it[0] == 0) {
            return 1;
        }
        if (isOneOf(it[0], 10, 11)) {
            return touch(it);
        }
        if (isIn(it[0], 12, 15)) {
            jump(it, ofProgram);
        } else {
            told[0] += 4;
            registers[it[1]] = (int) value(it);
        }
        return 0;
    }

    private int touch(int[] it) {
        int at = registers[it[2]] + it[3];
        if (!isIn(at, 0, 4095)) {
            return 4;
        }
        boolean stray = at / 1024 != base / 1024;
        if (stray) {
            told[2]++;
            told[5] = at;
        }
        if (it[0] == 10) {
            registers[it[1]] = memory[at];
        } else {
            memory[at] = Math.floorMod(registers[it[1]], 256);
            told[4] += stray ? 0 : 1;
        }
        told[0] += 4;
        return 0;
    }

    private void jump(int[] it, boolean ofProgram) {
        int behind = told[0] + 4;
        if (it[0] == 13 && registers[it[1]] != 0) {
            told[0] = behind;
            return;
        }
        told[0] = it[0] == 14 ? registers[it[1]] : ofProgram ? 4 * n(it) : n(it);
        if (it[0] == 15) {
            registers[7] = behind;
        }
        if (Math.floorMod(told[0], 16) != 0) {
            told[3]++;
        }
    }

    private long value(int[] it) {
        long a = registers[it[1]];
        long b = it[2] < 8 ? registers[it[2]] : 0;
        long c = it[3] < 8 ? registers[it[3]] : 0;
        switch (it[0]) {
            case 1: return (short) n(it);
            case 2: return b + c;
            case 3: return b - c;
            case 4: return b * c;
            case 5: return b & c;
            case 6: return b | c;
            case 7: return (b | c) - (b & c);
            case 8: return (b & 0xFFFFFFFFL) >> Math.floorMod(c, 32);
            case 9: return b + it[3];
            case 16: return a & n(it);
            case 17: return a | n(it);
            case 18: return 4L * n(it);
            default: throw new AssertionError(it[0]);
        }
    }

    Integer told(int what) {
        return isIn(what, 0, 5) ? Integer.valueOf(told[what]) : null;
    }

    Integer registerAt(int r) {
        return isIn(r, 0, 7) ? Integer.valueOf(registers[r]) : null;
    }

    Integer memoryAt(int address) {
        return isIn(address, 0, 4095) ? Integer.valueOf(memory[address]) : null;
    }

    Integer clear() {
        registers = new int[8];
        memory = new int[4096];
        return 0;
    }
}
