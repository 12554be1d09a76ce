/** Objects with a program or with bytes in them. */
final class Made {
    private Made() {
    }

    /** A program of these instructions, 4 numbers each. */
    static FaultIsolation program(int region, int... numbers) {
        FaultIsolation x = new FaultIsolation(region);
        addAll(x, numbers);
        return x;
    }

    static void addAll(FaultIsolation x, int... numbers) {
        for (int i = 0; i + 3 < numbers.length; i += 4) {
            x.add(numbers[i], numbers[i + 1], numbers[i + 2], numbers[i + 3]);
        }
    }

    static void addTimes(FaultIsolation x, int times, int word, int a, int b, int c) {
        for (int i = 0; i < times; i++) {
            x.add(word, a, b, c);
        }
    }

    /** So many bundles, these instructions at their beginning. */
    static FaultIsolation bytes(int region, int bundles, int... numbers) {
        FaultIsolation x = new FaultIsolation(region);
        x.bundles(bundles);
        pokeAll(x, 0, numbers);
        return x;
    }

    static void pokeAll(FaultIsolation x, int from, int... numbers) {
        for (int i = 0; i < numbers.length; i++) {
            x.poke(from + i, numbers[i]);
        }
    }

    /** The same instructions as a program, or as the first ones of 4 bundles. */
    static FaultIsolation either(boolean program, int region, int... numbers) {
        return program ? program(region, numbers) : bytes(region, 4, numbers);
    }
}
