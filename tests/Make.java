/** Puts intervals that are hard to come by into registers; register 7 is used on the way. */
final class Make {
    /** Above the unison by less than 2 to the power of -56 octaves. */
    static final int[] TINY = {351, -666, 710, -755, 358, -17};
    /** Above it by less than 2 to the power of -44, and of -38: these go with greater roots. */
    private static final int[] TINY_TO_17 = {275, -281, -143, 123, -7, 49};
    private static final int[] TINY_TO_50 = {-65, -47, 16, -77, 91, 1};
    static final int[] PRIMES = {2, 3, 5, 7, 11, 13};

    private Make() {
    }

    /** A house with fractions, as "3/2", in the registers from 0 on. */
    static Tuninghouse house(String... fractions) {
        Tuninghouse x = new Tuninghouse();
        for (int i = 0; i < fractions.length; i++) {
            int line = fractions[i].indexOf('/');
            x.fraction(i, Integer.parseInt(fractions[i].substring(0, line)), Integer.parseInt(fractions[i].substring(line + 1)));
        }
        return x;
    }

    /** The interval with the root 1 and these exponents. */
    static void put(Tuninghouse x, int register, int... exponents) {
        x.fraction(register, 1, 1);
        for (int i = 0; i < exponents.length; i++) {
            int hundreds = exponents[i] / 100;
            int rest = exponents[i] % 100;
            if (hundreds != 0) {
                x.fraction(7, PRIMES[i], 1);
                x.times(7, 100, 1);
                x.times(7, hundreds, 1);
                x.sum(register, register, 7, false);
            }
            if (rest != 0) {
                x.fraction(7, PRIMES[i], 1);
                x.times(7, rest, 1);
                x.sum(register, register, 7, false);
            }
        }
    }

    /** The interval with a root that is a product of numbers up to 24. */
    static void putRoot(Tuninghouse x, int register, int root, int... exponents) {
        put(x, register, exponents);
        int rest = root;
        for (int d = 24; d > 1; d--) {
            while (rest % d == 0) {
                x.times(register, 1, d);
                rest /= d;
            }
        }
        if (rest != 1) {
            throw new IllegalArgumentException("root " + root);
        }
    }

    /** Parts of an octave, and a tiny interval more (1) or less (-1), or just them (0). */
    static void octavesAnd(Tuninghouse x, int register, int many, int parts, int tinies) {
        int by = register == 6 ? 5 : 6;
        put(x, by, parts <= 6 ? TINY : parts <= 17 ? TINY_TO_17 : TINY_TO_50);
        x.times(by, tinies, 1);
        x.parts(register, many, parts);
        x.sum(register, register, by, false);
    }

    /** A tune of so many moves, one up, one down. */
    static void tune(Tuninghouse x, int register, int moves) {
        for (int i = 0; i < moves; i++) {
            x.move(register, i % 2 == 1);
        }
    }

    /** The one tone of a scale. */
    static void onlyTone(Tuninghouse x, int scale, int register) {
        x.row(scale, register, 1, 1);
    }
}
