import java.math.BigInteger;
import java.util.NoSuchElementException;

/** Promises 21 to 55: all that is asked, the text and the measures. */
final class QuestionsTest {
    private static final int LOW = Integer.MIN_VALUE;
    private static final int HIGH = Integer.MAX_VALUE;

    private QuestionsTest() {
    }

    static void all() {
        exponentAndRoot();
        compare();
        cents();
        tell();
        toldAt();
        names();
        tonesAndSteps();
        sizeOf();
        gapSorts();
        gapsFar();
        symmetry();
        nearest();
        term();
        termFar();
        best();
        mapped();
        commas();
        closes();
        impurity();
        pure();
        moves();
        chord();
        beats();
        string();
        rhythm();
        unlike();
        type();
        clearText();
        errorPlace();
        evenness();
        meanImpurity();
        errors();
    }

    private static Tuninghouse fifthIn0() {
        Tuninghouse x = new Tuninghouse();
        x.fraction(0, 3, 2);
        return x;
    }

    private static void exponentAndRoot() {
        Doc.quote(21, "Returns an exponent of the interval of a register.", "Returns the exponent.");
        Tuninghouse x = new Tuninghouse();
        x.fraction(0, 1001, 60);
        String[] due = {"-2", "-1", "-1", "1", "1", "1"};
        for (int p = 0; p < 6; p++) {
            Check.due("prime " + p, x.exponent(0, p), due[p]);
        }
        x.times(0, 3, 7);
        Check.due("3 of 7", x.exponent(0, 0), -6);
        for (int bad : new int[] {-1, 6, LOW, HIGH}) {
            Check.index(x, "prime " + bad, () -> x.exponent(0, bad));
        }
        Check.index(x, "register", () -> x.exponent(8, 0));
        Check.index(x, "register", () -> x.exponent(-1, 0));
        Doc.quote(22, "Returns the root of the interval of a register.", "Returns the root.");
        Check.due("root", x.root(0), 7);
        Check.due("of the unison", x.root(1), 1);
        x.times(0, 7, 1);
        Check.due("root", x.root(0), 1);
        for (int bad : new int[] {-1, 8, LOW, HIGH}) {
            Check.index(x, "register " + bad, () -> x.root(bad));
        }
    }

    private static void compare() {
        Doc.quote(23, "Compares the intervals of two registers.", "Returns -1, 0 or 1, as the first one is less, equal or greater.");
        Tuninghouse x = fifthIn0();
        x.parts(1, 7, 12);
        Check.due("3 / 2 and 7 of 12", x.compare(0, 1), 1);
        Check.due("7 of 12 and 3 / 2", x.compare(1, 0), -1);
        Check.due("itself", x.compare(0, 0), 0);
        x.fraction(2, 6, 4);
        Check.due("6 / 4", x.compare(0, 2), 0);
        x.fraction(3, 2, 3);
        Check.due("below and above", x.compare(3, 0), -1);
        // 2 to the power of -351, and so on, is above the unison by less than 2 to the power of -56 octaves.
        Make.put(x, 4, -351, 666, -710, 755, -358, 17);
        Check.due("a small one, turned", x.compare(4, 5), -1);
        x.times(4, -1, 1);
        Check.due("a small one", x.compare(4, 5), 1);
        Make.put(x, 5, 1246, 3003, -1188, -558, 2091, -2409);
        Check.due("a smaller one", x.compare(5, 6), -1);
        x.times(5, -1, 1);
        Check.due("small and smaller", x.compare(4, 5), 1);
        Check.due("smaller and unison", x.compare(5, 6), 1);
        Check.index(x, "first", () -> x.compare(8, 0));
        Check.index(x, "second", () -> x.compare(0, -1));
    }

    private static void cents() {
        Doc.quote(24, "Returns the size of the interval of a register in cents, told to some digits behind the point.", "Returns the number of cents times 10 to the power of digits, rounded.");
        Tuninghouse x = fifthIn0();
        Check.due("down", x.cents(0, 9, 0), 701955000865L);
        Check.due("up", x.cents(0, 9, 1), 701955000866L);
        Check.due("nearest", x.cents(0, 9, 2), 701955000865L);
        Check.due("0 digits", x.cents(0, 0, 2), 702);
        x.fraction(1, 2, 3);
        Check.due("down", x.cents(1, 3, 0), -701956);
        Check.due("up", x.cents(1, 3, 1), -701955);
        Check.due("nearest", x.cents(1, 3, 2), -701955);
        Doc.quote(24, "- `way`: DOWN (to the lower one), UP (to the higher one) or NEAREST (a half to the higher one)");
        x.parts(2, 1, 32);
        Check.due("37.5 down", x.cents(2, 0, 0), 37);
        Check.due("37.5 up", x.cents(2, 0, 1), 38);
        Check.due("37.5 nearest", x.cents(2, 0, 2), 38);
        Check.due("37.5 whole", x.cents(2, 1, 1), 375);
        x.parts(2, -1, 32);
        Check.due("-37.5 down", x.cents(2, 0, 0), -38);
        Check.due("-37.5 up", x.cents(2, 0, 1), -37);
        Check.due("-37.5 nearest", x.cents(2, 0, 2), -37);
        int[][] near = {{1, 1, 38, 37, 38}, {1, -1, 37, 37, 38}, {-1, 1, -37, -38, -37}, {-1, -1, -38, -38, -37}};
        for (int[] n : near) {
            Make.octavesAnd(x, 2, n[0], 32, n[1]);
            Check.due("37.5 and a hair", x.cents(2, 0, 2) + " " + x.cents(2, 0, 0) + " " + x.cents(2, 0, 1), n[2] + " " + n[3] + " " + n[4]);
        }
        x.parts(2, 1, 12);
        Check.due("whole cents", x.cents(2, 9, 0) + " " + x.cents(2, 9, 1) + " " + x.cents(2, 9, 2), "100000000000 100000000000 100000000000");
        Make.octavesAnd(x, 2, 1, 12, 1);
        Check.due("a hair above", x.cents(2, 9, 0) + " " + x.cents(2, 9, 1) + " " + x.cents(2, 9, 2), "100000000000 100000000001 100000000000");
        Make.octavesAnd(x, 2, -1, 12, -1);
        Check.due("a hair below", x.cents(2, 9, 0) + " " + x.cents(2, 9, 1) + " " + x.cents(2, 9, 2), "-100000000001 -100000000000 -100000000000");
        x.fraction(3, 81, 80);
        Check.due("comma", x.cents(3, 9, 2), 21506289597L);
        Make.put(x, 4, 0, 0, 0, 0, 0, 5000);
        Check.due("13 to the power of 5000", x.cents(4, 9, 0), 22202638308846552L);
        for (int bad : new int[] {-1, 10, LOW, HIGH}) {
            Check.argument(x, "digits " + bad, () -> x.cents(0, bad, 0));
        }
        for (int bad : new int[] {-1, 3, LOW, HIGH}) {
            Check.argument(x, "way " + bad, () -> x.cents(0, 0, bad));
            Check.index(x, "register first", () -> x.cents(8, 0, bad));
        }
        Check.index(x, "register", () -> x.cents(-1, 0, 0));
    }

    private static void tell() {
        Doc.quote(25, "Tells the fraction of a register as the told numbers 0 (over the line) and 1 (under it), without common divisors.", "Returns whether it is above the unison.");
        Tuninghouse x = fifthIn0();
        Check.due("3 / 2", x.tell(0), true);
        Check.due("over", x.toldAt(0, 2), 3);
        Check.due("under", x.toldAt(1, 2), 2);
        x.fraction(1, 4, 5);
        Check.due("4 / 5", x.tell(1), false);
        Check.due("over", x.toldAt(0, 2), 4);
        Check.due("under", x.toldAt(1, 2), 5);
        Check.due("unison", x.tell(2), false);
        Check.due("1", x.toldAt(1, 2), 1);
        Doc.quote(25, "Throws `ArithmeticException` if its root is above 1, or an exponent is above 40 in amount");
        Make.put(x, 3, 40, 40, 40, -40, 40, -40);
        Check.due("40", x.tell(3), true);
        Check.due("digits over", x.toldAt(0, 0), 101);
        Check.due("digits under", x.toldAt(1, 0), 79);
        for (int p = 0; p < 6; p++) {
            for (int e = -41; e <= 41; e += 82) {
                int[] exponents = new int[6];
                exponents[p] = e;
                Make.put(x, 4, exponents);
                Check.arithmetic(x, e + " of prime " + p, () -> x.tell(4));
            }
        }
        Make.putRoot(x, 4, 2, 3);
        Check.arithmetic(x, "root 2", () -> x.tell(4));
        Make.put(x, 4, 0, 0, 0, 0, 0, -41);
        Check.arithmetic(x, "-41", () -> x.tell(4));
        Make.put(x, 4, 41);
        Check.arithmetic(x, "41", () -> x.tell(4));
        x.parts(4, 1, 2);
        Check.arithmetic(x, "a root", () -> x.tell(4));
        Check.index(x, "register", () -> x.tell(8));
        Check.index(x, "register", () -> x.tell(-1));
    }

    private static void toldAt() {
        Doc.quote(26, "Counts the told numbers.", "Returns 0 or 2.");
        Tuninghouse x = fifthIn0();
        Check.due("none", x.told(), 0);
        x.parts(1, 1, 2);
        Check.arithmetic(x, "a root", () -> x.tell(1));
        Check.due("still none", x.told(), 0);
        Doc.quote(27, "Tells about a told number.", "Returns what is asked.", "- `which`: 0 or 1");
        Check.index(x, "none yet", () -> x.toldAt(0, 0));
        Check.index(x, "none yet, and no such question", () -> x.toldAt(0, 3));
        x.tell(0);
        Check.due("two", x.told(), 2);
        Make.put(x, 2, -40, 40, 0, 40);
        x.tell(2);
        Check.due("decimal digits of 21 to the power of 40", x.toldAt(0, 0), 53);
        Check.due("binary digits", x.toldAt(0, 1), 176);
        Check.due("left", x.toldAt(0, 2), new BigInteger("21").pow(40).mod(BigInteger.valueOf(1000003)));
        Check.due("decimal digits of 2 to the power of 40", x.toldAt(1, 0), 13);
        Check.due("binary digits", x.toldAt(1, 1), 41);
        Doc.quote(27, "- `what`: 0 how many decimal digits it has (1 of 0), 1 how many binary digits (0 of 0), 2 what it leaves by 1000003");
        x.beats(0, 440, 3, 2);
        Check.due("digits of 0", x.toldAt(0, 0), 1);
        Check.due("binary digits of 0", x.toldAt(0, 1), 0);
        Check.due("left of 0", x.toldAt(0, 2), 0);
        for (int k = 1; k <= 6; k++) {
            x.fraction(3, (int) Math.pow(10, k), 1);
            x.tell(3);
            Check.due("digits of 10 to the power of " + k, x.toldAt(0, 0), k + 1);
        }
        x.fraction(3, 99, 98);
        x.tell(3);
        Check.due("digits of 99 and 98", x.toldAt(0, 0) + " " + x.toldAt(1, 0), "2 2");
        for (int greater = 40; greater > 0; greater -= 3) {
            Make.put(x, 4, -greater, greater, -greater, greater, -greater, greater);
            x.tell(4);
            for (int t = 0; t < 2; t++) {
                Check.due("digits of a great one", x.toldAt(t, 0) > greater && x.toldAt(t, 1) > 3 * greater, true);
            }
            Check.due("and then 99 / 98", x.tell(3), true);
            Check.due("its digits", x.toldAt(0, 0) + " " + x.toldAt(0, 1) + " " + x.toldAt(0, 2) + " " + x.toldAt(1, 0) + " " + x.toldAt(1, 1) + " " + x.toldAt(1, 2), "2 7 99 2 7 98");
        }
        x.fraction(3, 9, 8);
        x.tell(3);
        Check.due("digits of 9 and 8", x.toldAt(0, 0) + " " + x.toldAt(1, 0), "1 1");
        x.fraction(3, 1000000, 1);
        x.tell(3);
        Check.due("left of 1000000", x.toldAt(0, 2), 1000000);
        // Just below, and just above, powers of ten and of two.
        int[][] near = {{0, 7, 15, 9, 0, 5}, {11, 0, 0, 9, 2, 0}, {18, 4, 0, 0, 8, 3}, {0, 1, 11, 10, 1, 3}, {7, 6, 0, 8, 1, 2}, {0, 3, 15, 3, 5, 3}, {7, 2, 0, 2, 6, 0},
            {0, 6, 2, 4, 7, 2}, {0, 7, 5, 5, 6, 5}, {0, 3, 6, 7, 1, 6}, {0, 2, 3, 6, 2, 3}, {16}, {4, 2, 1, 1, 0, 1}, {32}, {40}, {0}};
        for (int[] n : near) {
            Make.put(x, 3, n);
            x.tell(3);
            BigInteger due = BigInteger.ONE;
            for (int i = 0; i < n.length; i++) {
                due = due.multiply(BigInteger.valueOf(Make.PRIMES[i]).pow(n[i]));
            }
            Check.due("digits of " + due, x.toldAt(0, 0) + " " + x.toldAt(0, 1) + " " + x.toldAt(0, 2),
                due.toString().length() + " " + due.bitLength() + " " + due.mod(BigInteger.valueOf(1000003)));
        }
        for (int bad : new int[] {-1, 2, LOW, HIGH}) {
            Check.index(x, "which " + bad, () -> x.toldAt(bad, 3));
        }
        for (int bad : new int[] {-1, 3, LOW, HIGH}) {
            Check.argument(x, "what " + bad, () -> x.toldAt(1, bad));
        }
    }

    private static void names() {
        Doc.quote(28, "Returns the name of the interval of a register.", "Returns the name; NONE without one.");
        Tuninghouse x = fifthIn0();
        Check.due("without", x.nameOf(0), Tuninghouse.NONE);
        x.giveName(0, 0);
        Check.due("with", x.nameOf(0), 0);
        x.fraction(1, 9, 6);
        Check.due("the same interval", x.nameOf(1), 0);
        x.fraction(0, 3, 1);
        Check.due("another one", x.nameOf(0), -1);
        Check.index(x, "register", () -> x.nameOf(8));
        Check.index(x, "register", () -> x.nameOf(-1));
        Doc.quote(29, "Counts the intervals with names that are less than the interval of a register.", "Returns how many there are.");
        Check.due("one below 3", x.namesBelow(0), 1);
        Check.due("not itself", x.namesBelow(1), 0);
        for (int i = 1; i <= 100; i++) {
            x.parts(2, i * 7 % 101 - 50, 50);
            x.giveName(2, i % 100);
        }
        Check.due("below the unison", x.namesBelow(7), 49);
        Check.due("below the octave", x.namesBelow(0), 101);
        x.parts(2, 1, 50);
        Check.due("next to it", x.namesBelow(2), 50);
        x.parts(2, 1000, 1);
        Check.due("below all", x.namesBelow(2), 101);
        for (int i = 1; i <= 100; i++) {
            x.parts(2, i * 7 % 101 - 50, 50);
            Check.due("each has its own name", x.nameOf(2), i % 100);
        }
        Check.index(x, "register", () -> x.namesBelow(8));
        Check.index(x, "register", () -> x.namesBelow(LOW));
    }

    private static void tonesAndSteps() {
        Doc.quote(30, "Counts the tones of a scale.", "Returns how many there are.");
        Tuninghouse x = fifthIn0();
        Check.due("one", x.tones(3), 1);
        x.row(3, 0, -1, 7);
        Check.due("seven", x.tones(3), 7);
        for (int bad : new int[] {-1, 4, LOW, HIGH}) {
            Check.index(x, "scale " + bad, () -> x.tones(bad));
        }
        Doc.quote(31, "Returns the step of a scale at which the interval of a register, octaves taken off, is a tone.", "Returns the step; if it is none, -1 less the number of tones that are less.");
        Check.due("a fifth", x.stepOf(3, 0), 4);
        x.fraction(1, 4, 3);
        Check.due("a fourth", x.stepOf(3, 1), 3);
        x.fraction(1, 1, 3);
        Check.due("a fourth far below", x.stepOf(3, 1), 3);
        x.fraction(1, 5, 4);
        Check.due("none", x.stepOf(3, 1), -3);
        x.fraction(1, 1024, 1);
        Check.due("octaves", x.stepOf(3, 1), 0);
        x.fraction(1, 63, 32);
        Check.due("above all", x.stepOf(3, 1), -8);
        x.tone(3, 2, false);
        Check.due("below all", x.stepOf(3, 2), -1);
        Make.put(x, 2, 0, 5000);
        Check.due("what could not be kept", x.stepOf(3, 2), -6);
        Make.octavesAnd(x, 2, 0, 1, -1);
        Check.due("just below the unison is above all", x.stepOf(0, 2), -2);
        Make.octavesAnd(x, 2, 1, 1, 1);
        Check.due("just above the octave is just above the unison", x.stepOf(0, 2), -2);
        x.tone(0, 2, true);
        Make.octavesAnd(x, 2, -1, 1, 0);
        Check.due("the unison", x.stepOf(0, 2) + " " + x.tones(0), "0 2");
        Check.index(x, "scale", () -> x.stepOf(4, 0));
        Check.index(x, "register", () -> x.stepOf(0, 8));
        Check.index(x, "register", () -> x.stepOf(0, -1));
    }

    private static void sizeOf() {
        Doc.quote(32, "Returns the size of a tone or a gap of a scale in cents, rounded to the nearest whole number (a half upward).", "- `isGap`: whether the gap is asked", "Returns the cents.");
        Tuninghouse x = fifthIn0();
        x.row(0, 0, -1, 7);
        Check.due("tones", Check.sizes(x, 0), "0 204 408 498 702 906 1110");
        Check.due("gaps", Check.gaps(x, 0), "204 204 90 204 204 204 90");
        x.parts(1, 1, 32);
        x.tone(1, 1, true);
        Check.due("37.5 and 1162.5", Check.sizes(x, 1) + ", " + Check.gaps(x, 1), "0 38, 38 1163");
        x.tone(1, 7, false);
        Check.due("the gap of one tone", Check.sizes(x, 1) + ", " + Check.gaps(x, 1), "38, 1200");
        x.parts(1, -1, 360);
        x.tone(2, 1, true);
        Check.due("1196.67", x.sizeOf(2, 1, false), 1197);
        x.parts(1, 1, 359);
        x.tone(2, 1, true);
        Check.due("roots 359 and 360", Check.gaps(x, 2), "3 1193 3");
        for (int bad : new int[] {-1, 7, LOW, HIGH}) {
            Check.index(x, "step " + bad, () -> x.sizeOf(0, bad, false));
            Check.index(x, "step " + bad, () -> x.sizeOf(0, bad, true));
        }
        Check.index(x, "scale", () -> x.sizeOf(4, 0, true));
    }

    private static void gapSorts() {
        Doc.quote(33, "Counts the sorts of gaps of a scale.", "Returns how many there are.");
        Tuninghouse x = fifthIn0();
        Check.due("one", x.gapSorts(0), 1);
        x.row(0, 0, -1, 7);
        Check.due("two", x.gapSorts(0), 2);
        x.row(1, 0, 0, 11);
        Check.due("three", x.gapSorts(1), 3);
        x.parts(1, 1, 31);
        x.row(2, 1, 0, 31);
        Check.due("31 alike", x.gapSorts(2), 1);
        Check.index(x, "scale", () -> x.gapSorts(4));
        Check.index(x, "scale", () -> x.gapSorts(-1));
        Doc.quote(34, "Returns the sort of the gap of a step.", "Returns the number of the sort.");
        StringBuilder s = new StringBuilder();
        for (int i = 0; i < 7; i++) {
            s.append(x.gapSort(0, i));
        }
        Check.due("major", s, "1101110");
        s.setLength(0);
        for (int i = 0; i < 11; i++) {
            s.append(x.gapSort(1, i));
        }
        Check.due("eleven fifths", s, "10102010100");
        for (int bad : new int[] {-1, 7, LOW, HIGH}) {
            Check.index(x, "step " + bad, () -> x.gapSort(0, bad));
        }
        Check.index(x, "scale", () -> x.gapSort(4, 0));
    }

    /** Gaps of intervals with great exponents and roots that have no divisor in common. */
    private static void gapsFar() {
        int[][][] tones = {
            {{0, 2866, 4616, -3827, -4685, 2787}, {0, -4431, -318, -2228, 447, 3976}},
            {{0, -2430, -4571, -85, 2098, 1902}, {0, -2952, -4176, -4164, 1289, 4707}},
            {{0, 3874, -4386, -1667, 1783, -123}, {0, 3292, -1254, -487, -990, 470}},
            {{0, 688, -1174, -3785, 4744, -198}, {0, 2981, -2921, -2085, 3344, 13}},
        };
        for (int[][] t : tones) {
            Tuninghouse x = new Tuninghouse();
            Make.putRoot(x, 0, 323, t[0]);
            Make.putRoot(x, 1, 360, t[1]);
            x.tone(0, 0, true);
            x.tone(0, 1, true);
            Check.due("three tones", x.tones(0) + " " + x.gapSorts(0), "3 3");
            for (int i = 0; i < 3; i++) {
                int less = 0;
                for (int k = 0; k < 3; k++) {
                    less += x.sizeOf(0, k, true) < x.sizeOf(0, i, true) ? 1 : 0;
                }
                Check.due("as many sorts below as sizes", x.gapSort(0, i), less);
            }
        }
    }

    private static void symmetry() {
        Doc.quote(35, "Counts the steps of a scale from which on its mode is the scale itself.", "Returns how many there are; 0 for a scale without the unison.");
        Tuninghouse x = fifthIn0();
        Check.due("one tone", x.symmetry(0), 1);
        x.row(0, 0, -1, 7);
        Check.due("major", x.symmetry(0), 1);
        x.parts(1, 1, 6);
        x.row(1, 1, 0, 6);
        Check.due("whole tones", x.symmetry(1), 6);
        x.parts(1, 1, 4);
        x.row(2, 1, 0, 4);
        x.parts(1, 1, 12);
        for (int i = 0; i < 4; i++) {
            x.tone(2, 1, true);
            x.parts(2, 1, 4);
            x.sum(1, 1, 2, false);
        }
        Check.due("diminished", x.symmetry(2) + " of " + x.tones(2), "4 of 8");
        x.row(3, 0, 1, 3);
        Check.due("without the unison", x.symmetry(3), 0);
        x.parts(1, 1, 6);
        x.parts(2, 1, 12);
        x.row(3, 1, 0, 1);
        x.tone(3, 2, true);
        x.tone(3, 7, false);
        Check.due("one tone, not the unison", x.symmetry(3), 0);
        int[][] odd = {{7, 5}, {11, 9}, {13, 7}, {15, 11}};
        for (int[] o : odd) {
            x.fraction(1, o[0], o[1]);
            Make.onlyTone(x, 3, 1);
            Check.due("one tone without the prime 2", x.symmetry(3), 0);
        }
        Make.octavesAnd(x, 1, 0, 1, 1);
        Make.onlyTone(x, 3, 1);
        Check.due("one tone, by a hair not the unison", x.symmetry(3), 0);
        Check.index(x, "scale", () -> x.symmetry(4));
        Check.index(x, "scale", () -> x.symmetry(LOW));
    }

    private static void nearest() {
        Doc.quote(36, "Returns a nearest miss of the row of a register.", "Returns the number.");
        Tuninghouse x = fifthIn0();
        int[] due = {1, 2, 5, 12, 41, 53, 306, 665};
        for (int i = 0; i < due.length; i++) {
            Check.due("index " + i, x.nearest(0, i, 2000), due[i]);
            int at = i;
            Check.due("index " + i, x.nearest(0, i, due[i]), due[i]);
            if (i > 0) {
                Check.refused(x, "one less", NoSuchElementException.class, () -> x.nearest(0, at, due[at] - 1));
            }
        }
        Doc.quote(36, "Throws `NoSuchElementException` if there are not so many");
        Check.refused(x, "index 8", NoSuchElementException.class, () -> x.nearest(0, 8, 2000));
        Check.refused(x, "index far", NoSuchElementException.class, () -> x.nearest(0, HIGH, 2000));
        x.fraction(1, 2, 3);
        Check.due("down", x.nearest(1, 7, 2000), 665);
        x.parts(2, 1, 2);
        Check.due("a half", x.nearest(2, 0, 2000) + " " + x.nearest(2, 1, 2000), "1 2");
        Check.refused(x, "nothing is nearer than 0", NoSuchElementException.class, () -> x.nearest(2, 2, 2000));
        x.parts(2, 3, 5);
        Check.due("3 of 5", x.nearest(2, 0, 5) + " " + x.nearest(2, 1, 5) + " " + x.nearest(2, 2, 5), "1 2 5");
        Check.due("the unison", x.nearest(3, 0, 1), 1);
        for (int parts = 2; parts <= 360; parts++) {
            x.parts(4, 1, parts);
            Check.due("nothing is nearer than 1 of " + parts + ", but 0", x.nearest(4, 1, parts), parts);
            int less = parts - 1;
            Check.refused(x, "one less than " + parts, NoSuchElementException.class, () -> x.nearest(4, 1, less));
        }
        Check.refused(x, "the unison", NoSuchElementException.class, () -> x.nearest(3, 1, 2000));
        Doc.quote(36, "Throws `IllegalArgumentException` if index is below 0, or most is out of range");
        for (int bad : new int[] {0, -1, 2001, LOW, HIGH}) {
            Check.argument(x, "most " + bad, () -> x.nearest(0, 0, bad));
            Check.index(x, "register first", () -> x.nearest(8, 0, bad));
        }
        Check.argument(x, "index", () -> x.nearest(0, -1, 5));
        Check.argument(x, "index", () -> x.nearest(0, LOW, 5));
        Check.index(x, "register first", () -> x.nearest(-1, -1, 5));
    }

    private static void term() {
        Doc.quote(37, "Returns a term of the continued fraction of the size of a register.", "Returns the term.");
        Tuninghouse x = new Tuninghouse();
        x.fraction(0, 3, 1);
        int[] due = {1, 1, 1, 2, 2, 3, 1, 5, 2, 23, 2, 2, 1, 1, 55, 1};
        for (int i = 0; i < 16; i++) {
            Check.due("term " + i, x.term(0, i), due[i]);
        }
        x.parts(1, 7, 12);
        Check.due("7 of 12", x.term(1, 0) + " " + x.term(1, 1) + " " + x.term(1, 2) + " " + x.term(1, 3) + " " + x.term(1, 4), "0 1 1 2 2");
        Doc.quote(37, "Throws `NoSuchElementException` if the fraction has ended ahead of it");
        x.parts(4, 7, 12);
        x.fraction(3, 13, 11);
        x.sum(4, 4, 3, false);
        x.parts(5, 5, 12);
        x.string(4, 599);
        Check.due("the last one of 5 of 12, behind a string", x.term(5, 3), 2);
        Check.refused(x, "it has ended", NoSuchElementException.class, () -> x.term(1, 5));
        x.parts(1, 1000, 1);
        Check.due("1000 octaves", x.term(1, 0), 1000);
        Check.refused(x, "it has ended", NoSuchElementException.class, () -> x.term(1, 1));
        Doc.quote(37, "Throws `ArithmeticException` if the interval is not above the unison, or the term that is asked is above 1000000000000000000");
        Check.arithmetic(x, "the unison", () -> x.term(2, 0));
        Check.arithmetic(x, "the unison, behind its end", () -> x.term(2, 15));
        x.fraction(2, 2, 3);
        Check.arithmetic(x, "below the unison", () -> x.term(2, 3));
        Make.octavesAnd(x, 2, 0, 1, -1);
        Check.arithmetic(x, "just below the unison", () -> x.term(2, 0));
        Make.octavesAnd(x, 2, 0, 1, 1);
        Check.due("just above the unison", x.term(2, 0), 0);
        for (int bad : new int[] {-1, 16, LOW, HIGH}) {
            Check.argument(x, "index " + bad, () -> x.term(0, bad));
            Check.argument(x, "index, and the unison", () -> x.term(3, bad));
            Check.index(x, "register first", () -> x.term(8, bad));
        }
        Check.index(x, "register", () -> x.term(-1, 0));
    }

    /** Intervals so small that a term is at, or beyond, what is told. */
    private static void termFar() {
        Tuninghouse x = new Tuninghouse();
        Make.put(x, 0, 351, -666, 710, -755, 358, -17);
        Check.due("term 0", x.term(0, 0), 0);
        Check.due("term 1", x.term(0, 1), 73120905889729845L);
        Make.put(x, 1, -1246, -3003, 1188, 558, -2091, 2409);
        Check.due("term 0", x.term(1, 0), 0);
        Check.arithmetic(x, "term 1", () -> x.term(1, 1));
        Check.due("term 2 to 15 are told all the same", x.term(1, 2) > 0 && x.term(1, 15) > 0, true);
        x.times(0, 1, 13);
        Check.due("term 1 of a 13th", x.term(0, 1), 950571776566487996L);
        for (int k = 14; k <= 24; k++) {
            x.times(0, k - 1, k);
            Check.arithmetic(x, "term 1 of part " + k, () -> x.term(0, 1));
        }
    }

    private static void best() {
        Doc.quote(38, "Returns the best number of a register in equal parts.", "Returns the number.");
        Tuninghouse x = fifthIn0();
        Check.due("12", x.best(12, 0), 7);
        Check.due("53", x.best(53, 0), 31);
        Check.due("1", x.best(1, 0), 1);
        Check.due("10000", x.best(10000, 0), 5850);
        x.parts(1, 1, 2);
        Check.due("a half", x.best(1, 1), 1);
        x.parts(1, -1, 2);
        Check.due("less half", x.best(1, 1), 0);
        x.parts(1, -3, 2);
        Check.due("less one and a half", x.best(1, 1), -1);
        Make.put(x, 2, 5000, 5000, 5000, 5000, 5000, 5000);
        Check.due("the greatest", x.best(10000, 2), 743705843);
        // Powers of one prime whose parts are a half and a hair: just above it, just below it. Prime, power, parts, due.
        int[][] halves = {{1, 596, 8725, 8241964}, {1, 761, 7334, 8845951}, {2, 1489, 5786, 20004233}, {2, 886, 5574, 11466990}, {3, 1521, 9306, 39736498},
            {3, 818, 7099, 16302259}, {4, 395, 5875, 8028044}, {4, 1090, 9864, 37194978}, {5, 472, 9103, 15899369}, {5, 685, 5717, 14491458}};
        for (int[] h : halves) {
            int[] exponents = new int[6];
            exponents[h[0]] = h[1];
            Make.put(x, 2, exponents);
            String what = h[2] + " parts of " + h[1] + " times " + Make.PRIMES[h[0]];
            Check.due(what, x.best(h[2], 2), h[3]);
            x.times(2, -1, 1);
            Check.due(what + ", turned", x.best(h[2], 2), -h[3]);
            int octaves = x.octavesOff(2);
            Check.due(what + ", turned, octaves off", x.best(h[2], 2), -h[3] - octaves * h[2]);
        }
        for (int bad : new int[] {0, -1, 10001, LOW, HIGH}) {
            Check.argument(x, "parts " + bad, () -> x.best(bad, 0));
            Check.argument(x, "parts first", () -> x.best(bad, 8));
        }
        Check.index(x, "register", () -> x.best(12, 8));
        Check.index(x, "register", () -> x.best(12, -1));
    }

    private static void mapped() {
        Doc.quote(39, "Returns the number that a register is mapped to in equal parts.", "Returns the number.");
        Tuninghouse x = fifthIn0();
        Check.due("a fifth in 12", x.mapped(12, 0), 7);
        x.fraction(1, 81, 80);
        Check.due("the comma in 12", x.mapped(12, 1), 0);
        Check.due("the comma in 53", x.mapped(53, 1), 1);
        Check.due("the comma in 1000", x.mapped(1000, 1), 4 * 1585 - 4000 - 2322);
        x.fraction(2, 1001, 60);
        Check.due("all primes in 12", x.mapped(12, 2), 34 + 42 + 44 - 24 - 19 - 28);
        x.compare(2, 1);
        Check.due("again, behind a question", x.mapped(12, 2), 34 + 42 + 44 - 24 - 19 - 28);
        Check.due("in 1", x.mapped(1, 2), 3 + 3 + 4 - 2 - 2 - 2);
        Doc.quote(39, "Throws `ArithmeticException` if the root of the interval is above 1");
        x.parts(3, 1, 2);
        Check.arithmetic(x, "a root", () -> x.mapped(12, 3));
        for (int bad : new int[] {0, -1, 1001, LOW, HIGH}) {
            Check.argument(x, "parts " + bad, () -> x.mapped(bad, 3));
            Check.argument(x, "parts first", () -> x.mapped(bad, 8));
        }
        Check.index(x, "register", () -> x.mapped(12, 8));
        Check.index(x, "register", () -> x.mapped(12, -1));
    }

    private static void commas() {
        Doc.quote(40, "Counts the commas: the intervals with the root 1, exponents b of 3 from -three to three, c of 5 from -five to five, no other primes but 2, that are above the unison, less than the interval of a register, and vanish in equal parts, if that is asked.", "Returns how many there are.");
        Tuninghouse x = new Tuninghouse();
        x.fraction(0, 2, 1);
        Check.due("none but the unison", x.commas(0, 0, 0, 0), 0);
        Check.due("of 5 alone", x.commas(0, 3, 0, 0), 6);
        Check.due("those that vanish in 12", x.commas(0, 3, 0, 12), 1);
        Check.due("all below the octave", x.commas(20, 10, 0, 0), 41 * 21 - 1);
        x.fraction(1, 128, 125);
        Check.due("below 128 / 125", x.commas(0, 3, 1, 12), 0);
        x.fraction(2, 81, 80);
        Check.due("not below itself", x.commas(4, 1, 2, 0), 0);
        x.fraction(3, 26, 25);
        Check.due("81 / 80 below 26 / 25", x.commas(4, 1, 3, 0), 1);
        Check.due("the comma vanishes in 12, 19, 31", x.commas(4, 1, 0, 12) + " " + x.commas(4, 1, 0, 19) + " " + x.commas(4, 1, 0, 31), "1 1 1");
        Check.due("not in 53", x.commas(4, 1, 0, 53), 0);
        Check.due("vanish in 1: 4 / 3, 5 / 4, 5 / 3, 16 / 15", x.commas(1, 1, 0, 1), 4);
        Check.due("below the unison", x.commas(20, 10, 7, 0), 0);
        x.fraction(4, 1, 2);
        Check.due("below 1 / 2", x.commas(20, 10, 4, 0), 0);
        int[][] bounds = {{1, 1}, {16, 15}, {15, 14}, {6, 5}, {5, 4}, {4, 3}, {3, 2}, {8, 5}, {5, 3}, {15, 8}, {21, 11}, {2, 1}};
        for (int[] b : bounds) {
            x.fraction(4, b[0], b[1]);
            Check.due("below " + b[0] + " / " + b[1], x.commas(1, 1, 4, 0), below(b[0], b[1]));
        }
        x.parts(5, 1, 24);
        Check.due("below a root", x.commas(5, 3, 5, 0), 4);
        Doc.quote(40, "Throws `ArithmeticException` if the interval of the register is greater than the octave");
        x.fraction(4, 3, 1);
        Check.arithmetic(x, "above the octave", () -> x.commas(1, 1, 4, 0));
        x.parts(4, 360, 359);
        Check.arithmetic(x, "just above the octave", () -> x.commas(0, 0, 4, 0));
        Make.octavesAnd(x, 4, 1, 1, 1);
        Check.arithmetic(x, "above the octave by a hair", () -> x.commas(0, 0, 4, 0));
        Make.octavesAnd(x, 4, 1, 1, -1);
        Check.due("below the octave by a hair", x.commas(1, 1, 4, 0), 8);
        x.fraction(4, 2, 1);
        Check.due("the octave", x.commas(1, 1, 4, 0), 8);
        for (int bad : new int[] {-1, 21, LOW, HIGH}) {
            Check.argument(x, "three " + bad, () -> x.commas(bad, 0, 8, 0));
        }
        for (int bad : new int[] {-1, 11, LOW, HIGH}) {
            Check.argument(x, "five " + bad, () -> x.commas(0, bad, 4, 0));
        }
        for (int bad : new int[] {-1, 101, LOW, HIGH}) {
            Check.argument(x, "parts " + bad, () -> x.commas(0, 0, 8, bad));
        }
        Check.index(x, "register", () -> x.commas(0, 0, 8, 0));
        Check.index(x, "register", () -> x.commas(0, 0, -1, 100));
    }

    /** How many of the eight intervals of 3 and 5, at most once each, are below a fraction. */
    private static int below(int over, int under) {
        int count = 0;
        for (int[] c : new int[][] {{16, 15}, {6, 5}, {5, 4}, {4, 3}, {3, 2}, {8, 5}, {5, 3}, {15, 8}}) {
            count += c[0] * under < over * c[1] ? 1 : 0;
        }
        return count;
    }

    private static Tuninghouse werckmeister() {
        Tuninghouse x = new Tuninghouse();
        for (int k : new int[] {0, 1, 2, 5}) {
            x.temper(k, 6);
        }
        return x;
    }

    private static void closes() {
        Doc.quote(41, "Tells whether the twelve fifths close.", "Returns true if they do.");
        Tuninghouse x = werckmeister();
        Check.due("four of 6", x.closes(), true);
        x.temper(11, 1);
        Check.due("25", x.closes(), false);
        x.temper(3, -1);
        Check.due("24 again", x.closes(), true);
        x.temper(5, 5);
        Check.due("23", x.closes(), false);
    }

    private static void impurity() {
        Doc.quote(42, "Returns how far the third of a key is from pure, in cents, told to some digits, rounded to the nearest one (a half to the higher one).", "Returns the cents, without sign, times 10 to the power of digits.");
        Tuninghouse x = werckmeister();
        int[] due = {3911, 9776, 9776, 15641, 15641, 15641, 21506, 21506, 21506, 15641, 9776, 3911};
        for (int k = 0; k < 12; k++) {
            Check.due("key " + k, x.impurity(k, 3), due[k]);
        }
        Check.due("0 digits", x.impurity(0, 0), 4);
        Check.due("6 digits", x.impurity(6, 6), 21506290);
        for (int k = 0; k < 4; k++) {
            x.temper(k, 24);
        }
        Check.due("narrow thirds, without sign", x.impurity(0, 6), 72333752);
        for (int k = 0; k < 4; k++) {
            x.temper(k, -24);
        }
        Check.due("the widest", x.impurity(0, 6), 115346331);
        for (int bad : new int[] {-1, 7, LOW, HIGH}) {
            Check.argument(x, "digits " + bad, () -> x.impurity(0, bad));
            Check.index(x, "key first", () -> x.impurity(12, bad));
        }
        Check.index(x, "key", () -> x.impurity(-1, 0));
    }

    private static void pure() {
        Doc.quote(43, "Returns a key by the order of the keys (section 6).", "Returns the key.");
        Tuninghouse x = werckmeister();
        int[] due = {0, 11, 1, 2, 10, 3, 4, 5, 9, 6, 7, 8};
        for (int k = 0; k < 12; k++) {
            Check.due("place " + k, x.pure(k), due[k]);
        }
        Tuninghouse y = new Tuninghouse();
        for (int k = 0; k < 12; k++) {
            Check.due("all alike, place " + k, y.pure(k), k);
        }
        // 21 and 23 parts less are on both sides of the pure third, and by a hair not as far from it.
        y.temper(0, 21);
        y.temper(4, 23);
        Check.due("wide by 21, narrow by 23", y.impurity(0, 6) + " " + y.impurity(4, 6), "978781 976220");
        Check.due("first", y.pure(0) + " " + y.pure(4), "1 0");
        Doc.quote(43, "Throws `IndexOutOfBoundsException` if there is no such place");
        for (int bad : new int[] {-1, 12, LOW, HIGH}) {
            Check.index(x, "place " + bad, () -> x.pure(bad));
        }
    }

    private static void moves() {
        Doc.quote(44, "Counts the moves of the tune.", "Returns 0 to 60.");
        Tuninghouse x = fifthIn0();
        for (int i = 1; i <= 60; i++) {
            x.move(0, i % 2 == 0);
            Check.due("moves", x.moves(), i);
        }
        x.undo();
        Check.due("undone", x.moves(), 59);
        x.endTune();
        Check.due("ended", x.moves(), 0);
    }

    private static void chord() {
        Doc.quote(45, "Tells how a chord stands in whole numbers: the least whole numbers, one for each of its registers, that are to each other as the intervals.", "Returns the number of this one.");
        Tuninghouse x = new Tuninghouse();
        x.fraction(1, 5, 4);
        x.fraction(2, 3, 2);
        Check.due("4 : 5 : 6", x.chord(7, 0) + " " + x.chord(7, 1) + " " + x.chord(7, 2), "4 5 6");
        Check.due("5 : 6", x.chord(6, 1) + " " + x.chord(6, 2), "5 6");
        Check.due("one alone", x.chord(4, 2), 1);
        x.fraction(3, 6, 5);
        Check.due("10 : 12 : 15", x.chord(13, 0) + " " + x.chord(13, 3) + " " + x.chord(13, 2), "10 12 15");
        x.fraction(4, 8, 1);
        x.fraction(5, 4, 1);
        Check.due("2 : 1", x.chord(48, 4) + " " + x.chord(48, 5), "2 1");
        Doc.quote(45, "Throws `ArithmeticException` if one of the intervals has a root above 1, or an exponent above 100 in amount, or the number is above 2147483647");
        Make.put(x, 4, 31);
        Check.arithmetic(x, "2147483648", () -> x.chord(17, 4));
        Check.due("1 beside it", x.chord(17, 0), 1);
        Make.put(x, 4, 30);
        Check.due("1073741824", x.chord(17, 4), 1073741824);
        Make.put(x, 4, 2, 3, 0, 6, 0, 2);
        Check.due("the greatest one that can be", x.chord(17, 4), 2147329548);
        Make.put(x, 4, 100, -100);
        Check.due("100", x.chord(16, 4), 1);
        Check.arithmetic(x, "the number", () -> x.chord(17, 0));
        Make.put(x, 4, 101);
        Check.arithmetic(x, "101", () -> x.chord(17, 0));
        Make.put(x, 4, 0, 0, 0, 0, 0, -101);
        Check.arithmetic(x, "-101", () -> x.chord(16, 4));
        x.parts(4, 1, 2);
        Check.arithmetic(x, "a root", () -> x.chord(17, 0));
        Check.due("not in the chord", x.chord(7, 1), 5);
        Doc.quote(45, "Throws `IllegalArgumentException` if chord is out of range");
        for (int bad : new int[] {0, -1, 256, LOW, HIGH}) {
            Check.argument(x, "chord " + bad, () -> x.chord(bad, 0));
            Check.argument(x, "chord first", () -> x.chord(bad, 9));
        }
        Doc.quote(45, "Throws `IndexOutOfBoundsException` if there is no such register in the chord");
        Check.index(x, "register 3 of 0 to 2", () -> x.chord(7, 3));
        Check.index(x, "register first", () -> x.chord(16, 0));
        for (int bad : new int[] {-1, 8, 32, LOW, HIGH}) {
            Check.index(x, "register " + bad, () -> x.chord(255, bad));
        }
    }

    private static void beats() {
        Doc.quote(46, "Tells the beats of two tones, the lower one with a number of swings in a second, the upper one by the interval of a register above it: how far the m-th partial of the upper one is from the n-th one of the lower one (without sign), as a fraction without common divisors; its told numbers are 0 (over the line) and 1 (under it).", "Returns whether they do not beat.");
        Tuninghouse x = fifthIn0();
        Check.due("a pure fifth", x.beats(0, 440, 3, 2), true);
        Check.due("0 / 1", x.toldAt(0, 1) + " " + x.toldAt(1, 2), "0 1");
        x.fraction(1, 81, 64);
        Check.due("a wide third", x.beats(1, 264, 5, 4), false);
        Check.due("33 / 2", x.toldAt(0, 2) + " " + x.toldAt(1, 2), "33 2");
        x.fraction(1, 5, 4);
        Check.due("without sign", x.beats(1, 1, 100, 1), false);
        Check.due("395 / 4", x.toldAt(0, 2) + " " + x.toldAt(1, 2), "395 4");
        Check.due("without divisors", x.beats(1, 10000, 2, 3), false);
        Check.due("17500 / 1", x.toldAt(0, 2) + " " + x.toldAt(1, 2), "17500 1");
        Make.put(x, 3, -40, 40, -40, 40, -40, 40);
        for (int n = 1; n <= 100; n += 9) {
            x.beats(3, 10000, n, 100);
            Check.due("great ones", x.toldAt(0, 0) > 90 && x.toldAt(1, 0) > 75, true);
            x.fraction(4, 1, 131072);
            x.beats(4, 1, 1, 1);
            Check.due("131071 / 131072", x.toldAt(0, 0) + " " + x.toldAt(0, 1) + " " + x.toldAt(0, 2) + " " + x.toldAt(1, 1) + " " + x.toldAt(1, 2), "6 17 131071 18 131072");
            x.beats(1, 10000, 2, 3);
            Check.due("again 17500 / 1", x.toldAt(0, 0) + " " + x.toldAt(0, 1) + " " + x.toldAt(0, 2) + " " + x.toldAt(1, 0) + " " + x.toldAt(1, 1), "5 15 17500 1 1");
        }
        Doc.quote(46, "Throws `ArithmeticException` if the root of the interval is above 1, or an exponent is above 40 in amount");
        Make.put(x, 2, 40, 40, 40, 40, 40, 40);
        Check.due("the greatest", x.beats(2, 10000, 1, 100), false);
        Check.due("its digits", x.toldAt(0, 0) + " " + x.toldAt(1, 0), "186 1");
        Make.put(x, 2, -40, -40, -40, -40, -40, -40);
        Check.due("the least", x.beats(2, 1, 1, 1), false);
        Check.due("its digits", x.toldAt(0, 0) + " " + x.toldAt(1, 0), "180 180");
        Make.put(x, 2, 0, 41);
        Check.arithmetic(x, "41", () -> x.beats(2, 1, 1, 1));
        x.parts(2, 1, 2);
        Check.arithmetic(x, "a root", () -> x.beats(2, 1, 1, 1));
        for (int bad : new int[] {0, -1, LOW, HIGH}) {
            Check.argument(x, "swings " + bad, () -> x.beats(0, bad, 1, 1));
            Check.argument(x, "n " + bad, () -> x.beats(0, 1, bad, 1));
            Check.argument(x, "m first", () -> x.beats(2, 1, 1, bad));
        }
        Check.argument(x, "swings", () -> x.beats(0, 10001, 1, 1));
        Check.argument(x, "n", () -> x.beats(0, 1, 101, 1));
        Check.argument(x, "m", () -> x.beats(0, 1, 1, 101));
        Check.index(x, "register first", () -> x.beats(8, 0, 1, 1));
        Check.index(x, "register", () -> x.beats(-1, 1, 1, 1));
    }

    private static void string() {
        Doc.quote(47, "Returns how long a string must be to sound higher by the interval of a register.", "Returns the greatest whole number that is not above length divided by the number that the interval stands for; 1000000000 if it is greater than that.");
        Tuninghouse x = fifthIn0();
        Check.due("a fifth", x.string(0, 600), 400);
        Check.due("just below", x.string(0, 599), 399);
        Check.due("1", x.string(0, 1), 0);
        Check.due("the unison", x.string(7, 1000000), 1000000);
        // Ratio, length, due: just whole, and one more and one less.
        int[][] whole = {{2, 1, 600, 300}, {2, 1, 601, 300}, {2, 1, 599, 299}, {2, 1, 1, 0}, {2, 1, 2, 1}, {1, 2, 599, 1198}, {5, 4, 1000000, 800000}, {5, 4, 999999, 799999},
            {7, 1, 7, 1}, {7, 1, 6, 0}, {7, 1, 13, 1}, {1, 7, 999999, 6999993}, {11, 13, 11, 13}, {11, 13, 10, 11}, {11, 13, 12, 14}, {1000000, 1, 1000000, 1}, {1000000, 1, 999999, 0}};
        for (int[] w : whole) {
            x.fraction(1, w[0], w[1]);
            Check.due(w[0] + " / " + w[1] + " of " + w[2], x.string(1, w[2]), w[3]);
        }
        x.parts(1, 7, 12);
        Check.due("7 of 12", x.string(1, 1000000), 667419);
        x.parts(1, -1, 2);
        Check.due("longer", x.string(1, 1000000), 1414213);
        int[][] halves = {{-25, 2, 1, 5792}, {-59, 2, 1, 759250124}, {-61, 2, 1, 1000000000}, {39, 2, 1000000, 1}, {41, 2, 1000000, 0}, {-1, 2, 2, 2}, {1, 2, 1, 0}, {-59, 3, 3, 2496765}, {-119, 4, 1, 902905650}};
        for (int[] h : halves) {
            x.parts(1, h[0], h[1]);
            Check.due(h[0] + " of " + h[1], x.string(1, h[2]), h[3]);
        }
        x.parts(1, 30, 1);
        Check.due("30 octaves", x.string(1, 1000000), 0);
        x.parts(1, -29, 1);
        Check.due("29 octaves down", x.string(1, 1), 536870912);
        Check.due("the most", x.string(1, 2), 1000000000);
        x.fraction(1, 1, 1000000);
        Check.due("just the most", x.string(1, 1000), 1000000000);
        Check.due("one less", x.string(1, 999), 999000000);
        Check.due("above the most", x.string(1, 1001), 1000000000);
        Make.put(x, 2, 5000, 5000, 5000, 5000, 5000, 5000);
        Check.due("next to nothing", x.string(2, 1000000), 0);
        x.times(2, -1, 1);
        Check.due("far above the most", x.string(2, 1), 1000000000);
        Make.put(x, 3, 351, -666, 710, -755, 358, -17);
        Check.due("by a hair shorter", x.string(3, 1000000), 999999);
        x.times(3, -1, 24);
        Check.due("by a hair longer", x.string(3, 1000000), 1000000);
        for (int bad : new int[] {0, -1, 1000001, LOW, HIGH}) {
            Check.argument(x, "length " + bad, () -> x.string(0, bad));
            Check.index(x, "register first", () -> x.string(8, bad));
        }
        Check.index(x, "register", () -> x.string(-1, 1));
    }

    private static void rhythm() {
        Doc.quote(48, "Returns the rhythm of some beats in some places that is as even as can be: there is a beat at the place i if what i times beats leaves by places is less than beats.", "Returns the places with a beat, as bits.");
        Tuninghouse x = new Tuninghouse();
        Check.due("3 of 8", x.rhythm(8, 3), 1 | 8 | 64);
        Check.due("none", x.rhythm(30, 0), 0);
        Check.due("all", x.rhythm(30, 30), (1 << 30) - 1);
        Check.due("1 of 1", x.rhythm(1, 1), 1);
        Check.due("2 of 5", x.rhythm(5, 2), 1 | 8);
        Check.due("15 of 30", x.rhythm(30, 15), 0x15555555);
        for (int bad : new int[] {0, -1, 31, LOW, HIGH}) {
            Check.argument(x, "places " + bad, () -> x.rhythm(bad, 0));
        }
        for (int bad : new int[] {-1, 9, LOW, HIGH}) {
            Check.argument(x, "beats " + bad, () -> x.rhythm(8, bad));
        }
    }

    private static void unlike() {
        Doc.quote(49, "Counts the sets of some of equal parts of the octave that are unlike also when they are turned.", "Returns how many there are.");
        Tuninghouse x = new Tuninghouse();
        int[] due = {1, 1, 6, 19, 43, 66, 80, 66, 43, 19, 6, 1, 1};
        for (int k = 0; k <= 12; k++) {
            Check.due(k + " of 12", x.unlike(12, k), due[k]);
        }
        Check.due("1 of 1", x.unlike(1, 1) + " " + x.unlike(1, 0), "1 1");
        Check.due("15 of 30", x.unlike(30, 15), 5170604);
        Check.due("2 of 30", x.unlike(30, 2), 15);
        for (int bad : new int[] {0, -1, 31, LOW, HIGH}) {
            Check.argument(x, "parts " + bad, () -> x.unlike(bad, 0));
        }
        for (int bad : new int[] {-1, 13, LOW, HIGH}) {
            Check.argument(x, "many " + bad, () -> x.unlike(12, bad));
        }
    }

    private static void type() {
        Doc.quote(50, "Puts up to eight bytes behind the text: the bytes of a number, the highest first, without those that are 0.", "- `bytes`: the number", "Returns the length of the text.");
        Tuninghouse x = new Tuninghouse();
        Check.due("nothing", x.type(0), 0);
        Check.due("r0", x.type(0x7230), 2);
        Check.due("it reads", x.errorPlace(), -1);
        Check.due("with zeros between", x.type(0x2b00720000310020L), 6);
        Check.due("r0+r1 ", x.errorPlace(), -1);
        Check.due("eight bytes", x.type(-1), 14);
        Check.due("no sign of the text", x.errorPlace(), 6);
        x.clearText();
        for (int i = 1; i <= 15; i++) {
            Check.due("eight more", x.type(0x2020202020202020L), 8 * i);
        }
        Doc.quote(50, "Throws `IllegalStateException` if it would have more than 120 bytes");
        Check.state(x, "one more", () -> x.type(1));
        Check.state(x, "the highest alone", () -> x.type(Long.MIN_VALUE));
        Check.due("none more", x.type(0), 120);
        for (int place = 0; place < 8; place++) {
            long one = 1L << 8 * place;
            Check.state(x, "one more, as byte " + place, () -> x.type(one));
        }
        for (int room = 0; room < 8; room++) {
            x.clearText();
            for (int i = 0; i < 120 - room; i++) {
                x.type(' ');
            }
            for (int zero = 0; zero < 8; zero++) {
                long bytes = 0;
                long more = 0;
                int put = 0;
                for (int place = 0; place < 8; place++) {
                    long next = 0xffL << 8 * place;
                    bytes |= place != zero && put < room ? next : 0;
                    more |= place == zero || put < room ? next : 0;
                    put += place != zero && put < room ? 1 : 0;
                }
                long over = more;
                if (Long.bitCount(over) == 8 * (room + 1)) {
                    Check.state(x, room + 1 + " bytes at " + (120 - room), () -> x.type(over));
                }
                if (zero == 7) {
                    Check.due(room + " bytes at " + (120 - room), x.type(bytes), 120);
                }
            }
        }
        x.clearText();
        for (int i = 0; i < 119; i++) {
            x.type(' ');
        }
        Check.state(x, "two at 119", () -> x.type(0x7230));
        Check.due("one at 119", x.type(0x31), 120);
        Check.due("the order is kept", x.errorPlace(), 120);
    }

    private static void clearText() {
        Doc.quote(51, "Empties the text.", "Returns its length before.");
        Tuninghouse x = new Tuninghouse();
        Check.due("empty", x.clearText(), 0);
        x.type(0x6f6374617665L);
        Check.due("octave", x.clearText(), 6);
        Check.due("empty again", x.clearText(), 0);
        Check.due("too early", x.errorPlace(), 0);
        Check.due("as new", x.type(0x7230), 2);
        // What stood behind the text before is gone: text before, text, error.
        Object[][] shorter = {{"r0", "r", 0}, {"3:2", "3", 1}, {"3:2", "3:", 2}, {"fifth/2", "fifth/", 6}, {"fifth+r0", "fifth+", 6}, {"fifth+r0", "fifth", -1}, {"octave", "octav", 0},
            {"fifths", "fifth", -1}, {"3 :2", "3 ", 2}, {"1000 fifth", "100", 3}, {"r00", "r0", -1}, {"fifth/24", "fifth/2", -1}, {"fifth/25", "fifth/2", -1}, {"   fifth", "   ", 3}, {"r0", "", 0}};
        for (Object[] s : shorter) {
            Check.put(x, (String) s[0]);
            x.errorPlace();
            Check.put(x, (String) s[1]);
            Check.due("\"" + s[1] + "\" behind \"" + s[0] + "\"", x.errorPlace(), s[2]);
        }
    }

    private static void errorPlace() {
        Doc.quote(52, "Returns the place of the error of the text.", "Returns the index of a byte, or the length of the text; NONE without an error.");
        Tuninghouse x = new Tuninghouse();
        String[] right = {"octave", " fifth ", "- third", "comma/24", "r0", "r7-r0+r3", "3:2", "3 : 2", "100 fifth", "100fifth", "2 3:2/3", "000 r1", "999999:000001",
            "12 r3/2 - 5:4 / 4 + octave", "17:19", "0fifth", "101:2", "-r0"};
        for (String s : right) {
            Check.put(x, s);
            Check.due("\"" + s + "\"", x.errorPlace(), -1);
        }
        Object[][] wrong = {
            {"", 0}, {"   ", 3}, {"-", 1}, {"+fifth", 0}, {"--fifth", 1}, {"fifth +", 7}, {"fifth + ", 8}, {"fifth + - fifth", 8}, {"fifth fifth", 6},
            {"fifths", 0}, {"fifthz", 0}, {"fiftha", 0}, {"fifth`", 5}, {"fifth{", 5}, {"fif th", 0}, {"Fifth", 0}, {"r", 0}, {"r8", 0}, {"r 1", 0}, {"2 r", 2}, {"rr1", 0}, {"r12", 2}, {"r1r2", 2}, {"fifthr1", 0}, {"r1fifth", 2},
            {"101 fifth", 0}, {"101", 0}, {"100", 3}, {"3 2", 2}, {"3 2 fifth", 2}, {"3 2 :", 5}, {"3 :", 3}, {"3 : ", 4}, {"3:0", 2}, {"0:3", 0}, {"3:2:1", 3},
            {"1234567:2", 0}, {"2:1234567", 2}, {"0000001 fifth", 0}, {"fifth/", 6}, {"fifth/0", 6}, {"fifth / 25", 8}, {"fifth/2/2", 7}, {"fifth/0000002", 6},
            {"fifth/fifth", 6}, {"fifth/-2", 6}, {"fifth 2", 6}, {"3:fifth", 2}, {":2", 0}, {"/2", 0}, {"2/3", 1}, {"fifth\t", 5}, {"fifth*2", 5}, {"\u00ff", 0}, {"3:2 5", 4},
            {"3 -", 2}, {"fifth - 2 octaves", 10}, {"2:3/4:5", 5}, {"9 101", 2}, {"octave1", 6},
        };
        for (Object[] w : wrong) {
            Check.put(x, (String) w[0]);
            Check.due("\"" + w[0] + "\"", x.errorPlace(), w[1]);
            Check.argument(x, "reading \"" + w[0] + "\"", () -> x.read(0));
        }
        StringBuilder full = new StringBuilder("r0");
        while (full.length() < 119) {
            full.append("+r0");
        }
        full.append(' ');
        Check.put(x, full.toString());
        Check.due("forty terms", x.errorPlace() + " " + full.length(), "-1 120");
        x.clearText();
        Check.put(x, full.substring(0, 119) + "+");
        Check.due("forty terms and a sign", x.errorPlace(), 120);
        everyByte(x);
        fullTexts(x);
    }

    /** Texts of 120 bytes, by what they end with. */
    private static void fullTexts(Tuninghouse x) {
        Object[][] ends = {{"r", 119}, {"r0", -1}, {"r8", 118}, {"3", 120}, {"3:", 120}, {"3:2", -1}, {"fifth", -1}, {"fift", 116}, {"fifth/", 120}, {"fifth/2", -1}, {"fifth/25", 118},
            {"101", 117}, {"1234567", 113}, {"+", 119}, {"-", 120}, {"fifth+", 120}, {"fifth 2", 119}, {"fifth ", -1}, {"", 120}, {":", 119}};
        for (Object[] e : ends) {
            String end = (String) e[0];
            Check.put(x, " ".repeat(120 - end.length()) + end);
            Check.due("120 bytes that end with \"" + end + "\"", x.errorPlace(), e[1]);
        }
    }

    /** Each byte behind a term, and ahead of one. */
    private static void everyByte(Tuninghouse x) {
        for (int b = 1; b < 256; b++) {
            boolean isLetter = b >= 'a' && b <= 'z';
            boolean isDigit = b >= '0' && b <= '9';
            boolean goesOn = b == '+' || b == '-' || b == '/';
            Check.put(x, "fifth" + (char) b);
            Check.due("fifth and byte " + b, x.errorPlace(), b == ' ' ? -1 : isLetter ? 0 : goesOn ? 6 : 5);
            Check.put(x, (char) b + "fifth");
            Check.due("byte " + b + " and fifth", x.errorPlace(), b == ' ' || b == '-' || isDigit ? -1 : 0);
            Check.put(x, "r" + (char) b);
            Check.due("r and byte " + b, x.errorPlace(), b >= '0' && b <= '7' ? -1 : 0);
            Check.put(x, "3" + (char) b + "2");
            Check.due("3, byte " + b + ", 2", x.errorPlace(), b == ':' || b == 'r' ? -1 : isDigit ? 0 : b == ' ' ? 2 : 1);
            Check.put(x, "r0" + (char) b + "r0");
            Check.due("r0, byte " + b + ", r0", x.errorPlace(), b == '+' || b == '-' ? -1 : b == '/' || b == ' ' ? 3 : 2);
            Check.put(x, "3:2/" + (char) b);
            Check.due("3:2/ and byte " + b, x.errorPlace(), b == ' ' ? 5 : isDigit && b > '0' ? -1 : 4);
        }
    }

    private static void evenness() {
        Doc.quote(53, "Returns the share of the gaps of a scale that are of its most frequent sort.", "Returns the number of these gaps as a float, divided by the number of gaps as a float.");
        Tuninghouse x = fifthIn0();
        Check.due("one", x.evenness(0), 1.0f);
        x.row(0, 0, -1, 7);
        Check.due("5 of 7", x.evenness(0), 5.0f / 7.0f);
        x.row(1, 0, 0, 11);
        Check.due("6 of 11", x.evenness(1), 6.0f / 11.0f);
        x.row(2, 0, 0, 3);
        Check.due("2 of 3", x.evenness(2), 2.0f / 3.0f);
        Check.index(x, "scale", () -> x.evenness(4));
        Check.index(x, "scale", () -> x.evenness(-1));
    }

    private static void meanImpurity() {
        Doc.quote(54, "Returns the mean of the impurities of all keys.", "Returns the sum of impurity(key, 3) over all keys, as a double, divided by 12000.0.");
        Tuninghouse x = werckmeister();
        Check.due("werckmeister", x.meanImpurity(), 164232.0 / 12000.0);
        Check.due("pure fifths", new Tuninghouse().meanImpurity(), 12 * 21506.0 / 12000.0);
    }

    private static void errors() {
        Doc.quote(55, "Looks for errors: 1 for each of these that does not hold", "Returns how many do not hold; always 0.");
        Tuninghouse x = fifthIn0();
        Check.due("new", x.errors(), 0);
        x.row(0, 0, -50, 40);
        x.parts(1, 7, 360);
        x.row(1, 1, 0, 40);
        Make.put(x, 2, 5000, -5000, 5000, -5000, 5000, -5000);
        Make.put(x, 3, 351, -666, 710, -755, 358, -17);
        x.parts(4, -1, 359);
        x.tone(2, 4, true);
        x.tone(2, 1, true);
        x.tone(2, 7, false);
        Check.due("full", x.errors(), 0);
        x.undo();
        Check.due("undone", x.errors(), 0);
        for (int parts = 1; parts <= 360; parts++) {
            Tuninghouse y = new Tuninghouse();
            for (int r = 0; r < 8; r++) {
                y.parts(r, r * r - 8, parts);
            }
            y.row(0, 3, 0, 40);
            Check.due("parts of " + parts, y.errors(), 0);
        }
    }
}
