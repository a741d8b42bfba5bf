import java.math.BigInteger;
import java.util.NoSuchElementException;

/** Sections 1 to 9 under "Terms": each sentence with the cases at its bounds. */
final class TermsTest {
    private TermsTest() {
    }

    static void all() {
        intervals();
        sizes();
        octavesOff();
        kept();
        onTheWay();
        registersAndTold();
        scales();
        gaps();
        modesAndKeys();
        misses();
        continuedFractions();
        equalParts();
        wellTemperaments();
        keysInOrder();
        blocks();
        allSmallBlocks();
        texts();
        numbersOfTexts();
        wordsOfTexts();
        errorsOfTexts();
        changes();
        undone();
        exceptions();
        constants();
    }

    private static void intervals() {
        Doc.quote(-1, "The primes are 2, 3, 5, 7, 11, 13, numbered from 0.");
        Tuninghouse x = Make.house("30030/1");
        Check.due("30030", Check.interval(x, 0), "1 1 1 1 1 1/1");
        for (int i = 0; i < 6; i++) {
            x.fraction(1, Make.PRIMES[i], 1);
            Check.due("prime " + i, x.exponent(1, i), 1);
            Check.due("prime " + i + " and no other one", x.mapped(1, 1), x.best(1, 1));
        }
        Doc.quote(-1, "no number above 1 divides all exponents and the root (the root is 1 if all exponents are 0)");
        Make.putRoot(x, 0, 4, 2, 4);
        Check.due("2 and 4 over 4", Check.interval(x, 0), "1 2 0 0 0 0/2");
        Make.putRoot(x, 0, 4, 2, 0, 0, 0, 0, -3);
        Check.due("2 and -3 over 4", Check.interval(x, 0), "2 0 0 0 0 -3/4");
        x.times(0, 4, 1);
        Check.due("again a fraction", Check.interval(x, 0), "2 0 0 0 0 -3/1");
        x.parts(0, 0, 360);
        Check.due("no exponent", x.root(0), 1);
        x.parts(0, 7, 360);
        Check.due("and less itself", x.sum(1, 0, 0, true), 1);
        Check.due("0 times", x.times(0, 0, 24), 1);
        Doc.quote(-1, "it stands for the number that is the product of the primes to the power of exponent / root.");
        Make.putRoot(x, 0, 2, 2, 4, 0, 0, 2, -2);
        x.tell(0);
        Check.due("2 to the power of 2 / 2, and so on", x.toldAt(0, 2) + " " + x.toldAt(1, 2), 2 * 9 * 11 + " " + 13);
        Doc.quote(-1, "Two intervals are equal just if all these numbers are;");
        x.fraction(0, 6, 4);
        x.fraction(1, 3, 2);
        Check.due("6 / 4", x.compare(0, 1), 0);
        x.giveName(0, 7);
        Check.due("its name", x.nameOf(1), 7);
        Make.put(x, 2, Make.TINY);
        x.sum(2, 1, 2, false);
        Check.due("another one, as near as can be", x.compare(1, 2) + " " + x.nameOf(2) + " " + x.namesBelow(2), "-1 -1 1");
    }

    private static void sizes() {
        Doc.quote(-1, "one is greater than another one if the number that it stands for is greater.");
        Tuninghouse x = Make.house("3/2", "4/3", "1/2");
        Check.due("3 / 2 and 4 / 3", x.compare(0, 1) + " " + x.compare(1, 0), "1 -1");
        x.times(0, 1, 24);
        Check.due("a part of it", x.compare(1, 0) + " " + x.compare(0, 3), "1 1");
        Check.due("1 / 2 and the unison", x.compare(2, 3), -1);
        Doc.quote(-1, "The unison is the one with the exponents 0 (it stands for 1), the octave is 2, the fifth 3 / 2.");
        x.tell(3);
        Check.due("the unison", x.toldAt(0, 2) + " " + x.toldAt(1, 2), "1 1");
        Check.put(x, "octave");
        x.read(4);
        Check.due("the octave", Check.interval(x, 4), "1 0 0 0 0 0/1");
        Check.put(x, "fifth");
        x.read(4);
        Check.due("the fifth", Check.interval(x, 4), "-1 1 0 0 0 0/1");
        Doc.quote(-1, "The sum of two intervals stands for the product of their numbers, the difference for the quotient;");
        x = Make.house("15/14", "21/11");
        x.sum(2, 0, 1, false);
        Check.due("15 / 14 and 21 / 11", Check.interval(x, 2), "-1 2 1 0 -1 0/1");
        x.sum(2, 0, 1, true);
        Check.due("15 / 14 less 21 / 11", Check.interval(x, 2), "-1 0 1 -2 1 0/1");
        Doc.quote(-1, "k times an interval is its number to the power of k, an interval divided into n parts is the n-th root.");
        x.times(0, -3, 1);
        Check.due("-3 times", Check.interval(x, 0), "3 -3 -3 3 0 0/1");
        x.times(0, 1, 9);
        Check.due("9 parts", Check.interval(x, 0), "1 -1 -1 1 0 0/3");
        Doc.quote(-1, "The size of an interval, in octaves, is the number x for which 2 to the power of x is what it stands for;");
        x.parts(0, 5, 7);
        Check.due("5 of 7", x.term(0, 0) + " " + x.term(0, 1) + " " + x.term(0, 2) + " " + x.term(0, 3), "0 1 2 2");
        Doc.quote(-1, "below the unison it is below 0.");
        Make.octavesAnd(x, 0, 0, 1, -1);
        Check.due("just below", x.cents(0, 9, 0) + " " + x.cents(0, 9, 1), "-1 0");
        x.fraction(0, 1, 2);
        Check.due("an octave below", x.cents(0, 0, 2), -1200);
        Doc.quote(-1, "A cent is the 1200th part of an octave.");
        x.parts(0, 1, 300);
        Check.due("a 300th part", x.cents(0, 0, 0) + " " + x.cents(0, 0, 1), "4 4");
        x.parts(0, 1, 1);
        Check.due("the octave", x.cents(0, 0, 0) + " " + x.cents(0, 0, 1), "1200 1200");
    }

    private static void octavesOff() {
        Doc.quote(-1, "the octave is added or taken away as often as needed, until it is at least the unison, and less than the octave.");
        // Octaves, parts, tiny intervals; octaves taken away.
        int[][] due = {{0, 1, 0, 0}, {0, 1, 1, 0}, {0, 1, -1, -1}, {1, 1, 0, 1}, {1, 1, -1, 0}, {1, 1, 1, 1}, {-1, 1, 0, -1}, {-1, 1, 1, -1}, {-1, 1, -1, -2},
            {359, 360, 0, 0}, {-1, 360, 0, -1}, {361, 360, 0, 1}, {1000, 1, 0, 1000}, {-1000, 1, 0, -1000}, {1000, 7, 0, 142}, {-1000, 7, 0, -143}};
        for (int[] d : due) {
            Tuninghouse x = new Tuninghouse();
            Make.octavesAnd(x, 0, d[0], d[1], d[2]);
            x.sum(1, 0, 3, false);
            String what = d[0] + " of " + d[1] + " and " + d[2];
            Check.due(what, x.octavesOff(0), d[3]);
            Check.due(what + " is at least the unison", x.compare(0, 3) >= 0, true);
            x.fraction(2, 2, 1);
            Check.due(what + " is less than the octave", x.compare(0, 2), -1);
            x.sum(1, 1, 0, true);
            Check.due(what + " and the octaves are what it was", Check.interval(x, 1), d[3] + " 0 0 0 0 0/1");
        }
    }

    private static void kept() {
        Doc.quote(-1, "exponents of at most 5000 in amount, and a root of at most 360");
        for (int p = 0; p < 6; p++) {
            for (int sign = -1; sign <= 1; sign += 2) {
                Tuninghouse x = new Tuninghouse();
                int[] exponents = new int[6];
                exponents[p] = 4999 * sign;
                Make.put(x, 0, exponents);
                x.fraction(1, Make.PRIMES[p], 1);
                x.times(1, sign, 1);
                Check.due("5000", x.sum(2, 0, 1, false) + " " + x.exponent(2, p), "1 " + 5000 * sign);
                Check.arithmetic(x, "5001", () -> x.sum(3, 2, 1, false));
                Check.due("4999", x.sum(3, 2, 1, true) + " " + x.exponent(3, p), "1 " + 4999 * sign);
            }
        }
        Tuninghouse x = new Tuninghouse();
        x.parts(0, 1, 15);
        Check.due("root 360", x.times(0, 1, 24), 360);
        x.parts(0, 1, 19);
        Check.arithmetic(x, "root 361", () -> x.times(0, 1, 19));
        x.parts(0, 1, 40);
        x.parts(1, 1, 9);
        Check.due("root 360", x.sum(2, 0, 1, false), 360);
        x.parts(0, 1, 4);
        x.parts(1, 1, 91);
        Check.arithmetic(x, "root 364", () -> x.sum(2, 0, 1, false));
    }

    private static void onTheWay() {
        Doc.quote(-1, "a call that would keep another one throws an ArithmeticException (what lies on the way to it does not matter, but in read()).");
        Tuninghouse x = new Tuninghouse();
        Make.put(x, 0, 0, 5000, -3413);
        Check.due("120000 on the way", x.times(0, 24, 24) + " " + x.exponent(0, 1), "1 5000");
        Check.arithmetic(x, "and kept", () -> x.times(0, 24, 23));
        x.parts(1, 1, 360);
        Check.due("root 129600 on the way", x.sum(2, 1, 1, false), 180);
        x.times(0, 1, 2);
        Check.due("10000 on the way of the miss", x.miss(0, 2, 2) + " " + Check.interval(x, 2), "0 0 5000 -3413 0 0 0/1");
        Check.arithmetic(x, "15000 kept", () -> x.miss(0, 3, 2));
        Check.due("root 8640 on the way of the deviation", x.deviation(24, 1, 2) + " " + Check.interval(x, 2), "0 -1 0 0 0 0 0/360");
        Check.put(x, "2 r0 / 2");
        Check.due("5000 on the way of the text", x.read(2), 2);
        Check.put(x, "3 r0 / 3");
        Check.arithmetic(x, "15000 on the way of the text", () -> x.read(2));
    }

    private static void registersAndTold() {
        Doc.quote(-2, "There are the registers 0 to 7;");
        Tuninghouse x = new Tuninghouse();
        for (int r = 0; r < 8; r++) {
            Check.due("register " + r, x.parts(r, r + 1, 1), 1);
        }
        for (int r = 0; r < 8; r++) {
            Check.due("register " + r, x.exponent(r, 0), r + 1);
        }
        Check.index(x, "register 8", () -> x.root(8));
        Check.index(x, "register -1", () -> x.root(-1));
        Doc.quote(-2, "each has an interval, the unison at first.");
        Tuninghouse y = new Tuninghouse();
        for (int r = 0; r < 8; r++) {
            Check.due("register " + r, Check.interval(y, r), "0 0 0 0 0 0/1");
        }
        Doc.quote(-2, "There are up to two told numbers, whole ones without an end;");
        Make.put(y, 0, 40, 40, 40, 40, 40, 40);
        y.tell(0);
        BigInteger great = BigInteger.valueOf(30030).pow(40);
        Check.due("30030 to the power of 40", y.toldAt(0, 0) + " " + y.toldAt(0, 1) + " " + y.toldAt(0, 2),
            great.toString().length() + " " + great.bitLength() + " " + great.mod(BigInteger.valueOf(1000003)));
        y.beats(0, 10000, 1, 100);
        BigInteger far = great.multiply(BigInteger.valueOf(100)).subtract(BigInteger.ONE).multiply(BigInteger.valueOf(10000));
        Check.due("the farthest beats", y.toldAt(0, 0) + " " + y.toldAt(0, 1) + " " + y.toldAt(0, 2),
            far.toString().length() + " " + far.bitLength() + " " + far.mod(BigInteger.valueOf(1000003)));
        Check.due("two", y.told(), 2);
        Check.index(y, "a third one", () -> y.toldAt(2, 0));
        Doc.quote(-2, "at first there are none.");
        Check.due("none", x.told(), 0);
        Check.index(x, "the first one", () -> x.toldAt(0, 0));
        Check.index(x, "the second one", () -> x.toldAt(1, 0));
    }

    private static void scales() {
        Doc.quote(-3, "There are the scales 0 to 3;");
        Tuninghouse x = Make.house("3/2");
        for (int s = 0; s < 4; s++) {
            Check.due("scale " + s, x.row(s, 0, 0, s + 2), s + 2);
        }
        for (int s = 0; s < 4; s++) {
            Check.due("scale " + s, x.tones(s), s + 2);
        }
        Check.index(x, "scale 4", () -> x.tones(4));
        Check.index(x, "scale -1", () -> x.tones(-1));
        Doc.quote(-3, "a scale is a set of intervals that are at least the unison and less than the octave, its tones, at most 40.");
        x.fraction(1, 3, 1);
        Check.due("in a set but once", x.tone(0, 1, true) + " " + x.tones(0), "true 2");
        Make.octavesAnd(x, 1, 0, 1, -1);
        Make.octavesAnd(x, 2, 1, 1, 0);
        Check.due("just below the unison is the last one", x.tone(0, 1, true) + " " + x.stepOf(0, 1), "false 2");
        Check.due("the octave is the unison", x.tone(0, 2, true) + " " + x.stepOf(0, 2), "true 0");
        Check.due("forty", x.row(1, 0, 1, 40), 40);
        Check.state(x, "one more", () -> x.tone(1, 2, true));
        Doc.quote(-3, "At first each one has the unison alone.");
        Tuninghouse y = new Tuninghouse();
        for (int s = 0; s < 4; s++) {
            Check.due("scale " + s, y.tones(s) + " " + y.sizeOf(s, 0, false) + " " + y.stepOf(s, 0), "1 0 0");
        }
        Doc.quote(-3, "Its steps are numbered from 0, by ascending tones.");
        x.row(2, 0, 0, 5);
        Check.due("five fifths", Check.sizes(x, 2), "0 204 408 702 906");
        Check.index(x, "step 5", () -> x.sizeOf(2, 5, false));
        Check.index(x, "step -1", () -> x.sizeOf(2, -1, false));
    }

    private static void gaps() {
        Doc.quote(-3, "The gap of a step is the difference between the next tone (behind the last one the first one and the octave) and its tone.");
        Tuninghouse x = Make.house("3/2", "5/4");
        x.tone(0, 0, true);
        x.tone(0, 1, true);
        Check.due("a triad", Check.gaps(x, 0), "386 316 498");
        x.tone(0, 7, false);
        Check.due("without the unison", Check.sizes(x, 0) + ", " + Check.gaps(x, 0), "386 702, 316 884");
        x.tone(0, 0, false);
        Check.due("one tone alone", Check.sizes(x, 0) + ", " + Check.gaps(x, 0), "386, 1200");
        Doc.quote(-3, "The sorts of gaps of a scale are the unlike ones among them, numbered from 0 by ascending size.");
        x.row(1, 0, 0, 5);
        Check.due("two sorts of five fifths", x.gapSorts(1) + " " + x.gapSort(1, 0) + x.gapSort(1, 1) + x.gapSort(1, 2) + x.gapSort(1, 3) + x.gapSort(1, 4),
            "2 00101");
        Check.due("one tone, one sort", x.gapSorts(0) + " " + x.gapSort(0, 0), "1 0");
        x.parts(2, 1, 3);
        x.row(2, 2, 0, 3);
        Check.due("all alike", x.gapSorts(2) + " " + x.gapSort(2, 2), "1 0");
        x.tone(2, 2, false);
        Make.octavesAnd(x, 3, 1, 3, 1);
        x.tone(2, 3, true);
        Check.due("unlike as little as can be", x.gapSorts(2) + " " + x.gapSort(2, 0) + x.gapSort(2, 1) + x.gapSort(2, 2), "3 201");
        Check.due("and in cents alike", Check.gaps(x, 2), "400 400 400");
    }

    private static void modesAndKeys() {
        Doc.quote(-3, "the tone of this step is taken from all tones, octaves taken off.");
        Tuninghouse x = Make.house("3/2", "5/4");
        x.tone(0, 0, true);
        x.tone(0, 1, true);
        for (int s = 1; s < 4; s++) {
            for (int r = 0; r < 3; r++) {
                x.tone(s, r, true);
            }
        }
        x.mode(0, 0);
        x.mode(1, 1);
        x.mode(2, 2);
        Check.due("a triad from 0, 1, 2 on", Check.sizes(x, 0) + ", " + Check.sizes(x, 1) + ", " + Check.sizes(x, 2), "0 386 702, 0 316 814, 0 498 884");
        Doc.quote(-3, "for any whole number k, is the tone of the step that k leaves by n (from 0 on), and as many octaves as k / n, rounded down.");
        int[][] due = {{0, 0, 0}, {1, 1, 386}, {2, 2, 702}, {3, 0, 1200}, {-1, 2, -498}, {-2, 1, -814}, {-3, 0, -1200}, {-4, 2, -1698}, {200, 2, 79902}, {-200, 1, -80014}};
        for (int[] d : due) {
            Check.due("key " + d[0], x.key(3, d[0], 4) + " " + x.cents(4, 0, 2), d[1] + " " + d[2]);
        }
        Make.onlyTone(x, 0, 0);
        Check.due("of one tone", x.key(0, -200, 4) + " " + x.cents(4, 0, 2), "0 " + (702 - 240000));
    }

    private static void misses() {
        Doc.quote(-4, "n times the interval, less as many octaves as leave a size that is at least -1/2 and less than 1/2.");
        // Octaves, parts, tiny intervals; octaves taken away.
        int[][] due = {{1, 2, 0, 1}, {1, 2, -1, 0}, {1, 2, 1, 1}, {-1, 2, 0, 0}, {-1, 2, -1, -1}, {-1, 2, 1, 0}, {0, 1, 0, 0}, {3, 2, 0, 2}, {-3, 2, 0, -1}, {3, 2, -1, 1}, {1000, 1, 0, 1000}};
        for (int[] d : due) {
            Tuninghouse x = new Tuninghouse();
            Make.octavesAnd(x, 0, d[0], d[1], d[2]);
            Check.due(d[0] + " of " + d[1] + " and " + d[2], x.miss(0, 1, 1), d[3]);
            x.parts(2, d[3], 1);
            x.sum(2, 0, 2, true);
            Check.due("its miss", x.compare(1, 2), 0);
            x.parts(2, 1, 2);
            x.parts(3, -1, 2);
            Check.due("less than 1/2", x.compare(1, 2), -1);
            Check.due("at least -1/2", x.compare(1, 3) >= 0, true);
        }
        Doc.quote(-4, "A miss is nearer than another one, if its amount (without the sign of its size) is less.");
        Tuninghouse x = new Tuninghouse();
        x.parts(0, 1, 4);
        Check.due("1/4, -1/2, -1/4, 0", x.nearest(0, 0, 9) + " " + x.nearest(0, 1, 9), "1 4");
        x.parts(0, -1, 3);
        Check.due("-1/3, 1/3, 0", x.nearest(0, 0, 9) + " " + x.nearest(0, 1, 9), "1 3");
        x.parts(0, 3, 8);
        Check.due("3/8, -1/4, 1/8, -1/2, -1/8, 1/4, -3/8, 0", x.nearest(0, 1, 9) + " " + x.nearest(0, 2, 9) + " " + x.nearest(0, 3, 9), "2 3 8");
        Doc.quote(-4, "A nearest miss of the row of an interval is a number n from 1 on whose miss is nearer than that of each number from 1 to n - 1.");
        x.fraction(0, 1, 1024);
        Check.due("of whole octaves, 1 alone", x.nearest(0, 0, 1), 1);
        Check.refused(x, "and no more", NoSuchElementException.class, () -> x.nearest(0, 1, 2000));
        Make.octavesAnd(x, 0, 1, 1, 1);
        Check.due("just above an octave", x.nearest(0, 0, 2000), 1);
        Check.refused(x, "no nearer one of 2000", NoSuchElementException.class, () -> x.nearest(0, 1, 2000));
        Make.octavesAnd(x, 0, 1, 2, 1);
        Check.due("just above half an octave", x.nearest(0, 1, 2000), 2);
        Check.refused(x, "no nearer one of 2000", NoSuchElementException.class, () -> x.nearest(0, 2, 2000));
    }

    private static void continuedFractions() {
        Doc.quote(-4, "the whole part of what there is (at first the size), then what is left is turned over (1 divided by it);");
        Tuninghouse x = Make.house("3/2");
        int[] due = {0, 1, 1, 2, 2, 3, 1, 5, 2, 23, 2, 2, 1, 1, 55, 1};
        for (int i = 0; i < due.length; i++) {
            Check.due("term " + i + " of a fifth", x.term(0, i), due[i]);
        }
        x.fraction(0, 3072, 1);
        Check.due("the whole part", x.term(0, 0) + " " + x.term(0, 1) + " " + x.term(0, 2), "11 1 1");
        Doc.quote(-4, "it ends if nothing is left.");
        x.parts(0, 1, 360);
        Check.due("a 360th", x.term(0, 0) + " " + x.term(0, 1), "0 360");
        Check.refused(x, "its end", NoSuchElementException.class, () -> x.term(0, 2));
        x.parts(0, 5, 1);
        Check.due("octaves", x.term(0, 0), 5);
        Check.refused(x, "their end", NoSuchElementException.class, () -> x.term(0, 1));
        x.parts(0, 359, 360);
        Check.due("359 of 360", x.term(0, 0) + " " + x.term(0, 1) + " " + x.term(0, 2), "0 1 359");
        Check.refused(x, "its end", NoSuchElementException.class, () -> x.term(0, 3));
        Check.refused(x, "far behind it", NoSuchElementException.class, () -> x.term(0, 15));
    }

    private static void equalParts() {
        Doc.quote(-5, "n times its size, rounded to the nearest whole number, a half upward.");
        // Octaves, parts, tiny intervals; best number in 12.
        int[][] due = {{1, 24, 0, 1}, {1, 24, -1, 0}, {-1, 24, 0, 0}, {-1, 24, -1, -1}, {-3, 24, 0, -1}, {-3, 24, 1, -1}, {-3, 24, -1, -2}, {3, 24, 0, 2}, {0, 1, 0, 0}, {1, 1, 0, 12}};
        for (int[] d : due) {
            Tuninghouse x = new Tuninghouse();
            Make.octavesAnd(x, 0, d[0], d[1], d[2]);
            Check.due(d[0] + " of " + d[1] + " and " + d[2], x.best(12, 0), d[3]);
        }
        Doc.quote(-5, "The number that an interval with the root 1 is mapped to is the sum, over the primes, of the exponent times the best number of the prime.");
        Tuninghouse x = new Tuninghouse();
        Make.put(x, 0, 1, -10, 100, -1000, 5, 7);
        Check.due("in 12", x.mapped(12, 0), 12 - 190 + 2800 - 34000 + 5 * 42 + 7 * 44);
        Check.due("the best number is another one", x.best(12, 0) == x.mapped(12, 0), false);
        Check.due("the unison", x.mapped(1000, 3), 0);
        Doc.quote(-5, "It vanishes if this is 0.");
        x.fraction(0, 2, 1);
        Check.due("81 / 80 in 12", x.commas(4, 1, 0, 12) - x.commas(3, 1, 0, 12), 1);
        Check.due("no more", x.commas(4, 1, 0, 53) + " " + x.commas(4, 1, 0, 0), "0 26");
    }

    private static void wellTemperaments() {
        Doc.quote(-6, "The comma of Pythagoras is 12 fifths less 7 octaves;", "a part of it is the 24th part.");
        Tuninghouse x = Make.house("81/80", "3/2");
        x.miss(1, 12, 1);
        for (int parts : new int[] {-24, -1, 1, 23, 24}) {
            x.temper(0, parts);
            x.sum(2, 1, 3, false);
            x.times(2, parts, 24);
            x.sum(2, 0, 2, true);
            Check.due(parts + " parts less", x.impurity(0, 6), Math.abs(x.cents(2, 6, 2)));
        }
        Doc.quote(-6, "There are twelve fifths, numbered from 0, on a circle: the fifth k leads from the key k to the key k + 1 (from 11 to 0).",
            "The third of a key is the sum of the four fifths from it on, less two octaves;");
        for (int fifth = 0; fifth < 12; fifth++) {
            Tuninghouse y = new Tuninghouse();
            y.temper(fifth, 4);
            for (int key = 0; key < 12; key++) {
                boolean isIn = Math.floorMod(fifth - key, 12) < 4;
                Check.due("fifth " + fifth + " in the third of " + key, y.impurity(key, 0), isIn ? 18 : 22);
            }
        }
        Check.index(x, "fifth 12", () -> x.temper(12, 0));
        Doc.quote(-6, "Each one is 3 / 2 less a number of parts (-24 to 24, 0 at first).");
        Tuninghouse y = new Tuninghouse();
        for (int fifth = 0; fifth < 12; fifth++) {
            Check.due("at first", y.temper(fifth, 24), 0);
            Check.due("24", y.temper(fifth, -24), 24);
            Check.due("-24", y.temper(fifth, 1), -24);
        }
        Check.argument(y, "25", () -> y.temper(0, 25));
        Check.argument(y, "-25", () -> y.temper(0, -25));
        Doc.quote(-6, "It closes, if all twelve numbers together are 24.");
        Check.due("12", y.closes(), false);
        for (int fifth = 0; fifth < 12; fifth++) {
            y.temper(fifth, 2);
        }
        Check.due("24", y.closes(), true);
        y.temper(11, 3);
        Check.due("25", y.closes(), false);
        y.temper(0, 0);
        Check.due("23", y.closes(), false);
        y.temper(0, 1);
        Check.due("24", y.closes(), true);
        for (int fifth = 0; fifth < 12; fifth++) {
            y.temper(fifth, -2);
        }
        Check.due("-24", y.closes(), false);
    }

    private static void keysInOrder() {
        Doc.quote(-6, "how far it is from pure is its difference to 5 / 4 (without sign).");
        Tuninghouse x = new Tuninghouse();
        Check.due("wide", x.impurity(0, 6), 21506290);
        x.temper(0, 22);
        Check.due("a hair wide", x.impurity(0, 6), 1280);
        x.temper(1, 22);
        Check.due("narrow, without sign", x.impurity(0, 6), 21503729);
        Doc.quote(-6, "Keys are in order by that, the purest one first, of like ones the lesser number.");
        // 22 is as pure as can be, then 44 and 0, then 66.
        Check.due("the thirds of 0 and 10 have both, those of 1, 9 one", x.pure(0) + " " + x.pure(1), "1 9");
        StringBuilder order = new StringBuilder();
        for (int place = 0; place < 12; place++) {
            order.append(x.pure(place)).append(' ');
        }
        Check.due("44 ahead of 0", order, "1 9 0 10 11 2 3 4 5 6 7 8 ");
        Tuninghouse y = new Tuninghouse();
        y.temper(11, 12);
        order.setLength(0);
        for (int place = 0; place < 12; place++) {
            order.append(y.pure(place)).append(' ');
        }
        Check.due("over the end of the circle", order, "8 9 10 11 0 1 2 3 4 5 6 7 ");
    }

    private static void blocks() {
        Doc.quote(-7, "A block is told by two commas, intervals with the root 1 that have exponents of the primes 2, 3, 5 alone.");
        Tuninghouse x = Make.house("81/80", "25/24", "3/1");
        for (int prime : new int[] {7, 11, 13}) {
            x.fraction(3, 3 * prime, 1);
            Check.arithmetic(x, "the first one with " + prime, () -> x.block(0, 3, 1));
            Check.arithmetic(x, "the second one with " + prime, () -> x.block(0, 1, 3));
            x.fraction(3, 3, prime);
            Check.arithmetic(x, "the second one with 1 / " + prime, () -> x.block(0, 1, 3));
        }
        Make.putRoot(x, 3, 2, 0, 1);
        Check.arithmetic(x, "the first one with a root", () -> x.block(0, 3, 1));
        Check.arithmetic(x, "the second one with a root", () -> x.block(0, 1, 3));
        x.fraction(3, 3, 1024);
        Check.due("octaves do not matter", x.block(0, 3, 1) + " " + x.block(1, 2, 1) + " " + Check.sizes(x, 0).equals(Check.sizes(x, 1)), "2 2 true");
        Doc.quote(-7, "the determinant is b1 * c2 - b2 * c1.");
        Check.due("4 * 2 less -1 * -1", x.block(0, 0, 1), 4 * 2 - -1 * -1);
        Check.due("the other way", x.block(0, 1, 0), -7);
        Doc.quote(-7, "with s and t at least 0 and less than 1.");
        x.fraction(3, 9, 1);
        x.fraction(4, 5, 1);
        Check.due("(0, 0) and (1, 0) of (2, 0) and (0, 1)", x.block(0, 3, 4) + " " + Check.sizes(x, 0), "2 0 702");
        x.times(3, -1, 1);
        Check.due("(0, 0) and (-1, 0) of (-2, 0) and (0, 1)", x.block(0, 3, 4) + " " + Check.sizes(x, 0), "-2 0 498");
        x.fraction(3, 3, 5);
        x.fraction(4, 15, 1);
        Check.due("(0, 0) and (1, 0) of (1, -1) and (1, 1)", x.block(0, 3, 4) + " " + Check.sizes(x, 0), "2 0 702");
        x.times(3, -1, 1);
        Check.due("(0, 0) and (0, 1) of (-1, 1) and (1, 1)", x.block(0, 3, 4) + " " + Check.sizes(x, 0), "-2 0 386");
        x.times(4, -1, 1);
        Check.due("(0, 0) and (-1, 0) of (-1, 1) and (-1, -1)", x.block(0, 3, 4) + " " + Check.sizes(x, 0), "2 0 498");
        Doc.quote(-7, "Its tones are the intervals with the exponents b of 3 and c of 5, octaves taken off.");
        x.fraction(5, 1, 27);
        x.fraction(6, 25, 1);
        Check.due("six", x.block(0, 5, 6) + " " + x.tones(0), "-6 6");
        for (int b = 0; b < 3; b++) {
            for (int c = 0; c < 2; c++) {
                Make.put(x, 0, 3, -b, c);
                Check.due(-b + " and " + c, x.stepOf(0, 0) >= 0, true);
            }
        }
    }

    /** Every small block by what the words say: all pairs (b, c), each looked at whether it is a point. */
    private static void allSmallBlocks() {
        Doc.quote(-7, "with s and t at least 0 and less than 1.");
        int[] small = {-3, -2, 0, 1, 4};
        for (int b1 : small) {
            for (int c1 : small) {
                for (int b2 : small) {
                    for (int c2 : small) {
                        int determinant = b1 * c2 - b2 * c1;
                        if (determinant != 0) {
                            smallBlock(b1, c1, b2, c2, determinant);
                        }
                    }
                }
            }
        }
    }

    private static void smallBlock(int b1, int c1, int b2, int c2, int determinant) {
        Tuninghouse x = new Tuninghouse();
        Make.put(x, 0, 0, b1, c1);
        Make.put(x, 1, 0, b2, c2);
        String what = "(" + b1 + ", " + c1 + ") and (" + b2 + ", " + c2 + ")";
        Check.due(what, x.block(0, 0, 1), determinant);
        int sign = determinant < 0 ? -1 : 1;
        int points = 0;
        int there = 0;
        for (int b = -8; b <= 8; b++) {
            for (int c = -8; c <= 8; c++) {
                int s = sign * (b * c2 - c * b2);
                int t = sign * (b1 * c - c1 * b);
                if (s >= 0 && s < sign * determinant && t >= 0 && t < sign * determinant) {
                    points++;
                    Make.put(x, 2, 0, b, c);
                    there += x.stepOf(0, 2) >= 0 ? 1 : 0;
                }
            }
        }
        Check.due(what + " has its points", x.tones(0) + " " + points + " " + there, points + " " + points + " " + points);
    }

    private static void texts() {
        Doc.quote(-8, "The text has at most 120 bytes.");
        Tuninghouse x = new Tuninghouse();
        for (int i = 0; i < 15; i++) {
            x.type(0x2020202020202020L);
        }
        Check.due("120", x.type(0), 120);
        Check.state(x, "121", () -> x.type(32));
        Doc.quote(-8, "Blanks (32) may stand anywhere but within words and numbers.");
        Tuninghouse y = Make.house("3/2");
        Check.put(y, "  -  2  5  :  4  /  3  +  r0  -  7  fifth  ");
        Check.due("blanks", y.read(1) + " " + y.errorPlace(), "3 -1");
        String[][] torn = {{"oct ave", "0"}, {"1 2:3", "-1"}, {"fifth/1 2", "8"}, {"r 0", "0"}, {"1 0 0 fifth", "2"}, {"fifth\t", "5"}, {"fifth\u00a0", "5"}, {"\n", "0"}};
        for (String[] t : torn) {
            Check.put(y, t[0]);
            Check.due("\"" + t[0] + "\"", y.errorPlace(), t[1]);
        }
        Check.put(y, "1 2:3");
        y.read(1);
        Check.due("1 times 2:3, not 12:3", Check.interval(y, 1), "1 -1 0 0 0 0/1");
        Doc.quote(-8, "m:n is the interval that m / n stands for;", "a fifth is 3:2, a third 5:4, a comma 81:80;");
        String[][] same = {{"octave", "2:1"}, {"fifth", "3:2"}, {"third", "5:4"}, {"comma", "81:80"}, {"34:17", "2:1"}, {"999999:999999", "1:1"}};
        for (String[] s : same) {
            Check.put(y, s[0]);
            y.read(1);
            Check.put(y, s[1]);
            y.read(2);
            Check.due(s[0], y.compare(1, 2), 0);
        }
        Doc.quote(-8, "r with a digit 0 to 7 is the interval of this register.");
        for (int r = 0; r < 8; r++) {
            y.parts(r, r, 11);
            Check.put(y, "r" + r);
            y.read(3);
            Check.due("r" + r, Check.interval(y, 3), r == 0 ? "0 0 0 0 0 0/1" : r + " 0 0 0 0 0/11");
        }
        Check.put(y, "r8");
        Check.due("r8", y.errorPlace(), 0);
        Check.put(y, "r/");
        Check.due("the byte ahead of 0", y.errorPlace(), 0);
        Doc.quote(-8, "A term with a number k ahead is k times the atom;", "with / n behind it this is divided into n parts.",
            "The value of a text is the sum of its terms, those behind \"-\" being taken away.");
        Check.put(y, "- 3 fifth / 2 - octave + 2 third / 2 - 0 comma / 24");
        Check.due("its root", y.read(0), 2);
        Check.due("its value", Check.interval(y, 0), "-3 -3 2 0 0 0/2");
    }

    private static void numbersOfTexts() {
        Doc.quote(-8, "A number is a row of 1 to 6 digits (behind / from 1 to 24, ahead of an atom at most 100, beside : at least 1).");
        Object[][] due = {
            {"100 fifth", -1}, {"101 fifth", 0}, {"0 fifth", -1}, {"000100 fifth", -1}, {"0000100 fifth", 0}, {"999999 fifth", 0},
            {"fifth / 1", -1}, {"fifth / 24", -1}, {"fifth / 0", 8}, {"fifth / 25", 8}, {"fifth / 000024", -1}, {"fifth / 0000024", 8}, {"fifth / ", 8},
            {"1:1", -1}, {"0:1", 0}, {"1:0", 2}, {"999999:999999", -1}, {"000001:000001", -1}, {"0000001:1", 0}, {"1:0000001", 2}, {"1000000:1", 0}, {"1:1000000", 2},
        };
        places(due);
        Doc.quote(-8, "(A number is one beside \":\", if a \":\" is the next sign behind it, blanks left out.)");
        places(new Object[][] {
            {"101:2", -1}, {"101 : 2", -1}, {"101   :2", -1}, {"2 101:2", -1}, {"2 101 : 101", -1}, {"101 2:101", 0}, {"2 3", 2}, {"0 0:1", 2}, {"100 100:100", -1},
            {"101 +:2", 0}, {"5 fifth:", 7},
        });
    }

    private static void wordsOfTexts() {
        Doc.quote(-8, "Words stand as long as letters a to z go on.");
        places(new Object[][] {
            {"octavea", 0}, {"octavez", 0}, {"octaveA", 6}, {"octave{", 6}, {"octave`", 6}, {"octav", 0}, {"fifththird", 0}, {"fifth third", 6}, {"2third", -1}, {"comma1", 5},
            {"third/2", -1}, {"third+third", -1}, {"x", 0}, {"fifth - octavefifth", 8},
        });
        for (String word : new String[] {"octave", "fifth", "third", "comma", "r"}) {
            for (int i = 0; i < word.length(); i++) {
                for (char other : new char[] {'q', 'a', 'z', 'X', '.'}) {
                    String wrong = word.substring(0, i) + other + word.substring(i + 1);
                    if (!wrong.equals(word)) {
                        places(new Object[][] {{word.equals("r") ? wrong + "1" : wrong, 0}});
                    }
                }
            }
        }
        Doc.quote(-8, "(r and its digit stand side by side;", "an r that is a word by itself, without a digit 0 to 7 right behind it, does not fit.)");
        places(new Object[][] {
            {"r0", -1}, {"r7", -1}, {"r8", 0}, {"r9", 0}, {"r 0", 0}, {"r", 0}, {"r+", 0}, {"fifth + r", 8}, {"2 r", 2}, {"r00", 2}, {"r0 0", 3}, {"r07", 2}, {"rr0", 0}, {"r0r0", 2}, {"r0/2", -1},
        });
    }

    private static void errorsOfTexts() {
        Doc.quote(-8, "The error is the first byte of the first word, number or sign that does not fit, or the length of the text, if it ends too early.");
        places(new Object[][] {
            {"", 0}, {" ", 1}, {"-", 1}, {"- ", 2}, {"3", 1}, {"3 ", 2}, {"3:", 2}, {"3 : ", 4}, {"fifth+", 6}, {"fifth - 3", 9}, {"fifth/", 6}, {"fifth / ", 8},
            {"+fifth", 0}, {"*", 0}, {"fifth * 2", 6}, {"fifth fifths", 6}, {"fifths fifths", 0}, {"fifth + fifths", 8}, {"fifth + 101 fifth", 8}, {"fifth 101", 6}, {"fifth 5", 6},
            {"fifth / fifth", 8}, {"fifth / /", 8}, {"5:fifth", 2}, {"5::4", 2}, {"5:4:3", 3}, {"5:4 3", 4}, {"fifth/2/3", 7}, {"--fifth", 1}, {"fifth--third", 6}, {"fifth+-third", 6}, {"5 - 4", 2},
            {"5/4", 1}, {"(fifth)", 0}, {"\u00e9", 0}, {"fifth\u00ff", 5}, {"101", 0}, {"1234567", 0}, {"0:", 0},
        });
    }

    private static void places(Object[][] due) {
        Tuninghouse x = new Tuninghouse();
        for (Object[] d : due) {
            Check.put(x, (String) d[0]);
            Check.due("\"" + d[0] + "\"", x.errorPlace(), d[1]);
        }
    }

    private static void changes() {
        Doc.quote(-9, "The calls under \"Changes\" are changes if they throw no exception, even if nothing is different afterwards.");
        Tuninghouse x = Make.house("1/1", "1/1", "1/1", "3/1", "5/1");
        for (int i = 0; i < 8; i++) {
            x.endTune();
        }
        Check.put(x, "r0");
        Check.Call[] idle = {
            () -> x.fraction(0, 1, 1), () -> x.parts(0, 0, 1), () -> x.sum(0, 0, 0, false), () -> x.times(0, 1, 1), () -> x.octavesOff(0), () -> x.miss(0, 1, 0),
            () -> x.deviation(1, 0, 0), () -> x.read(0), () -> x.row(0, 0, 0, 1), () -> x.tone(0, 0, true),
            () -> x.mode(0, 0), () -> x.block(0, 3, 4), () -> x.key(0, 0, 0), () -> x.temper(0, 0), () -> x.drift(0, 0), () -> x.endTune(),
        };
        for (int i = 0; i < idle.length; i++) {
            undoAll(x);
            String before = Check.all(x);
            idle[i].make();
            Check.due("change " + i + " changes nothing", Check.all(x), before);
            Check.due("and can be undone", x.undo(), 0);
        }
        x.giveName(1, 5);
        x.giveName(1, 5);
        Check.due("the same name again", x.undo() + " " + x.nameOf(1), "1 5");
        x.parts(2, 1, 2);
        Check.due("out of a scale that has it not", x.tone(0, 2, false), false);
        Check.due("can be undone", x.undo(), 2);
    }

    private static void undoAll(Tuninghouse x) {
        for (int left = 1; left > 0;) {
            try {
                left = x.undo();
            } catch (IllegalStateException e) {
                left = 0;
            }
        }
    }

    private static void undone() {
        Doc.quote(-9, "The latest 8 changes can be undone: registers, scales, names, the well temperament and the tune are then as they were ahead of the change.");
        Tuninghouse x = Make.house("3/2", "81/80", "25/24");
        Check.Call[] changes = {
            () -> x.fraction(3, 7, 4), () -> x.giveName(3, 7), () -> x.row(0, 0, 0, 5), () -> x.tone(0, 3, true), () -> x.block(1, 1, 2), () -> x.temper(11, 5),
            () -> x.move(0, true), () -> x.giveName(3, 8), () -> x.mode(0, 1), () -> x.endTune(),
        };
        String[] before = new String[changes.length];
        for (int i = 0; i < changes.length; i++) {
            before[i] = Check.all(x);
            changes[i].make();
        }
        for (int i = changes.length - 1; i >= 2; i--) {
            Check.due("left", x.undo(), i - 2);
            Check.due("as ahead of change " + i, Check.all(x), before[i]);
        }
        Check.state(x, "the ninth", () -> x.undo());
        Doc.quote(-9, "The text and the told numbers are not brought back.");
        x.temper(0, 1);
        x.tell(0);
        Check.put(x, "r0");
        x.temper(0, 2);
        x.tell(1);
        Check.put(x, "third");
        Check.due("two changes, texts and told numbers are none", x.undo() + " " + x.undo(), "1 0");
        Check.due("the text stays", x.clearText(), 5);
        Check.due("the told numbers stay", x.toldAt(0, 2) + " " + x.toldAt(1, 2), "81 80");
    }

    private static void exceptions() {
        Doc.quote(-9, "If several exceptions apply to a call, the one that is listed first is thrown;", "a call that throws an exception changes nothing.");
        Tuninghouse x = Make.house("17/17");
        Check.index(x, "register, over, and the prime", () -> x.fraction(8, 0, 17));
        Check.argument(x, "over, and the prime", () -> x.fraction(0, 0, 17));
        Check.argument(x, "parts ahead of into", () -> x.deviation(0, 8, 8));
        Make.tune(x, 0, 59);
        x.fraction(2, 2, 1);
        x.move(2, false);
        Make.put(x, 1, 5000);
        Check.index(x, "register ahead of the full tune", () -> x.move(-1, false));
        Check.state(x, "full, and too far", () -> x.move(1, false));
        Check.arithmetic(x, "the unison ahead of the end", () -> x.term(0, 1));
        Check.argument(x, "three ahead of the register, and it of the octave", () -> x.commas(21, 0, 1, 0));
        Check.argument(x, "the chord ahead of the register", () -> x.chord(0, 8));
        Check.index(x, "the register ahead of the exponent", () -> x.chord(3, 2));
        Doc.quote(-9, "An IndexOutOfBoundsException is thrown for a register, scale, step, fifth, key of a circle, prime or told number that is not there",
            "an IllegalArgumentException for other numbers out of range", "an ArithmeticException where the intervals do not allow it");
        Check.index(x, "register", () -> x.nameOf(8));
        Check.index(x, "scale", () -> x.symmetry(4));
        Check.index(x, "step", () -> x.mode(0, 1));
        Check.index(x, "fifth", () -> x.temper(12, 0));
        Check.index(x, "key of a circle", () -> x.impurity(12, 0));
        Check.index(x, "prime", () -> x.exponent(0, 6));
        Check.index(x, "told number", () -> x.toldAt(0, 0));
        Check.argument(x, "key of a scale", () -> x.key(0, 201, 0));
        Check.argument(x, "digits", () -> x.cents(0, 10, 0));
        Check.arithmetic(x, "the interval", () -> x.tell(1));
    }

    private static void constants() {
        Doc.quote(-9, "`NONE = -1`: There is none.", "`DOWN = 0, UP = 1, NEAREST = 2`: Ways to round.", "The constants:");
        Check.due("NONE", Tuninghouse.NONE, -1);
        Check.due("ways", Tuninghouse.DOWN + " " + Tuninghouse.UP + " " + Tuninghouse.NEAREST, "0 1 2");
    }
}
