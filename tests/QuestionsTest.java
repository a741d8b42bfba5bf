import java.util.NoSuchElementException;

/** Promises 21 to 55: all that is asked, the text and the measures. */
public final class QuestionsTest {
    private static final int LOW = Integer.MIN_VALUE;
    private static final int HIGH = Integer.MAX_VALUE;

    public static void main(String[] args) {
        exponentAndRoot();
        compare();
        cents();
        tell();
        toldAt();
        names();
        tonesAndSteps();
        sizeOf();
        gapSorts();
        symmetry();
        nearest();
        term();
        termFar();
        best();
        mapped();
        commas();
        closes();
        impurity();
        pure();
        moves();
        chord();
        beats();
        string();
        rhythm();
        unlike();
        type();
        clearText();
        errorPlace();
        evenness();
        meanImpurity();
        errors();
        Check.end(21, 55);
    }

    private static Tuninghouse fifthIn0() {
        Tuninghouse x = new Tuninghouse();
        x.fraction(0, 3, 2);
        return x;
    }

    /** Puts an interval with the root 1 by way of register 7. */
    private static void put(Tuninghouse x, int register, int... exponents) {
        int[] primes = {2, 3, 5, 7, 11, 13};
        x.fraction(register, 1, 1);
        for (int i = 0; i < exponents.length; i++) {
            x.fraction(7, primes[i], 1);
            x.times(7, 100, 1);
            x.times(7, exponents[i] / 100, 1);
            x.sum(register, register, 7, false);
            x.fraction(7, primes[i], 1);
            x.times(7, exponents[i] % 100, 1);
            x.sum(register, register, 7, false);
        }
    }

    private static void exponentAndRoot() {
        Check.begin(21);
        Tuninghouse x = new Tuninghouse();
        x.fraction(0, 1001, 60);
        String[] due = {"-2", "-1", "-1", "1", "1", "1"};
        for (int p = 0; p < 6; p++) {
            Check.due("prime " + p, x.exponent(0, p), due[p]);
        }
        x.times(0, 3, 7);
        Check.due("3 of 7", x.exponent(0, 0), -6);
        for (int bad : new int[] {-1, 6, LOW, HIGH}) {
            Check.index(x, "prime " + bad, () -> x.exponent(0, bad));
        }
        Check.index(x, "register", () -> x.exponent(8, 0));
        Check.index(x, "register", () -> x.exponent(-1, 0));
        Check.begin(22);
        Check.due("root", x.root(0), 7);
        Check.due("of the unison", x.root(1), 1);
        x.times(0, 7, 1);
        Check.due("root", x.root(0), 1);
        for (int bad : new int[] {-1, 8, LOW, HIGH}) {
            Check.index(x, "register " + bad, () -> x.root(bad));
        }
    }

    private static void compare() {
        Check.begin(23);
        Tuninghouse x = fifthIn0();
        x.parts(1, 7, 12);
        Check.due("3 / 2 and 7 of 12", x.compare(0, 1), 1);
        Check.due("7 of 12 and 3 / 2", x.compare(1, 0), -1);
        Check.due("itself", x.compare(0, 0), 0);
        x.fraction(2, 6, 4);
        Check.due("6 / 4", x.compare(0, 2), 0);
        x.fraction(3, 2, 3);
        Check.due("below and above", x.compare(3, 0), -1);
        // 2 to the power of -351, and so on, is above the unison by less than 2 to the power of -56 octaves.
        put(x, 4, -351, 666, -710, 755, -358, 17);
        Check.due("a small one, turned", x.compare(4, 5), -1);
        x.times(4, -1, 1);
        Check.due("a small one", x.compare(4, 5), 1);
        put(x, 5, 1246, 3003, -1188, -558, 2091, -2409);
        Check.due("a smaller one", x.compare(5, 6), -1);
        x.times(5, -1, 1);
        Check.due("small and smaller", x.compare(4, 5), 1);
        Check.due("smaller and unison", x.compare(5, 6), 1);
        Check.index(x, "first", () -> x.compare(8, 0));
        Check.index(x, "second", () -> x.compare(0, -1));
    }

    private static void cents() {
        Check.begin(24);
        Tuninghouse x = fifthIn0();
        Check.due("down", x.cents(0, 9, 0), 701955000865L);
        Check.due("up", x.cents(0, 9, 1), 701955000866L);
        Check.due("nearest", x.cents(0, 9, 2), 701955000865L);
        Check.due("0 digits", x.cents(0, 0, 2), 702);
        x.fraction(1, 2, 3);
        Check.due("down", x.cents(1, 3, 0), -701956);
        Check.due("up", x.cents(1, 3, 1), -701955);
        Check.due("nearest", x.cents(1, 3, 2), -701955);
        x.parts(2, 1, 32);
        Check.due("37.5 down", x.cents(2, 0, 0), 37);
        Check.due("37.5 up", x.cents(2, 0, 1), 38);
        Check.due("37.5 nearest", x.cents(2, 0, 2), 38);
        Check.due("37.5 whole", x.cents(2, 1, 1), 375);
        x.parts(2, -1, 32);
        Check.due("-37.5 down", x.cents(2, 0, 0), -38);
        Check.due("-37.5 up", x.cents(2, 0, 1), -37);
        Check.due("-37.5 nearest", x.cents(2, 0, 2), -37);
        x.fraction(3, 81, 80);
        Check.due("comma", x.cents(3, 9, 2), 21506289597L);
        put(x, 4, 0, 0, 0, 0, 0, 5000);
        Check.due("13 to the power of 5000", x.cents(4, 9, 0), 22202638308846552L);
        for (int bad : new int[] {-1, 10, LOW, HIGH}) {
            Check.argument(x, "digits " + bad, () -> x.cents(0, bad, 0));
        }
        for (int bad : new int[] {-1, 3, LOW, HIGH}) {
            Check.argument(x, "way " + bad, () -> x.cents(0, 0, bad));
            Check.index(x, "register first", () -> x.cents(8, 0, bad));
        }
        Check.index(x, "register", () -> x.cents(-1, 0, 0));
    }

    private static void tell() {
        Check.begin(25);
        Tuninghouse x = fifthIn0();
        Check.due("3 / 2", x.tell(0), true);
        Check.due("over", x.toldAt(0, 2), 3);
        Check.due("under", x.toldAt(1, 2), 2);
        x.fraction(1, 4, 5);
        Check.due("4 / 5", x.tell(1), false);
        Check.due("over", x.toldAt(0, 2), 4);
        Check.due("under", x.toldAt(1, 2), 5);
        Check.due("unison", x.tell(2), false);
        Check.due("1", x.toldAt(1, 2), 1);
        put(x, 3, 40, 40, 40, -40, 40, -40);
        Check.due("40", x.tell(3), true);
        Check.due("digits over", x.toldAt(0, 0), 101);
        Check.due("digits under", x.toldAt(1, 0), 79);
        put(x, 4, 0, 0, 0, 0, 0, -41);
        Check.arithmetic(x, "-41", () -> x.tell(4));
        put(x, 4, 41);
        Check.arithmetic(x, "41", () -> x.tell(4));
        x.parts(4, 1, 2);
        Check.arithmetic(x, "a root", () -> x.tell(4));
        Check.index(x, "register", () -> x.tell(8));
        Check.index(x, "register", () -> x.tell(-1));
    }

    private static void toldAt() {
        Check.begin(26);
        Tuninghouse x = fifthIn0();
        Check.due("none", x.told(), 0);
        x.parts(1, 1, 2);
        Check.arithmetic(x, "a root", () -> x.tell(1));
        Check.due("still none", x.told(), 0);
        Check.begin(27);
        Check.index(x, "none yet", () -> x.toldAt(0, 0));
        Check.index(x, "none yet, and no such question", () -> x.toldAt(0, 3));
        x.tell(0);
        Check.due("two", x.told(), 2);
        put(x, 2, -40, 40, 0, 40);
        x.tell(2);
        Check.due("decimal digits of 21 to the power of 40", x.toldAt(0, 0), 53);
        Check.due("binary digits", x.toldAt(0, 1), 176);
        Check.due("left", x.toldAt(0, 2), new java.math.BigInteger("21").pow(40).mod(java.math.BigInteger.valueOf(1000003)));
        Check.due("decimal digits of 2 to the power of 40", x.toldAt(1, 0), 13);
        Check.due("binary digits", x.toldAt(1, 1), 41);
        x.beats(0, 440, 3, 2);
        Check.due("digits of 0", x.toldAt(0, 0), 1);
        Check.due("binary digits of 0", x.toldAt(0, 1), 0);
        Check.due("left of 0", x.toldAt(0, 2), 0);
        for (int k = 1; k <= 6; k++) {
            x.fraction(3, (int) Math.pow(10, k), 1);
            x.tell(3);
            Check.due("digits of 10 to the power of " + k, x.toldAt(0, 0), k + 1);
        }
        x.fraction(3, 99, 98);
        x.tell(3);
        Check.due("digits of 99 and 98", x.toldAt(0, 0) + " " + x.toldAt(1, 0), "2 2");
        x.fraction(3, 9, 8);
        x.tell(3);
        Check.due("digits of 9 and 8", x.toldAt(0, 0) + " " + x.toldAt(1, 0), "1 1");
        x.fraction(3, 1000000, 1);
        x.tell(3);
        Check.due("left of 1000000", x.toldAt(0, 2), 1000000);
        for (int bad : new int[] {-1, 2, LOW, HIGH}) {
            Check.index(x, "which " + bad, () -> x.toldAt(bad, 3));
        }
        for (int bad : new int[] {-1, 3, LOW, HIGH}) {
            Check.argument(x, "what " + bad, () -> x.toldAt(1, bad));
        }
    }

    private static void names() {
        Check.begin(28);
        Tuninghouse x = fifthIn0();
        Check.due("without", x.nameOf(0), Tuninghouse.NONE);
        x.giveName(0, 0);
        Check.due("with", x.nameOf(0), 0);
        x.fraction(1, 9, 6);
        Check.due("the same interval", x.nameOf(1), 0);
        x.fraction(0, 3, 1);
        Check.due("another one", x.nameOf(0), -1);
        Check.index(x, "register", () -> x.nameOf(8));
        Check.index(x, "register", () -> x.nameOf(-1));
        Check.begin(29);
        Check.due("one below 3", x.namesBelow(0), 1);
        Check.due("not itself", x.namesBelow(1), 0);
        for (int i = 1; i <= 100; i++) {
            x.parts(2, i * 7 % 101 - 50, 50);
            x.giveName(2, i % 100);
        }
        Check.due("below the unison", x.namesBelow(7), 49);
        Check.due("below the octave", x.namesBelow(0), 101);
        x.parts(2, 1, 50);
        Check.due("next to it", x.namesBelow(2), 50);
        x.parts(2, 1000, 1);
        Check.due("below all", x.namesBelow(2), 101);
        Check.index(x, "register", () -> x.namesBelow(8));
        Check.index(x, "register", () -> x.namesBelow(LOW));
    }

    private static void tonesAndSteps() {
        Check.begin(30);
        Tuninghouse x = fifthIn0();
        Check.due("one", x.tones(3), 1);
        x.row(3, 0, -1, 7);
        Check.due("seven", x.tones(3), 7);
        for (int bad : new int[] {-1, 4, LOW, HIGH}) {
            Check.index(x, "scale " + bad, () -> x.tones(bad));
        }
        Check.begin(31);
        Check.due("a fifth", x.stepOf(3, 0), 4);
        x.fraction(1, 4, 3);
        Check.due("a fourth", x.stepOf(3, 1), 3);
        x.fraction(1, 1, 3);
        Check.due("a fourth far below", x.stepOf(3, 1), 3);
        x.fraction(1, 5, 4);
        Check.due("none", x.stepOf(3, 1), -3);
        x.fraction(1, 1024, 1);
        Check.due("octaves", x.stepOf(3, 1), 0);
        x.fraction(1, 63, 32);
        Check.due("above all", x.stepOf(3, 1), -8);
        x.tone(3, 2, false);
        Check.due("below all", x.stepOf(3, 2), -1);
        put(x, 2, 0, 5000);
        Check.due("what could not be kept", x.stepOf(3, 2), -6);
        Check.index(x, "scale", () -> x.stepOf(4, 0));
        Check.index(x, "register", () -> x.stepOf(0, 8));
        Check.index(x, "register", () -> x.stepOf(0, -1));
    }

    private static void sizeOf() {
        Check.begin(32);
        Tuninghouse x = fifthIn0();
        x.row(0, 0, -1, 7);
        Check.due("tones", Check.sizes(x, 0), "0 204 408 498 702 906 1110");
        Check.due("gaps", Check.gaps(x, 0), "204 204 90 204 204 204 90");
        x.parts(1, 1, 32);
        x.tone(1, 1, true);
        Check.due("37.5 and 1162.5", Check.sizes(x, 1) + ", " + Check.gaps(x, 1), "0 38, 38 1163");
        x.tone(1, 7, false);
        Check.due("the gap of one tone", Check.sizes(x, 1) + ", " + Check.gaps(x, 1), "38, 1200");
        x.parts(1, -1, 360);
        x.tone(2, 1, true);
        Check.due("1196.67", x.sizeOf(2, 1, false), 1197);
        x.parts(1, 1, 359);
        x.tone(2, 1, true);
        Check.due("roots 359 and 360", Check.gaps(x, 2), "3 1193 3");
        for (int bad : new int[] {-1, 7, LOW, HIGH}) {
            Check.index(x, "step " + bad, () -> x.sizeOf(0, bad, false));
            Check.index(x, "step " + bad, () -> x.sizeOf(0, bad, true));
        }
        Check.index(x, "scale", () -> x.sizeOf(4, 0, true));
    }

    private static void gapSorts() {
        Check.begin(33);
        Tuninghouse x = fifthIn0();
        Check.due("one", x.gapSorts(0), 1);
        x.row(0, 0, -1, 7);
        Check.due("two", x.gapSorts(0), 2);
        x.row(1, 0, 0, 11);
        Check.due("three", x.gapSorts(1), 3);
        x.parts(1, 1, 31);
        x.row(2, 1, 0, 31);
        Check.due("31 alike", x.gapSorts(2), 1);
        Check.index(x, "scale", () -> x.gapSorts(4));
        Check.index(x, "scale", () -> x.gapSorts(-1));
        Check.begin(34);
        StringBuilder s = new StringBuilder();
        for (int i = 0; i < 7; i++) {
            s.append(x.gapSort(0, i));
        }
        Check.due("major", s, "1101110");
        s.setLength(0);
        for (int i = 0; i < 11; i++) {
            s.append(x.gapSort(1, i));
        }
        Check.due("eleven fifths", s, "10102010100");
        for (int bad : new int[] {-1, 7, LOW, HIGH}) {
            Check.index(x, "step " + bad, () -> x.gapSort(0, bad));
        }
        Check.index(x, "scale", () -> x.gapSort(4, 0));
    }

    private static void symmetry() {
        Check.begin(35);
        Tuninghouse x = fifthIn0();
        Check.due("one tone", x.symmetry(0), 1);
        x.row(0, 0, -1, 7);
        Check.due("major", x.symmetry(0), 1);
        x.parts(1, 1, 6);
        x.row(1, 1, 0, 6);
        Check.due("whole tones", x.symmetry(1), 6);
        x.parts(1, 1, 4);
        x.row(2, 1, 0, 4);
        x.parts(1, 1, 12);
        for (int i = 0; i < 4; i++) {
            x.tone(2, 1, true);
            x.parts(2, 1, 4);
            x.sum(1, 1, 2, false);
        }
        Check.due("diminished", x.symmetry(2) + " of " + x.tones(2), "4 of 8");
        x.row(3, 0, 1, 3);
        Check.due("without the unison", x.symmetry(3), 0);
        x.parts(1, 1, 6);
        x.parts(2, 1, 12);
        x.row(3, 1, 0, 1);
        x.tone(3, 2, true);
        x.tone(3, 7, false);
        Check.due("one tone, not the unison", x.symmetry(3), 0);
        Check.index(x, "scale", () -> x.symmetry(4));
        Check.index(x, "scale", () -> x.symmetry(LOW));
    }

    private static void nearest() {
        Check.begin(36);
        Tuninghouse x = fifthIn0();
        int[] due = {1, 2, 5, 12, 41, 53, 306, 665};
        for (int i = 0; i < due.length; i++) {
            Check.due("index " + i, x.nearest(0, i, 2000), due[i]);
            int at = i;
            Check.due("index " + i, x.nearest(0, i, due[i]), due[i]);
            if (i > 0) {
                Check.refused(x, "one less", NoSuchElementException.class, () -> x.nearest(0, at, due[at] - 1));
            }
        }
        Check.refused(x, "index 8", NoSuchElementException.class, () -> x.nearest(0, 8, 2000));
        Check.refused(x, "index far", NoSuchElementException.class, () -> x.nearest(0, HIGH, 2000));
        x.fraction(1, 2, 3);
        Check.due("down", x.nearest(1, 7, 2000), 665);
        x.parts(2, 1, 2);
        Check.due("a half", x.nearest(2, 0, 2000) + " " + x.nearest(2, 1, 2000), "1 2");
        Check.refused(x, "nothing is nearer than 0", NoSuchElementException.class, () -> x.nearest(2, 2, 2000));
        x.parts(2, 3, 5);
        Check.due("3 of 5", x.nearest(2, 0, 5) + " " + x.nearest(2, 1, 5) + " " + x.nearest(2, 2, 5), "1 2 5");
        Check.due("the unison", x.nearest(3, 0, 1), 1);
        Check.refused(x, "the unison", NoSuchElementException.class, () -> x.nearest(3, 1, 2000));
        for (int bad : new int[] {0, -1, 2001, LOW, HIGH}) {
            Check.argument(x, "most " + bad, () -> x.nearest(0, 0, bad));
            Check.index(x, "register first", () -> x.nearest(8, 0, bad));
        }
        Check.argument(x, "index", () -> x.nearest(0, -1, 5));
        Check.argument(x, "index", () -> x.nearest(0, LOW, 5));
        Check.index(x, "register first", () -> x.nearest(-1, -1, 5));
    }

    private static void term() {
        Check.begin(37);
        Tuninghouse x = new Tuninghouse();
        x.fraction(0, 3, 1);
        int[] due = {1, 1, 1, 2, 2, 3, 1, 5, 2, 23, 2, 2, 1, 1, 55, 1};
        for (int i = 0; i < 16; i++) {
            Check.due("term " + i, x.term(0, i), due[i]);
        }
        x.parts(1, 7, 12);
        Check.due("7 of 12", x.term(1, 0) + " " + x.term(1, 1) + " " + x.term(1, 2) + " " + x.term(1, 3) + " " + x.term(1, 4), "0 1 1 2 2");
        Check.refused(x, "it has ended", NoSuchElementException.class, () -> x.term(1, 5));
        x.parts(1, 1000, 1);
        Check.due("1000 octaves", x.term(1, 0), 1000);
        Check.refused(x, "it has ended", NoSuchElementException.class, () -> x.term(1, 1));
        Check.arithmetic(x, "the unison", () -> x.term(2, 0));
        Check.arithmetic(x, "the unison, behind its end", () -> x.term(2, 15));
        x.fraction(2, 2, 3);
        Check.arithmetic(x, "below the unison", () -> x.term(2, 3));
        for (int bad : new int[] {-1, 16, LOW, HIGH}) {
            Check.argument(x, "index " + bad, () -> x.term(0, bad));
            Check.argument(x, "index, and the unison", () -> x.term(3, bad));
            Check.index(x, "register first", () -> x.term(8, bad));
        }
        Check.index(x, "register", () -> x.term(-1, 0));
    }

    /** Intervals so small that a term is at, or beyond, what is told. */
    private static void termFar() {
        Tuninghouse x = new Tuninghouse();
        put(x, 0, 351, -666, 710, -755, 358, -17);
        Check.due("term 0", x.term(0, 0), 0);
        Check.due("term 1", x.term(0, 1), 73120905889729845L);
        put(x, 1, -1246, -3003, 1188, 558, -2091, 2409);
        Check.due("term 0", x.term(1, 0), 0);
        Check.arithmetic(x, "term 1", () -> x.term(1, 1));
        Check.due("term 2 to 15 are told all the same", x.term(1, 2) > 0 && x.term(1, 15) > 0, true);
        x.times(0, 1, 13);
        Check.due("term 1 of a 13th", x.term(0, 1), 950571776566487996L);
        for (int k = 14; k <= 24; k++) {
            x.times(0, k - 1, k);
            Check.arithmetic(x, "term 1 of part " + k, () -> x.term(0, 1));
        }
    }

    private static void best() {
        Check.begin(38);
        Tuninghouse x = fifthIn0();
        Check.due("12", x.best(12, 0), 7);
        Check.due("53", x.best(53, 0), 31);
        Check.due("1", x.best(1, 0), 1);
        Check.due("10000", x.best(10000, 0), 5850);
        x.parts(1, 1, 2);
        Check.due("a half", x.best(1, 1), 1);
        x.parts(1, -1, 2);
        Check.due("less half", x.best(1, 1), 0);
        x.parts(1, -3, 2);
        Check.due("less one and a half", x.best(1, 1), -1);
        put(x, 2, 5000, 5000, 5000, 5000, 5000, 5000);
        Check.due("the greatest", x.best(10000, 2), 743705843);
        for (int bad : new int[] {0, -1, 10001, LOW, HIGH}) {
            Check.argument(x, "parts " + bad, () -> x.best(bad, 0));
            Check.argument(x, "parts first", () -> x.best(bad, 8));
        }
        Check.index(x, "register", () -> x.best(12, 8));
        Check.index(x, "register", () -> x.best(12, -1));
    }

    private static void mapped() {
        Check.begin(39);
        Tuninghouse x = fifthIn0();
        Check.due("a fifth in 12", x.mapped(12, 0), 7);
        x.fraction(1, 81, 80);
        Check.due("the comma in 12", x.mapped(12, 1), 0);
        Check.due("the comma in 53", x.mapped(53, 1), 1);
        Check.due("the comma in 1000", x.mapped(1000, 1), 4 * 1585 - 4000 - 2322);
        x.fraction(2, 1001, 60);
        Check.due("all primes in 12", x.mapped(12, 2), 34 + 42 + 44 - 24 - 19 - 28);
        Check.due("in 1", x.mapped(1, 2), 3 + 3 + 4 - 2 - 2 - 2);
        x.parts(3, 1, 2);
        Check.arithmetic(x, "a root", () -> x.mapped(12, 3));
        for (int bad : new int[] {0, -1, 1001, LOW, HIGH}) {
            Check.argument(x, "parts " + bad, () -> x.mapped(bad, 3));
            Check.argument(x, "parts first", () -> x.mapped(bad, 8));
        }
        Check.index(x, "register", () -> x.mapped(12, 8));
        Check.index(x, "register", () -> x.mapped(12, -1));
    }

    private static void commas() {
        Check.begin(40);
        Tuninghouse x = new Tuninghouse();
        x.fraction(0, 2, 1);
        Check.due("none but the unison", x.commas(0, 0, 0, 0), 0);
        Check.due("of 5 alone", x.commas(0, 3, 0, 0), 6);
        Check.due("those that vanish in 12", x.commas(0, 3, 0, 12), 1);
        Check.due("all below the octave", x.commas(20, 10, 0, 0), 41 * 21 - 1);
        x.fraction(1, 128, 125);
        Check.due("below 128 / 125", x.commas(0, 3, 1, 12), 0);
        x.fraction(2, 81, 80);
        Check.due("not below itself", x.commas(4, 1, 2, 0), 0);
        x.fraction(3, 26, 25);
        Check.due("81 / 80 below 26 / 25", x.commas(4, 1, 3, 0), 1);
        Check.due("the comma vanishes in 12, 19, 31", x.commas(4, 1, 0, 12) + " " + x.commas(4, 1, 0, 19) + " " + x.commas(4, 1, 0, 31), "1 1 1");
        Check.due("not in 53", x.commas(4, 1, 0, 53), 0);
        Check.due("vanish in 1: 4 / 3, 5 / 4, 5 / 3, 16 / 15", x.commas(1, 1, 0, 1), 4);
        Check.due("below the unison", x.commas(20, 10, 7, 0), 0);
        x.fraction(4, 1, 2);
        Check.due("below 1 / 2", x.commas(20, 10, 4, 0), 0);
        x.parts(5, 1, 24);
        Check.due("below a root", x.commas(5, 3, 5, 0), 4);
        x.fraction(4, 3, 1);
        Check.arithmetic(x, "above the octave", () -> x.commas(1, 1, 4, 0));
        x.parts(4, 360, 359);
        Check.arithmetic(x, "just above the octave", () -> x.commas(0, 0, 4, 0));
        for (int bad : new int[] {-1, 21, LOW, HIGH}) {
            Check.argument(x, "three " + bad, () -> x.commas(bad, 0, 8, 0));
        }
        for (int bad : new int[] {-1, 11, LOW, HIGH}) {
            Check.argument(x, "five " + bad, () -> x.commas(0, bad, 4, 0));
        }
        for (int bad : new int[] {-1, 101, LOW, HIGH}) {
            Check.argument(x, "parts " + bad, () -> x.commas(0, 0, 8, bad));
        }
        Check.index(x, "register", () -> x.commas(0, 0, 8, 0));
        Check.index(x, "register", () -> x.commas(0, 0, -1, 100));
    }

    private static Tuninghouse werckmeister() {
        Tuninghouse x = new Tuninghouse();
        for (int k : new int[] {0, 1, 2, 5}) {
            x.temper(k, 6);
        }
        return x;
    }

    private static void closes() {
        Check.begin(41);
        Tuninghouse x = werckmeister();
        Check.due("four of 6", x.closes(), true);
        x.temper(11, 1);
        Check.due("25", x.closes(), false);
        x.temper(3, -1);
        Check.due("24 again", x.closes(), true);
        x.temper(5, 5);
        Check.due("23", x.closes(), false);
    }

    private static void impurity() {
        Check.begin(42);
        Tuninghouse x = werckmeister();
        int[] due = {3911, 9776, 9776, 15641, 15641, 15641, 21506, 21506, 21506, 15641, 9776, 3911};
        for (int k = 0; k < 12; k++) {
            Check.due("key " + k, x.impurity(k, 3), due[k]);
        }
        Check.due("0 digits", x.impurity(0, 0), 4);
        Check.due("6 digits", x.impurity(6, 6), 21506290);
        for (int k = 0; k < 4; k++) {
            x.temper(k, 24);
        }
        Check.due("narrow thirds, without sign", x.impurity(0, 6), 72333752);
        for (int k = 0; k < 4; k++) {
            x.temper(k, -24);
        }
        Check.due("the widest", x.impurity(0, 6), 115346331);
        for (int bad : new int[] {-1, 7, LOW, HIGH}) {
            Check.argument(x, "digits " + bad, () -> x.impurity(0, bad));
            Check.index(x, "key first", () -> x.impurity(12, bad));
        }
        Check.index(x, "key", () -> x.impurity(-1, 0));
    }

    private static void pure() {
        Check.begin(43);
        Tuninghouse x = werckmeister();
        int[] due = {0, 11, 1, 2, 10, 3, 4, 5, 9, 6, 7, 8};
        for (int k = 0; k < 12; k++) {
            Check.due("place " + k, x.pure(k), due[k]);
        }
        Tuninghouse y = new Tuninghouse();
        for (int k = 0; k < 12; k++) {
            Check.due("all alike, place " + k, y.pure(k), k);
        }
        // 21 and 23 parts less are on both sides of the pure third, and by a hair not as far from it.
        y.temper(0, 21);
        y.temper(4, 23);
        Check.due("wide by 21, narrow by 23", y.impurity(0, 6) + " " + y.impurity(4, 6), "978781 976220");
        Check.due("first", y.pure(0) + " " + y.pure(4), "1 0");
        for (int bad : new int[] {-1, 12, LOW, HIGH}) {
            Check.index(x, "place " + bad, () -> x.pure(bad));
        }
    }

    private static void moves() {
        Check.begin(44);
        Tuninghouse x = fifthIn0();
        for (int i = 1; i <= 60; i++) {
            x.move(0, i % 2 == 0);
            Check.due("moves", x.moves(), i);
        }
        x.undo();
        Check.due("undone", x.moves(), 59);
        x.endTune();
        Check.due("ended", x.moves(), 0);
    }

    private static void chord() {
        Check.begin(45);
        Tuninghouse x = new Tuninghouse();
        x.fraction(1, 5, 4);
        x.fraction(2, 3, 2);
        Check.due("4 : 5 : 6", x.chord(7, 0) + " " + x.chord(7, 1) + " " + x.chord(7, 2), "4 5 6");
        Check.due("5 : 6", x.chord(6, 1) + " " + x.chord(6, 2), "5 6");
        Check.due("one alone", x.chord(4, 2), 1);
        x.fraction(3, 6, 5);
        Check.due("10 : 12 : 15", x.chord(13, 0) + " " + x.chord(13, 3) + " " + x.chord(13, 2), "10 12 15");
        x.fraction(4, 8, 1);
        x.fraction(5, 4, 1);
        Check.due("2 : 1", x.chord(48, 4) + " " + x.chord(48, 5), "2 1");
        put(x, 4, 31);
        Check.arithmetic(x, "2147483648", () -> x.chord(17, 4));
        Check.due("1 beside it", x.chord(17, 0), 1);
        put(x, 4, 30);
        Check.due("1073741824", x.chord(17, 4), 1073741824);
        put(x, 4, 100, -100);
        Check.due("100", x.chord(16, 4), 1);
        Check.arithmetic(x, "the number", () -> x.chord(17, 0));
        put(x, 4, 101);
        Check.arithmetic(x, "101", () -> x.chord(17, 0));
        put(x, 4, 0, 0, 0, 0, 0, -101);
        Check.arithmetic(x, "-101", () -> x.chord(16, 4));
        x.parts(4, 1, 2);
        Check.arithmetic(x, "a root", () -> x.chord(17, 0));
        Check.due("not in the chord", x.chord(7, 1), 5);
        for (int bad : new int[] {0, -1, 256, LOW, HIGH}) {
            Check.argument(x, "chord " + bad, () -> x.chord(bad, 0));
            Check.argument(x, "chord first", () -> x.chord(bad, 9));
        }
        Check.index(x, "register 3 of 0 to 2", () -> x.chord(7, 3));
        Check.index(x, "register first", () -> x.chord(16, 0));
        for (int bad : new int[] {-1, 8, 32, LOW, HIGH}) {
            Check.index(x, "register " + bad, () -> x.chord(255, bad));
        }
    }

    private static void beats() {
        Check.begin(46);
        Tuninghouse x = fifthIn0();
        Check.due("a pure fifth", x.beats(0, 440, 3, 2), true);
        Check.due("0 / 1", x.toldAt(0, 1) + " " + x.toldAt(1, 2), "0 1");
        x.fraction(1, 81, 64);
        Check.due("a wide third", x.beats(1, 264, 5, 4), false);
        Check.due("33 / 2", x.toldAt(0, 2) + " " + x.toldAt(1, 2), "33 2");
        x.fraction(1, 5, 4);
        Check.due("without sign", x.beats(1, 1, 100, 1), false);
        Check.due("395 / 4", x.toldAt(0, 2) + " " + x.toldAt(1, 2), "395 4");
        Check.due("without divisors", x.beats(1, 10000, 2, 3), false);
        Check.due("17500 / 1", x.toldAt(0, 2) + " " + x.toldAt(1, 2), "17500 1");
        put(x, 2, 40, 40, 40, 40, 40, 40);
        Check.due("the greatest", x.beats(2, 10000, 1, 100), false);
        Check.due("its digits", x.toldAt(0, 0) + " " + x.toldAt(1, 0), "186 1");
        put(x, 2, -40, -40, -40, -40, -40, -40);
        Check.due("the least", x.beats(2, 1, 1, 1), false);
        Check.due("its digits", x.toldAt(0, 0) + " " + x.toldAt(1, 0), "180 180");
        put(x, 2, 0, 41);
        Check.arithmetic(x, "41", () -> x.beats(2, 1, 1, 1));
        x.parts(2, 1, 2);
        Check.arithmetic(x, "a root", () -> x.beats(2, 1, 1, 1));
        for (int bad : new int[] {0, -1, LOW, HIGH}) {
            Check.argument(x, "swings " + bad, () -> x.beats(0, bad, 1, 1));
            Check.argument(x, "n " + bad, () -> x.beats(0, 1, bad, 1));
            Check.argument(x, "m first", () -> x.beats(2, 1, 1, bad));
        }
        Check.argument(x, "swings", () -> x.beats(0, 10001, 1, 1));
        Check.argument(x, "n", () -> x.beats(0, 1, 101, 1));
        Check.argument(x, "m", () -> x.beats(0, 1, 1, 101));
        Check.index(x, "register first", () -> x.beats(8, 0, 1, 1));
        Check.index(x, "register", () -> x.beats(-1, 1, 1, 1));
    }

    private static void string() {
        Check.begin(47);
        Tuninghouse x = fifthIn0();
        Check.due("a fifth", x.string(0, 600), 400);
        Check.due("just below", x.string(0, 599), 399);
        Check.due("1", x.string(0, 1), 0);
        Check.due("the unison", x.string(7, 1000000), 1000000);
        x.parts(1, 7, 12);
        Check.due("7 of 12", x.string(1, 1000000), 667419);
        x.parts(1, -1, 2);
        Check.due("longer", x.string(1, 1000000), 1414213);
        x.parts(1, 30, 1);
        Check.due("30 octaves", x.string(1, 1000000), 0);
        x.parts(1, -29, 1);
        Check.due("29 octaves down", x.string(1, 1), 536870912);
        Check.due("the most", x.string(1, 2), 1000000000);
        x.fraction(1, 1, 1000000);
        Check.due("just the most", x.string(1, 1000), 1000000000);
        Check.due("one less", x.string(1, 999), 999000000);
        Check.due("above the most", x.string(1, 1001), 1000000000);
        put(x, 2, 5000, 5000, 5000, 5000, 5000, 5000);
        Check.due("next to nothing", x.string(2, 1000000), 0);
        x.times(2, -1, 1);
        Check.due("far above the most", x.string(2, 1), 1000000000);
        put(x, 3, 351, -666, 710, -755, 358, -17);
        Check.due("by a hair shorter", x.string(3, 1000000), 999999);
        x.times(3, -1, 24);
        Check.due("by a hair longer", x.string(3, 1000000), 1000000);
        for (int bad : new int[] {0, -1, 1000001, LOW, HIGH}) {
            Check.argument(x, "length " + bad, () -> x.string(0, bad));
            Check.index(x, "register first", () -> x.string(8, bad));
        }
        Check.index(x, "register", () -> x.string(-1, 1));
    }

    private static void rhythm() {
        Check.begin(48);
        Tuninghouse x = new Tuninghouse();
        Check.due("3 of 8", x.rhythm(8, 3), 1 | 8 | 64);
        Check.due("none", x.rhythm(30, 0), 0);
        Check.due("all", x.rhythm(30, 30), (1 << 30) - 1);
        Check.due("1 of 1", x.rhythm(1, 1), 1);
        Check.due("2 of 5", x.rhythm(5, 2), 1 | 8);
        Check.due("15 of 30", x.rhythm(30, 15), 0x15555555);
        for (int bad : new int[] {0, -1, 31, LOW, HIGH}) {
            Check.argument(x, "places " + bad, () -> x.rhythm(bad, 0));
        }
        for (int bad : new int[] {-1, 9, LOW, HIGH}) {
            Check.argument(x, "beats " + bad, () -> x.rhythm(8, bad));
        }
    }

    private static void unlike() {
        Check.begin(49);
        Tuninghouse x = new Tuninghouse();
        int[] due = {1, 1, 6, 19, 43, 66, 80, 66, 43, 19, 6, 1, 1};
        for (int k = 0; k <= 12; k++) {
            Check.due(k + " of 12", x.unlike(12, k), due[k]);
        }
        Check.due("1 of 1", x.unlike(1, 1) + " " + x.unlike(1, 0), "1 1");
        Check.due("15 of 30", x.unlike(30, 15), 5170604);
        Check.due("2 of 30", x.unlike(30, 2), 15);
        for (int bad : new int[] {0, -1, 31, LOW, HIGH}) {
            Check.argument(x, "parts " + bad, () -> x.unlike(bad, 0));
        }
        for (int bad : new int[] {-1, 13, LOW, HIGH}) {
            Check.argument(x, "many " + bad, () -> x.unlike(12, bad));
        }
    }

    private static void type() {
        Check.begin(50);
        Tuninghouse x = new Tuninghouse();
        Check.due("nothing", x.type(0), 0);
        Check.due("r0", x.type(0x7230), 2);
        Check.due("it reads", x.errorPlace(), -1);
        Check.due("with zeros between", x.type(0x2b00720000310020L), 6);
        Check.due("r0+r1 ", x.errorPlace(), -1);
        Check.due("eight bytes", x.type(-1), 14);
        Check.due("no sign of the text", x.errorPlace(), 6);
        x.clearText();
        for (int i = 1; i <= 15; i++) {
            Check.due("eight more", x.type(0x2020202020202020L), 8 * i);
        }
        Check.state(x, "one more", () -> x.type(1));
        Check.state(x, "the highest alone", () -> x.type(Long.MIN_VALUE));
        Check.due("none more", x.type(0), 120);
        x.clearText();
        for (int i = 0; i < 119; i++) {
            x.type(' ');
        }
        Check.state(x, "two at 119", () -> x.type(0x7230));
        Check.due("one at 119", x.type(0x31), 120);
        Check.due("the order is kept", x.errorPlace(), 120);
    }

    private static void clearText() {
        Check.begin(51);
        Tuninghouse x = new Tuninghouse();
        Check.due("empty", x.clearText(), 0);
        x.type(0x6f6374617665L);
        Check.due("octave", x.clearText(), 6);
        Check.due("empty again", x.clearText(), 0);
        Check.due("too early", x.errorPlace(), 0);
        Check.due("as new", x.type(0x7230), 2);
    }

    private static void errorPlace() {
        Check.begin(52);
        Tuninghouse x = new Tuninghouse();
        String[] right = {"octave", " fifth ", "- third", "comma/24", "r0", "r7-r0+r3", "3:2", "3 : 2", "100 fifth", "100fifth", "2 3:2/3", "000 r1", "999999:000001",
            "12 r3/2 - 5:4 / 4 + octave", "17:19", "0fifth", "101:2", "-r0"};
        for (String s : right) {
            Check.put(x, s);
            Check.due("\"" + s + "\"", x.errorPlace(), -1);
        }
        Object[][] wrong = {
            {"", 0}, {"   ", 3}, {"-", 1}, {"+fifth", 0}, {"--fifth", 1}, {"fifth +", 7}, {"fifth + ", 8}, {"fifth + - fifth", 8}, {"fifth fifth", 6},
            {"fifths", 0}, {"fifthz", 0}, {"fiftha", 0}, {"fifth`", 5}, {"fifth{", 5}, {"fif th", 0}, {"Fifth", 0}, {"r", 0}, {"r8", 0}, {"r 1", 0}, {"2 r", 2}, {"rr1", 0}, {"r12", 2}, {"r1r2", 2}, {"fifthr1", 0}, {"r1fifth", 2},
            {"101 fifth", 0}, {"101", 0}, {"100", 3}, {"3 2", 2}, {"3 2 fifth", 2}, {"3 2 :", 5}, {"3 :", 3}, {"3 : ", 4}, {"3:0", 2}, {"0:3", 0}, {"3:2:1", 3},
            {"1234567:2", 0}, {"2:1234567", 2}, {"0000001 fifth", 0}, {"fifth/", 6}, {"fifth/0", 6}, {"fifth / 25", 8}, {"fifth/2/2", 7}, {"fifth/0000002", 6},
            {"fifth/fifth", 6}, {"fifth/-2", 6}, {"fifth 2", 6}, {"3:fifth", 2}, {":2", 0}, {"/2", 0}, {"2/3", 1}, {"fifth\t", 5}, {"fifth*2", 5}, {"\u00ff", 0}, {"3:2 5", 4},
            {"3 -", 2}, {"fifth - 2 octaves", 10}, {"2:3/4:5", 5}, {"9 101", 2}, {"octave1", 6},
        };
        for (Object[] w : wrong) {
            Check.put(x, (String) w[0]);
            Check.due("\"" + w[0] + "\"", x.errorPlace(), w[1]);
            Check.argument(x, "reading \"" + w[0] + "\"", () -> x.read(0));
        }
        StringBuilder full = new StringBuilder("r0");
        while (full.length() < 119) {
            full.append("+r0");
        }
        full.append(' ');
        Check.put(x, full.toString());
        Check.due("forty terms", x.errorPlace() + " " + full.length(), "-1 120");
        x.clearText();
        Check.put(x, full.substring(0, 119) + "+");
        Check.due("forty terms and a sign", x.errorPlace(), 120);
    }

    private static void evenness() {
        Check.begin(53);
        Tuninghouse x = fifthIn0();
        Check.due("one", x.evenness(0), 1.0f);
        x.row(0, 0, -1, 7);
        Check.due("5 of 7", x.evenness(0), 5.0f / 7.0f);
        x.row(1, 0, 0, 11);
        Check.due("6 of 11", x.evenness(1), 6.0f / 11.0f);
        x.row(2, 0, 0, 3);
        Check.due("2 of 3", x.evenness(2), 2.0f / 3.0f);
        Check.index(x, "scale", () -> x.evenness(4));
        Check.index(x, "scale", () -> x.evenness(-1));
    }

    private static void meanImpurity() {
        Check.begin(54);
        Tuninghouse x = werckmeister();
        Check.due("werckmeister", x.meanImpurity(), 164232.0 / 12000.0);
        Check.due("pure fifths", new Tuninghouse().meanImpurity(), 12 * 21506.0 / 12000.0);
    }

    private static void errors() {
        Check.begin(55);
        Tuninghouse x = fifthIn0();
        Check.due("new", x.errors(), 0);
        x.row(0, 0, -50, 40);
        x.parts(1, 7, 360);
        x.row(1, 1, 0, 40);
        put(x, 2, 5000, -5000, 5000, -5000, 5000, -5000);
        put(x, 3, 351, -666, 710, -755, 358, -17);
        x.parts(4, -1, 359);
        x.tone(2, 4, true);
        x.tone(2, 1, true);
        x.tone(2, 7, false);
        Check.due("full", x.errors(), 0);
        x.undo();
        Check.due("undone", x.errors(), 0);
    }
}
