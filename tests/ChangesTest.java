/** Promises 1 to 20: a new object, and all changes. */
final class ChangesTest {
    private static final int LOW = Integer.MIN_VALUE;
    private static final int HIGH = Integer.MAX_VALUE;

    private ChangesTest() {
    }

    static void all() {
        newObject();
        fraction();
        parts();
        sum();
        times();
        octavesOff();
        miss();
        deviation();
        read();
        giveName();
        row();
        tone();
        toneFull();
        mode();
        block();
        key();
        temper();
        move();
        drift();
        endTune();
        undo();
        undoOfEach();
    }

    private static Tuninghouse fifthIn0() {
        Tuninghouse x = new Tuninghouse();
        x.fraction(0, 3, 2);
        return x;
    }

    /** 2 to the power of many in a register, whatever many is. */
    private static void octaves(Tuninghouse x, int register, int many) {
        x.fraction(register, 1, 1);
        for (int rest = Math.abs(many); rest > 0; rest -= 1000) {
            x.parts(7, Math.min(rest, 1000) * (many < 0 ? -1 : 1), 1);
            x.sum(register, register, 7, false);
        }
    }

    private static void newObject() {
        Doc.quote(1, "Creates a house with unisons in all registers and scales, without names, with twelve pure fifths, an empty tune and an empty text.");
        Tuninghouse x = new Tuninghouse();
        for (int r = 0; r < 8; r++) {
            Check.due("register " + r, Check.interval(x, r), "0 0 0 0 0 0/1");
            Check.due("its name", x.nameOf(r), -1);
        }
        for (int s = 0; s < 4; s++) {
            Check.due("scale " + s, Check.sizes(x, s), "0");
            Check.due("its gap", Check.gaps(x, s), "1200");
        }
        Check.due("names", x.namesBelow(0), 0);
        for (int k = 0; k < 12; k++) {
            Check.due("temper " + k, x.impurity(k, 3), 21506);
        }
        Check.due("closes", x.closes(), false);
        Check.due("moves", x.moves(), 0);
        Check.due("told", x.told(), 0);
        Check.due("text", x.type(0), 0);
        Check.due("errorPlace", x.errorPlace(), 0);
        Check.state(x, "undo", () -> x.undo());
        Check.due("NONE", Tuninghouse.NONE, -1);
        Check.due("ways", Tuninghouse.DOWN + " " + Tuninghouse.UP + " " + Tuninghouse.NEAREST, "0 1 2");
    }

    private static void fraction() {
        Doc.quote(2, "Puts a fraction into a register.", "Returns whether it is above the unison.");
        Tuninghouse x = new Tuninghouse();
        Check.due("3 / 2", x.fraction(0, 3, 2), true);
        Check.due("3 / 2", Check.interval(x, 0), "-1 1 0 0 0 0/1");
        Check.due("2 / 3", x.fraction(1, 2, 3), false);
        Check.due("2 / 3", Check.interval(x, 1), "1 -1 0 0 0 0/1");
        Check.due("7 / 7", x.fraction(2, 7, 7), false);
        Check.due("7 / 7", Check.interval(x, 2), "0 0 0 0 0 0/1");
        Check.due("1000000 / 1", x.fraction(7, 1000000, 1), true);
        Check.due("1000000 / 1", Check.interval(x, 7), "6 0 6 0 0 0/1");
        Check.due("1001 / 1000000", x.fraction(3, 1001, 1000000), false);
        Check.due("1001 / 1000000", Check.interval(x, 3), "-6 0 -6 1 1 1/1");
        Doc.quote(2, "Throws `ArithmeticException` if the fraction, without common divisors, has another prime than 2 to 13");
        Check.due("34 / 17", x.fraction(4, 34, 17), true);
        Check.due("34 / 17", Check.interval(x, 4), "1 0 0 0 0 0/1");
        Check.arithmetic(x, "17 / 2", () -> x.fraction(0, 17, 2));
        Check.arithmetic(x, "2 / 19", () -> x.fraction(0, 2, 19));
        Check.arithmetic(x, "999983 / 1", () -> x.fraction(0, 999983, 1));
        for (int bad : new int[] {0, -1, 1000001, LOW, HIGH}) {
            Check.argument(x, "over " + bad, () -> x.fraction(0, bad, 1));
            Check.argument(x, "under " + bad, () -> x.fraction(0, 1, bad));
            Check.argument(x, "both, 17", () -> x.fraction(0, 17, bad));
        }
        for (int bad : new int[] {-1, 8, LOW, HIGH}) {
            Check.index(x, "register " + bad, () -> x.fraction(bad, 3, 2));
            Check.index(x, "register first", () -> x.fraction(bad, 0, 17));
        }
    }

    private static void parts() {
        Doc.quote(3, "Puts some of the equal parts of an octave into a register.", "Returns the root of the interval.");
        Tuninghouse x = new Tuninghouse();
        Check.due("7 of 12", x.parts(0, 7, 12), 12);
        Check.due("7 of 12", Check.interval(x, 0), "7 0 0 0 0 0/12");
        Check.due("6 of 12", x.parts(0, 6, 12), 2);
        Check.due("0 of 360", x.parts(0, 0, 360), 1);
        Check.due("1 of 360", x.parts(0, 1, 360), 360);
        Check.due("-1000 of 360", x.parts(0, -1000, 360), 9);
        Check.due("-1000 of 360", Check.interval(x, 0), "-25 0 0 0 0 0/9");
        Check.due("1000 of 1", x.parts(0, 1000, 1), 1);
        Check.due("1000 of 1", x.exponent(0, 0), 1000);
        for (int bad : new int[] {-1001, 1001, LOW, HIGH}) {
            Check.argument(x, "many " + bad, () -> x.parts(0, bad, 12));
        }
        for (int bad : new int[] {0, -1, 361, LOW, HIGH}) {
            Check.argument(x, "parts " + bad, () -> x.parts(0, 1, bad));
            Check.index(x, "register first", () -> x.parts(8, 1, bad));
        }
        Check.index(x, "register -1", () -> x.parts(-1, 1, 1));
    }

    private static void sum() {
        Doc.quote(4, "Puts the sum or the difference of two registers into a register.", "- `isLess`: whether the second one is taken away", "Returns the root of the interval.");
        Tuninghouse x = fifthIn0();
        x.fraction(1, 5, 4);
        Check.due("3 / 2 and 5 / 4", x.sum(2, 0, 1, false), 1);
        Check.due("15 / 8", Check.interval(x, 2), "-3 1 1 0 0 0/1");
        Check.due("3 / 2 less 5 / 4", x.sum(2, 0, 1, true), 1);
        Check.due("6 / 5", Check.interval(x, 2), "1 1 -1 0 0 0/1");
        x.parts(3, 1, 4);
        x.parts(4, 1, 6);
        Check.due("1 of 4 and 1 of 6", x.sum(5, 3, 4, false), 12);
        Check.due("5 of 12", Check.interval(x, 5), "5 0 0 0 0 0/12");
        Check.due("1 of 4 less 1 of 4", x.sum(3, 3, 3, true), 1);
        Check.due("unison", Check.interval(x, 3), "0 0 0 0 0 0/1");
        x.parts(3, 1, 360);
        x.parts(4, 1, 7);
        Check.arithmetic(x, "root 2520", () -> x.sum(5, 3, 4, false));
        x.parts(4, 1, 72);
        Check.due("root 60 of 360 and 72", x.sum(5, 3, 4, false), 60);
        Doc.quote(4, "Throws `ArithmeticException` see section 1");
        octaves(x, 5, 5000);
        x.fraction(6, 2, 1);
        Check.arithmetic(x, "5001 octaves", () -> x.sum(0, 5, 6, false));
        Check.due("4999 octaves", x.sum(0, 5, 6, true), 1);
        Check.due("4999 octaves", x.exponent(0, 0), 4999);
        Check.index(x, "into", () -> x.sum(8, 5, 6, false));
        Check.index(x, "first", () -> x.sum(0, -1, 6, false));
        Check.index(x, "second", () -> x.sum(0, 5, HIGH, false));
    }

    private static void times() {
        Doc.quote(5, "Makes the interval of a register so many times itself, divided into parts.", "Returns the root of the interval.");
        Tuninghouse x = fifthIn0();
        Check.due("4 times", x.times(0, 4, 1), 1);
        Check.due("81 / 16", Check.interval(x, 0), "-4 4 0 0 0 0/1");
        Check.due("divided by 24", x.times(0, 1, 24), 6);
        Check.due("divided by 24", Check.interval(x, 0), "-1 1 0 0 0 0/6");
        Check.due("-3 times", x.times(0, -3, 2), 4);
        Check.due("-3 times", Check.interval(x, 0), "1 -1 0 0 0 0/4");
        Check.due("0 times", x.times(0, 0, 7), 1);
        Check.due("0 times", Check.interval(x, 0), "0 0 0 0 0 0/1");
        Doc.quote(5, "Throws `ArithmeticException` see section 1");
        x.fraction(0, 3, 1);
        x.times(0, 50, 1);
        Check.due("100 times", x.times(0, -100, 1), 1);
        Check.due("100 times", x.exponent(0, 1), -5000);
        Check.arithmetic(x, "15000", () -> x.times(0, 3, 2));
        Check.due("5000 times 3 / 3", x.times(0, 3, 3), 1);
        x.parts(1, 1, 360);
        Check.arithmetic(x, "root 720", () -> x.times(1, 1, 2));
        Check.due("root 180", x.times(1, 4, 2), 180);
        for (int bad : new int[] {-101, 101, LOW, HIGH}) {
            Check.argument(x, "times " + bad, () -> x.times(0, bad, 1));
        }
        for (int bad : new int[] {0, 25, LOW, HIGH}) {
            Check.argument(x, "parts " + bad, () -> x.times(0, 1, bad));
        }
        Check.index(x, "register", () -> x.times(8, 101, 0));
    }

    private static void octavesOff() {
        Doc.quote(6, "Takes octaves off the interval of a register.", "Returns how many octaves were taken away (below 0: so many were added).");
        Tuninghouse x = fifthIn0();
        Check.due("a fifth", x.octavesOff(0), 0);
        x.fraction(0, 81, 16);
        Check.due("81 / 16", x.octavesOff(0), 2);
        Check.due("81 / 64", Check.interval(x, 0), "-6 4 0 0 0 0/1");
        x.fraction(0, 1, 3);
        Check.due("1 / 3", x.octavesOff(0), -2);
        Check.due("4 / 3", Check.interval(x, 0), "2 -1 0 0 0 0/1");
        x.fraction(0, 2, 1);
        Check.due("an octave", x.octavesOff(0), 1);
        Check.due("unison", Check.interval(x, 0), "0 0 0 0 0 0/1");
        x.parts(0, -1, 12);
        Check.due("-1 of 12", x.octavesOff(0), -1);
        Check.due("11 of 12", Check.interval(x, 0), "11 0 0 0 0 0/12");
        octaves(x, 0, -5000);
        Check.due("-5000 octaves", x.octavesOff(0), -5000);
        Doc.quote(6, "Throws `ArithmeticException` see section 1");
        Make.put(x, 0, 0, 3155);
        Check.due("5000 octaves", x.octavesOff(0) + " " + x.exponent(0, 0), "5000 -5000");
        Make.put(x, 0, 0, 0, -2153);
        Check.due("-5000 octaves", x.octavesOff(0) + " " + x.exponent(0, 0), "-5000 5000");
        Make.put(x, 0, 0, 0, 2154);
        Check.arithmetic(x, "5001 octaves", () -> x.octavesOff(0));
        Make.put(x, 0, 0, -3155);
        Check.arithmetic(x, "-5001 octaves", () -> x.octavesOff(0));
        Make.putRoot(x, 0, 2, 0, 3155);
        Check.due("2500 octaves, over 2", x.octavesOff(0) + " " + x.exponent(0, 0), "2500 -5000");
        Make.putRoot(x, 0, 2, 0, 3157);
        Check.arithmetic(x, "2501 octaves, over 2", () -> x.octavesOff(0));
        Check.index(x, "register", () -> x.octavesOff(8));
        Check.index(x, "register", () -> x.octavesOff(-1));
    }

    private static void miss() {
        Doc.quote(7, "Puts the miss of some steps of a register into a register.", "Returns how many octaves were taken away.");
        Tuninghouse x = fifthIn0();
        Check.due("12 fifths", x.miss(0, 12, 1), 7);
        Check.due("the comma", Check.interval(x, 1), "-19 12 0 0 0 0/1");
        Check.due("1 fifth", x.miss(0, 1, 2), 1);
        Check.due("a fourth down", Check.interval(x, 2), "-2 1 0 0 0 0/1");
        x.parts(3, 1, 2);
        Check.due("a half", x.miss(3, 1, 4), 1);
        Check.due("half down", Check.interval(x, 4), "-1 0 0 0 0 0/2");
        x.parts(3, -1, 2);
        Check.due("less half", x.miss(3, 1, 4), 0);
        Check.due("half down", Check.interval(x, 4), "-1 0 0 0 0 0/2");
        Check.due("400 into itself", x.miss(0, 400, 0), 234);
        Check.due("400 fifths", Check.interval(x, 0), "-634 400 0 0 0 0/1");
        Doc.quote(7, "Throws `ArithmeticException` see section 1");
        Make.put(x, 1, 0, 0, 0, 1781);
        Check.due("5000 octaves", x.miss(1, 1, 2) + " " + x.exponent(2, 0), "5000 -5000");
        Make.put(x, 1, 0, 3155);
        Check.arithmetic(x, "5001 octaves", () -> x.miss(1, 1, 2));
        Make.put(x, 1, 0, 50, -34);
        Check.due("100 times 50 of 3", x.miss(1, 100, 2) + " " + x.exponent(2, 1), "30 5000");
        Check.arithmetic(x, "101 times 50 of 3", () -> x.miss(1, 101, 2));
        Check.arithmetic(x, "160000 of 3", () -> x.miss(0, 13, 1));
        for (int bad : new int[] {0, -1, 401, LOW, HIGH}) {
            Check.argument(x, "many " + bad, () -> x.miss(0, bad, 1));
            Check.index(x, "register first", () -> x.miss(8, bad, 1));
            Check.index(x, "into first", () -> x.miss(0, bad, -1));
        }
    }

    private static void deviation() {
        Doc.quote(8, "Puts how far n equal parts miss an interval into a register: its best number of parts, less the interval.", "Returns the best number.");
        Tuninghouse x = fifthIn0();
        Check.due("12 parts", x.deviation(12, 0, 1), 7);
        Check.due("12 parts", Check.interval(x, 1), "19 -12 0 0 0 0/12");
        Check.due("cents", x.cents(1, 3, 2), -1955);
        Check.due("5 parts", x.deviation(5, 0, 1), 3);
        Check.due("cents", x.cents(1, 3, 2), 18045);
        x.parts(2, 1, 48);
        Check.due("half of 24", x.deviation(24, 2, 3), 1);
        Check.due("up", Check.interval(x, 3), "1 0 0 0 0 0/48");
        x.parts(2, -1, 48);
        Check.due("less half of 24", x.deviation(24, 2, 3), 0);
        Doc.quote(8, "Throws `ArithmeticException` see section 1");
        Make.put(x, 4, 0, 0, 0, 1781);
        Check.due("5000 octaves", x.deviation(1, 4, 3) + " " + Check.interval(x, 3), "5000 5000 0 0 -1781 0 0/1");
        Make.put(x, 4, 0, 3155);
        Check.arithmetic(x, "5001 octaves", () -> x.deviation(1, 4, 3));
        x.parts(2, 26, 51);
        Check.due("root 357", x.deviation(7, 2, 3) + " " + x.root(3), "4 357");
        x.parts(2, 27, 52);
        Check.arithmetic(x, "root 364", () -> x.deviation(7, 2, 3));
        x.parts(2, 100, 359);
        Check.arithmetic(x, "root 2513", () -> x.deviation(7, 2, 3));
        x.fraction(4, 3, 1);
        x.times(4, 100, 1);
        x.times(4, 50, 1);
        Check.arithmetic(x, "3 to the power of 5000", () -> x.deviation(1, 4, 3));
        for (int bad : new int[] {0, 25, LOW, HIGH}) {
            Check.argument(x, "parts " + bad, () -> x.deviation(bad, 0, 1));
            Check.argument(x, "parts first", () -> x.deviation(bad, 8, 9));
        }
        Check.index(x, "register", () -> x.deviation(12, 8, 1));
        Check.index(x, "into", () -> x.deviation(12, 0, -1));
    }

    private static void read() {
        Doc.quote(9, "Puts the value of the text into a register; the text stays.", "Returns the root of the interval.");
        Tuninghouse x = fifthIn0();
        String[][] due = {
            {"octave", "1 0 0 0 0 0/1"}, {"fifth", "-1 1 0 0 0 0/1"}, {"third", "-2 0 1 0 0 0/1"}, {"comma", "-4 4 -1 0 0 0/1"},
            {"7:4", "-2 0 0 1 0 0/1"}, {"34:17", "1 0 0 0 0 0/1"}, {"-fifth", "1 -1 0 0 0 0/1"}, {" - 2 3:2 / 3 ", "2 -2 0 0 0 0/3"},
            {"12 fifth - 7 octave", "-19 12 0 0 0 0/1"}, {"fifth - comma / 4", "0 0 1 0 0 0/4"}, {"r0+r0", "-2 2 0 0 0 0/1"},
            {"0 fifth", "0 0 0 0 0 0/1"}, {"100octave-99 octave+3 3 : 1", "1 3 0 0 0 0/1"}, {"007 2:1", "7 0 0 0 0 0/1"}, {"8:9/24", "3 -2 0 0 0 0/24"},
        };
        for (String[] d : due) {
            Check.put(x, d[0]);
            Check.due(d[0], x.read(1), Integer.parseInt(d[1].substring(d[1].indexOf('/') + 1)));
            Check.due(d[0], Check.interval(x, 1), d[1]);
            Check.due("the text stays", x.clearText(), d[0].length());
        }
        x.clearText();
        Doc.quote(9, "Throws `IllegalArgumentException` if the text has an error");
        Check.argument(x, "no text", () -> x.read(0));
        Check.put(x, "17:2 +");
        Check.argument(x, "error ahead of the prime", () -> x.read(0));
        Check.index(x, "register first", () -> x.read(8));
        Doc.quote(9, "Throws `ArithmeticException` if a fraction has another prime than 2 to 13, or see section 1 (of any interval on the way, from the left: k times the atom, its parts, the sum so far)");
        Check.put(x, "17:2");
        Check.arithmetic(x, "prime 17", () -> x.read(0));
        Check.put(x, "0 2:19 / 24");
        Check.arithmetic(x, "prime 19, 0 times", () -> x.read(0));
        Check.put(x, "fifth - 999983:1");
        Check.arithmetic(x, "a prime in the last term", () -> x.read(0));
        Check.put(x, "13:11 + 143:169");
        Check.due("primes up to 13", x.read(3) + " " + Check.interval(x, 3), "1 0 0 0 0 0 0/1");
        octaves(x, 2, 5000);
        Check.put(x, "r2 - r2 - r2 + octave");
        Check.due("5000, and -5000 in the sum", x.read(3) + " " + x.exponent(3, 0), "1 -4999");
        Check.put(x, "r2 + octave - octave");
        Check.arithmetic(x, "5001 in the sum", () -> x.read(0));
        Check.put(x, "- r2 - octave + octave");
        Check.arithmetic(x, "-5001 in the sum", () -> x.read(0));
        Check.put(x, "octave + r2 - octave");
        Check.arithmetic(x, "5001 in the sum", () -> x.read(0));
        Check.put(x, "octave - octave + r2");
        Check.due("5000 at the end", x.read(3) + " " + x.exponent(3, 0), "1 5000");
        x.fraction(2, 2, 1);
        x.times(2, 51, 1);
        Check.put(x, "100 r2 / 2");
        Check.arithmetic(x, "5100 on the way", () -> x.read(0));
        Check.put(x, "50 r2 / 2");
        Check.due("2550 on the way", x.read(3), 1);
        Check.put(x, "50 r2 + 50 r2 - 51 r2 + r2 / 7 - 100 r2");
        Check.arithmetic(x, "5100 in the sum, and as a term", () -> x.read(0));
        Check.put(x, "- 10 r2 + 100 r2");
        Check.arithmetic(x, "5100 as a term, 4590 in the sum", () -> x.read(0));
        x.parts(4, 1, 20);
        x.parts(5, 1, 160);
        Check.put(x, "r5 + r4 / 18");
        Check.arithmetic(x, "root 1440 in the sum", () -> x.read(0));
        Check.put(x, "r4 / 18");
        Check.due("root 360 as a term", x.read(3), 360);
        Check.put(x, "r5 + r4 / 24");
        Check.arithmetic(x, "root 480 as a term, 120 in the sum", () -> x.read(0));
        Check.put(x, "98 r2 + 2 r2 - r2");
        Check.arithmetic(x, "the sum on the way", () -> x.read(0));
        Check.put(x, "98 r2 - r2 + 2 r2");
        Check.arithmetic(x, "5049 at the end", () -> x.read(0));
        Check.put(x, "96 r2 - r2 + 2 r2");
        Check.due("4947", x.read(3), 1);
        Check.due("4947", x.exponent(3, 0), 4947);
        x.parts(2, 1, 360);
        Check.put(x, "r2 / 7 - r2 / 7");
        Check.arithmetic(x, "the parts on the way", () -> x.read(0));
        x.parts(4, 1, 7);
        Check.put(x, "r2 + r4 - r4");
        Check.arithmetic(x, "root 2520 on the way", () -> x.read(0));
        Check.index(x, "register", () -> x.read(-1));
    }

    private static void giveName() {
        Doc.quote(10, "Gives the interval of a register a name, in place of the one that it has.", "Returns the name that it had; NONE without one.");
        Tuninghouse x = fifthIn0();
        Check.due("first", x.giveName(0, 99), -1);
        Check.due("again", x.giveName(0, 0), 99);
        x.fraction(1, 6, 4);
        Check.due("the same interval", x.giveName(1, 5), 0);
        Check.due("named", x.nameOf(0), 5);
        x.fraction(1, 3, 1);
        Check.due("another one", x.giveName(1, 5), -1);
        Check.due("two", x.namesBelow(1), 1);
        for (int bad : new int[] {-1, 100, LOW, HIGH}) {
            Check.argument(x, "name " + bad, () -> x.giveName(0, bad));
            Check.index(x, "register first", () -> x.giveName(8, bad));
        }
        Check.index(x, "register", () -> x.giveName(-1, 0));
    }

    private static void row() {
        Doc.quote(11, "Makes a scale the row of an interval: k times the interval, octaves taken off, for all k from a number on.", "Returns how many tones it has.");
        Tuninghouse x = fifthIn0();
        Check.due("major", x.row(0, 0, -1, 7), 7);
        Check.due("major", Check.sizes(x, 0), "0 204 408 498 702 906 1110");
        Check.due("gaps", Check.gaps(x, 0), "204 204 90 204 204 204 90");
        x.parts(1, 1, 5);
        Check.due("five parts", x.row(1, 1, -50, 40), 5);
        Check.due("five parts", Check.sizes(x, 1), "0 240 480 720 960");
        Check.due("one", x.row(2, 0, 50, 1), 1);
        Check.due("50 fifths", Check.sizes(x, 2), "298");
        Check.due("forty", x.row(3, 0, 0, 40), 40);
        Doc.quote(11, "Throws `ArithmeticException` see section 1");
        Make.put(x, 2, 0, 100, -69);
        Check.due("5000 of 3", x.row(0, 2, 50, 1) + " " + x.row(0, 2, -50, 40), "1 40");
        Make.put(x, 2, 0, 102, -70);
        Check.due("4998 of 3", x.row(0, 2, 49, 1), 1);
        Check.arithmetic(x, "the last one 5100 of 3", () -> x.row(0, 2, 11, 40));
        Check.arithmetic(x, "the first one -5100 of 3", () -> x.row(0, 2, -50, 40));
        x.fraction(2, 3, 1);
        x.times(2, 100, 1);
        Check.arithmetic(x, "300 times 51", () -> x.row(0, 2, 50, 2));
        Check.arithmetic(x, "the last one", () -> x.row(0, 2, 12, 21));
        Check.due("3 to the power of 3000", x.row(0, 2, 30, 1), 1);
        for (int bad : new int[] {-51, 51, LOW, HIGH}) {
            Check.argument(x, "from " + bad, () -> x.row(0, 0, bad, 1));
        }
        for (int bad : new int[] {0, 41, LOW, HIGH}) {
            Check.argument(x, "many " + bad, () -> x.row(0, 0, 0, bad));
            Check.index(x, "scale first", () -> x.row(4, 0, 0, bad));
            Check.index(x, "register first", () -> x.row(0, 8, 0, bad));
        }
        Check.index(x, "scale", () -> x.row(-1, 0, 0, 1));
        Check.index(x, "register", () -> x.row(0, -1, 0, 1));
    }

    private static void tone() {
        Doc.quote(12, "Puts the interval of a register, octaves taken off, into a scale, or takes it out.", "- `isIn`: whether it is in the scale then", "Returns whether it was.");
        Tuninghouse x = fifthIn0();
        Check.due("in", x.tone(0, 0, true), false);
        Check.due("in", Check.sizes(x, 0), "0 702");
        x.fraction(1, 3, 1);
        Check.due("an octave more", x.tone(0, 1, true), true);
        x.fraction(2, 5, 4);
        Check.due("between", x.tone(0, 2, true), false);
        Check.due("between", Check.sizes(x, 0), "0 386 702");
        Check.due("out", x.tone(0, 0, false), true);
        Check.due("out", Check.sizes(x, 0), "0 386");
        Check.due("not in", x.tone(0, 0, false), false);
        Check.due("unison out", x.tone(0, 7, false), true);
        Check.due("unison out", Check.sizes(x, 0), "386");
        Check.state(x, "the last one", () -> x.tone(0, 2, false));
        Check.due("none of it", x.tone(0, 7, false), false);
        Doc.quote(12, "Throws `ArithmeticException` see section 1");
        Make.put(x, 1, 0, 3155);
        Check.due("5000 octaves off", x.tone(0, 1, true), false);
        Make.put(x, 1, 0, 0, 2154);
        Check.arithmetic(x, "5001 octaves off", () -> x.tone(0, 1, true));
        Check.due("it is not in", x.tone(0, 1, false), false);
        Check.index(x, "scale", () -> x.tone(4, 0, true));
        Check.index(x, "scale", () -> x.tone(-1, 0, true));
        Check.index(x, "register", () -> x.tone(0, 8, true));
    }

    private static void toneFull() {
        Doc.quote(12, "Throws `IllegalStateException` if the scale would have no tone, or more than 40");
        Tuninghouse x = fifthIn0();
        Check.state(x, "no tone", () -> x.tone(1, 7, false));
        Check.due("it stays", x.tone(1, 7, true) + " " + x.tones(1), "true 1");
        x.tone(1, 0, true);
        Check.due("one of two", x.tone(1, 7, false) + " " + x.tones(1), "true 1");
        Check.state(x, "the other one", () -> x.tone(1, 0, false));
        Check.due("what is not in", x.tone(1, 7, false), false);
        x.row(0, 0, 1, 40);
        Check.due("out of 40 what is not in", x.tone(0, 7, false) + " " + x.tones(0), "false 40");
        Check.state(x, "the 41st", () -> x.tone(0, 7, true));
        x.fraction(1, 3, 1);
        x.times(1, 100, 1);
        x.times(1, 50, 1);
        Check.state(x, "the 41st, and not to be kept", () -> x.tone(0, 1, true));
        Check.due("one of the 40", x.tone(0, 0, true), true);
        x.key(0, 0, 2);
        Check.due("the lowest of the 40", x.tone(0, 2, true), true);
        Check.due("out", x.tone(0, 0, false), true);
        Check.due("the 40th", x.tone(0, 7, true), false);
        Check.due("40", x.tones(0), 40);
    }

    private static void mode() {
        Doc.quote(13, "Makes a scale its mode from a step on.", "Returns how many tones it has.");
        Tuninghouse x = fifthIn0();
        x.row(0, 0, -1, 7);
        Check.due("from the fifth on", x.mode(0, 4), 7);
        Check.due("mixolydian", Check.sizes(x, 0), "0 204 408 498 702 906 996");
        Check.due("from 0", x.mode(0, 0), 7);
        Check.due("the same", Check.sizes(x, 0), "0 204 408 498 702 906 996");
        x.row(1, 0, 1, 2);
        Check.due("without unison", Check.sizes(x, 1), "204 702");
        Check.due("from 0", x.mode(1, 0), 2);
        Check.due("from 0", Check.sizes(x, 1), "0 498");
        Doc.quote(13, "Throws `ArithmeticException` see section 1");
        x.parts(1, 1, 40);
        x.parts(2, 1, 9);
        x.tone(2, 1, true);
        x.tone(2, 2, true);
        Check.due("root 360", x.mode(2, 1) + " " + x.tones(2), "3 3");
        x.parts(1, 1, 4);
        x.parts(2, 1, 91);
        x.row(2, 1, 0, 2);
        x.tone(2, 2, true);
        Check.arithmetic(x, "root 364", () -> x.mode(2, 1));
        Check.arithmetic(x, "root 364", () -> x.mode(2, 2));
        Check.due("but from 0", x.mode(2, 0), 3);
        Make.put(x, 1, 0, 2500, -1707);
        Make.put(x, 2, 0, -2500, 1707);
        Make.onlyTone(x, 2, 1);
        x.tone(2, 2, true);
        Check.due("5000 of 3", x.mode(2, 0) + " " + x.key(2, 1, 3) + " " + Math.abs(x.exponent(3, 1)), "2 1 5000");
        Make.put(x, 1, 0, 2501, -1707);
        Make.onlyTone(x, 2, 1);
        x.tone(2, 2, true);
        Check.arithmetic(x, "5001 of 3", () -> x.mode(2, 0));
        Check.arithmetic(x, "-5001 of 3", () -> x.mode(2, 1));
        Doc.quote(13, "- `step`: a step");
        for (int bad : new int[] {-1, 7, LOW, HIGH}) {
            Check.index(x, "step " + bad, () -> x.mode(0, bad));
        }
        Check.due("the last step", x.mode(0, 6), 7);
        Check.index(x, "step 1 of one", () -> x.mode(3, 1));
        Check.index(x, "scale", () -> x.mode(4, 0));
    }

    private static void block() {
        Doc.quote(14, "Makes a scale the tones of the block of two commas.", "Returns the determinant.");
        Tuninghouse x = fifthIn0();
        x.fraction(1, 81, 80);
        x.fraction(2, 128, 125);
        x.fraction(3, 25, 24);
        Check.due("12", x.block(0, 1, 2), -12);
        Check.due("12", x.tones(0), 12);
        Check.due("7", x.block(1, 1, 3), 7);
        Check.due("7", Check.sizes(x, 1), "0 204 386 590 702 906 1088");
        Check.due("turned", x.block(1, 3, 1), -7);
        Check.due("turned", Check.sizes(x, 1), "0 204 386 590 702 906 1088");
        Doc.quote(14, "Throws `ArithmeticException` if a comma is none (section 7), or the determinant is 0, or above 40 in amount, or see section 1");
        Check.arithmetic(x, "twice the same", () -> x.block(0, 1, 1));
        Check.arithmetic(x, "unison", () -> x.block(0, 1, 7));
        x.fraction(4, 7, 4);
        Check.arithmetic(x, "7", () -> x.block(0, 1, 4));
        x.parts(4, 1, 2);
        Check.arithmetic(x, "a root", () -> x.block(0, 4, 1));
        x.fraction(4, 3, 1);
        x.fraction(5, 5, 1);
        Check.due("1", x.block(0, 4, 5), 1);
        x.times(5, 40, 1);
        Check.due("40", x.block(0, 4, 5), 40);
        Check.due("40", x.tones(0), 40);
        x.times(4, -1, 1);
        Check.due("-40", x.block(0, 4, 5), -40);
        x.fraction(4, 3, 1);
        x.times(4, 41, 1);
        x.fraction(5, 5, 1);
        Check.arithmetic(x, "41", () -> x.block(0, 4, 5));
        x.times(4, -1, 1);
        Check.arithmetic(x, "-41", () -> x.block(0, 4, 5));
        x.fraction(5, 3, 1);
        x.times(5, 100, 1);
        x.times(5, 30, 1);
        x.fraction(6, 5, 1);
        x.sum(5, 5, 6, false);
        x.fraction(4, 3, 1);
        x.sum(4, 5, 4, false);
        Check.due("1, but far out", x.block(2, 5, 4) + " " + x.tones(2), "-1 1");
        Check.index(x, "scale", () -> x.block(4, 1, 2));
        Check.index(x, "first", () -> x.block(0, 8, 2));
        Check.index(x, "second", () -> x.block(0, 1, -1));
        farBlock();
    }

    /** Two commas with the determinant 2, one of whose points lies beyond what can be kept. */
    private static void farBlock() {
        Tuninghouse x = new Tuninghouse();
        Make.put(x, 1, 0, 3154, 1);
        Make.put(x, 2, 0, 3152, 1);
        Check.due("4999 octaves off", x.block(0, 1, 2) + " " + x.tones(0), "2 2");
        Make.put(x, 1, 0, 3155, 1);
        Make.put(x, 2, 0, 3153, 1);
        Check.arithmetic(x, "5001 octaves off", () -> x.block(0, 1, 2));
    }

    private static void key() {
        Doc.quote(15, "Puts a key of a scale into a register.", "Returns the step of the key.");
        Tuninghouse x = fifthIn0();
        x.row(0, 0, -1, 7);
        Check.due("key 4", x.key(0, 4, 1), 4);
        Check.due("a fifth", Check.interval(x, 1), "-1 1 0 0 0 0/1");
        Check.due("key 7", x.key(0, 7, 1), 0);
        Check.due("an octave", Check.interval(x, 1), "1 0 0 0 0 0/1");
        Check.due("key -1", x.key(0, -1, 1), 6);
        Check.due("a semitone down", Check.interval(x, 1), "-8 5 0 0 0 0/1");
        Check.due("key 200", x.key(0, 200, 1), 4);
        Check.due("key 200", x.cents(1, 0, 2), 28 * 1200 + 702);
        Check.due("key -200", x.key(0, -200, 1), 3);
        Check.due("key -200", x.cents(1, 0, 2), -29 * 1200 + 498);
        Check.due("key -7", x.key(0, -7, 1), 0);
        Check.due("key -7", Check.interval(x, 1), "-1 0 0 0 0 0/1");
        x.parts(2, 1, 360);
        x.tone(1, 2, true);
        x.tone(1, 7, false);
        Check.due("13 octaves", x.key(1, 13, 3), 0);
        Check.due("13 octaves", x.exponent(3, 0), 4681);
        Doc.quote(15, "Throws `ArithmeticException` see section 1");
        Check.arithmetic(x, "14 octaves", () -> x.key(1, 14, 3));
        // The tone, its parts, the key; whether it can be kept.
        int[][] far = {{5, 27, 185, 5000}, {22, 27, -186, -5000}, {17, 28, 178, 0}, {11, 28, -179, 0}};
        for (int[] f : far) {
            x.parts(2, f[0], f[1]);
            Make.onlyTone(x, 2, 2);
            if (f[3] == 0) {
                Check.arithmetic(x, "5001 in amount", () -> x.key(2, f[2], 3));
            } else {
                Check.due("5000 in amount", x.key(2, f[2], 3) + " " + x.exponent(3, 0), "0 " + f[3]);
            }
        }
        for (int bad : new int[] {-201, 201, LOW, HIGH}) {
            Check.argument(x, "key " + bad, () -> x.key(0, bad, 1));
            Check.index(x, "scale first", () -> x.key(4, bad, 1));
            Check.index(x, "into first", () -> x.key(0, bad, 8));
        }
        Check.index(x, "scale", () -> x.key(-1, 0, 1));
    }

    private static void temper() {
        Doc.quote(16, "Sets the number of parts of the comma by which a fifth is less than 3 / 2.", "Returns what it was.");
        Tuninghouse x = new Tuninghouse();
        Check.due("fifth 0", x.temper(0, 6), 0);
        Check.due("fifth 0", x.temper(0, -24), 6);
        Check.due("fifth 0", x.temper(0, 24), -24);
        Check.due("fifth 11", x.temper(11, 2), 0);
        Check.due("fifth 0 stays", x.temper(0, 1), 24);
        Check.due("impurity of 0, 9, 8", x.impurity(0, 3) + " " + x.impurity(9, 3) + " " + x.impurity(8, 3), "20529 18574 19551");
        for (int bad : new int[] {-25, 25, LOW, HIGH}) {
            Check.argument(x, "parts " + bad, () -> x.temper(0, bad));
            Check.index(x, "fifth first", () -> x.temper(12, bad));
        }
        Check.index(x, "fifth -1", () -> x.temper(-1, 0));
    }

    private static void move() {
        Doc.quote(17, "Lets the tune go on by the interval of a register, up or down.", "- `isDown`: whether it goes down", "Returns how many moves the tune has then.");
        Tuninghouse x = fifthIn0();
        x.fraction(1, 4, 3);
        Check.due("up", x.move(0, false), 1);
        Check.due("down", x.move(1, true), 2);
        x.drift(2, 2);
        Check.due("9 / 8", Check.interval(x, 2), "-3 2 0 0 0 0/1");
        Doc.quote(17, "Throws `ArithmeticException` if where it is then could not be kept (section 1)");
        x.parts(3, 1, 360);
        x.parts(4, 1, 7);
        x.move(3, false);
        Check.arithmetic(x, "root 2520", () -> x.move(4, true));
        Check.due("back", x.move(3, true), 4);
        octaves(x, 5, 5000);
        Check.due("4997 octaves up", x.move(5, false), 5);
        x.fraction(6, 16, 1);
        Check.arithmetic(x, "5001 octaves up", () -> x.move(6, false));
        x.fraction(6, 8, 1);
        Check.due("5000 octaves up", x.move(6, false), 6);
        x.fraction(6, 2, 1);
        Check.arithmetic(x, "5001 octaves up", () -> x.move(6, false));
        Check.due("down again", x.move(5, true) + " " + x.move(5, true), "7 8");
        Check.arithmetic(x, "5001 octaves down", () -> x.move(6, true));
        x.drift(8, 2);
        Check.due("5000 octaves down", Check.interval(x, 2), "-5000 2 0 0 0 0/1");
        Check.due("up again", x.move(5, false), 9);
        for (int i = 10; i <= 60; i++) {
            Check.due("move " + i, x.move(1, i % 2 == 0), i);
        }
        Doc.quote(17, "Throws `IllegalStateException` if it has 60 moves");
        Check.state(x, "move 61", () -> x.move(0, false));
        Check.state(x, "move 61, back", () -> x.move(0, true));
        Check.state(x, "move 61, and not to be kept", () -> x.move(5, true));
        Check.index(x, "register first", () -> x.move(8, false));
        Check.index(x, "register", () -> x.move(-1, false));
    }

    private static void drift() {
        Doc.quote(18, "Puts where the tune is behind some of its moves (the sum of these) into a register.", "Returns how many octaves were to be taken away from it to leave a size that is at least -1/2 and less than 1/2 (the register has it with them).");
        Tuninghouse x = fifthIn0();
        for (int i = 0; i < 12; i++) {
            x.move(0, false);
        }
        Check.due("12 fifths", x.drift(12, 1), 7);
        Check.due("with its octaves", Check.interval(x, 1), "-12 12 0 0 0 0/1");
        Check.due("1 fifth", x.drift(1, 1), 1);
        Check.due("1 fifth", Check.interval(x, 1), "-1 1 0 0 0 0/1");
        Check.due("none", x.drift(0, 1), 0);
        Check.due("none", Check.interval(x, 1), "0 0 0 0 0 0/1");
        x.endTune();
        x.parts(2, 1, 2);
        x.move(2, false);
        x.move(2, true);
        x.move(2, true);
        Check.due("a half", x.drift(1, 1), 1);
        Check.due("less half", x.drift(3, 1), 0);
        Doc.quote(18, "- `many`: 0 to 60, at most as many as it has");
        for (int bad : new int[] {-1, 4, 60, 61, LOW, HIGH}) {
            Check.argument(x, "many " + bad, () -> x.drift(bad, 1));
            Check.argument(x, "many first", () -> x.drift(bad, 8));
        }
        Check.index(x, "into", () -> x.drift(3, 8));
        Check.index(x, "into", () -> x.drift(0, -1));
    }

    private static void endTune() {
        Doc.quote(19, "Empties the tune.", "Returns how many moves it had.");
        Tuninghouse x = fifthIn0();
        Check.due("empty", x.endTune(), 0);
        x.move(0, false);
        x.move(0, false);
        Check.due("two", x.endTune(), 2);
        Check.due("empty", x.moves(), 0);
        Check.argument(x, "nothing to drift", () -> x.drift(1, 0));
        Check.due("a new one", x.move(0, true), 1);
        x.drift(1, 1);
        Check.due("from the start", Check.interval(x, 1), "1 -1 0 0 0 0/1");
    }

    private static void undo() {
        Doc.quote(20, "Undoes the latest change that was not undone.", "Returns how many changes can still be undone.");
        Tuninghouse x = new Tuninghouse();
        x.parts(0, 1, 1);
        x.parts(0, 2, 1);
        Check.due("the latest", x.undo() + " " + x.exponent(0, 0), "1 1");
        Check.due("the one ahead of it", x.undo() + " " + x.exponent(0, 0), "0 0");
        Doc.quote(20, "Throws `IllegalStateException` if there is none");
        Check.state(x, "nothing", () -> x.undo());
        for (int i = 1; i <= 10; i++) {
            x.parts(0, i, 1);
        }
        Check.argument(x, "no change", () -> x.parts(0, 1001, 1));
        for (int i = 7; i >= 0; i--) {
            Check.due("undo", x.undo(), i);
            Check.due("then", x.exponent(0, 0), i + 2);
        }
        Check.state(x, "only eight", () -> x.undo());
        x.parts(0, 5, 1);
        Check.due("one again", x.undo(), 0);
        Check.due("as ahead of it", x.exponent(0, 0), 2);
        x.parts(0, 2, 1);
        x.parts(0, 2, 1);
        Check.due("the same is a change", x.undo(), 1);
        x.parts(1, 7, 1);
        Check.due("behind an undo", x.undo(), 1);
        Check.due("the first", x.undo(), 0);
    }

    /** Each change is brought back whole; the text and the told numbers are not. */
    private static void undoOfEach() {
        Tuninghouse x = fifthIn0();
        x.fraction(1, 81, 80);
        x.fraction(2, 25, 24);
        x.row(0, 0, 0, 5);
        x.giveName(0, 1);
        x.move(0, false);
        Check.put(x, "third");
        x.tell(0);
        Check.Call[] changes = {
            () -> x.fraction(3, 5, 4), () -> x.parts(3, 1, 5), () -> x.sum(3, 0, 1, false), () -> x.times(0, 2, 3), () -> x.octavesOff(0),
            () -> x.miss(0, 5, 3), () -> x.deviation(12, 0, 3), () -> x.read(3), () -> x.giveName(0, 2), () -> x.giveName(1, 2),
            () -> x.row(1, 0, 0, 3), () -> x.tone(0, 1, true), () -> x.tone(0, 0, false), () -> x.mode(0, 2), () -> x.block(2, 1, 2),
            () -> x.key(0, 3, 5), () -> x.temper(3, 4), () -> x.move(1, true), () -> x.drift(1, 6), () -> x.endTune(), () -> x.tone(0, 0, true),
        };
        for (int i = 0; i < changes.length; i++) {
            String before = Check.all(x);
            changes[i].make();
            int left = x.undo();
            Check.due("undo of change " + i, Check.all(x), before);
            Check.due("left", left, 6);
        }
        x.temper(0, 1);
        x.clearText();
        x.tell(1);
        x.undo();
        Check.due("the text is not brought back", x.type(0), 0);
        Check.due("nor the told numbers", x.toldAt(0, 2), 81);
    }
}
