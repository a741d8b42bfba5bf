/** Promises 1 to 20: a new object, and all changes. */
public final class ChangesTest {
    private static final int LOW = Integer.MIN_VALUE;
    private static final int HIGH = Integer.MAX_VALUE;

    public static void main(String[] args) {
        newObject();
        fraction();
        parts();
        sum();
        times();
        octavesOff();
        miss();
        deviation();
        read();
        giveName();
        row();
        tone();
        toneFull();
        mode();
        block();
        key();
        temper();
        move();
        drift();
        endTune();
        undo();
        undoOfEach();
        Check.end(1, 20);
    }

    private static Tuninghouse fifthIn0() {
        Tuninghouse x = new Tuninghouse();
        x.fraction(0, 3, 2);
        return x;
    }

    /** 2 to the power of many in a register, whatever many is. */
    private static void octaves(Tuninghouse x, int register, int many) {
        x.fraction(register, 1, 1);
        for (int rest = Math.abs(many); rest > 0; rest -= 1000) {
            x.parts(7, Math.min(rest, 1000) * (many < 0 ? -1 : 1), 1);
            x.sum(register, register, 7, false);
        }
    }

    private static void newObject() {
        Check.begin(1);
        Tuninghouse x = new Tuninghouse();
        for (int r = 0; r < 8; r++) {
            Check.due("register " + r, Check.interval(x, r), "0 0 0 0 0 0/1");
            Check.due("its name", x.nameOf(r), -1);
        }
        for (int s = 0; s < 4; s++) {
            Check.due("scale " + s, Check.sizes(x, s), "0");
            Check.due("its gap", Check.gaps(x, s), "1200");
        }
        Check.due("names", x.namesBelow(0), 0);
        for (int k = 0; k < 12; k++) {
            Check.due("temper " + k, x.impurity(k, 3), 21506);
        }
        Check.due("closes", x.closes(), false);
        Check.due("moves", x.moves(), 0);
        Check.due("told", x.told(), 0);
        Check.due("text", x.type(0), 0);
        Check.due("errorPlace", x.errorPlace(), 0);
        Check.state(x, "undo", () -> x.undo());
        Check.due("NONE", Tuninghouse.NONE, -1);
        Check.due("ways", Tuninghouse.DOWN + " " + Tuninghouse.UP + " " + Tuninghouse.NEAREST, "0 1 2");
    }

    private static void fraction() {
        Check.begin(2);
        Tuninghouse x = new Tuninghouse();
        Check.due("3 / 2", x.fraction(0, 3, 2), true);
        Check.due("3 / 2", Check.interval(x, 0), "-1 1 0 0 0 0/1");
        Check.due("2 / 3", x.fraction(1, 2, 3), false);
        Check.due("2 / 3", Check.interval(x, 1), "1 -1 0 0 0 0/1");
        Check.due("7 / 7", x.fraction(2, 7, 7), false);
        Check.due("7 / 7", Check.interval(x, 2), "0 0 0 0 0 0/1");
        Check.due("1000000 / 1", x.fraction(7, 1000000, 1), true);
        Check.due("1000000 / 1", Check.interval(x, 7), "6 0 6 0 0 0/1");
        Check.due("1001 / 1000000", x.fraction(3, 1001, 1000000), false);
        Check.due("1001 / 1000000", Check.interval(x, 3), "-6 0 -6 1 1 1/1");
        Check.due("34 / 17", x.fraction(4, 34, 17), true);
        Check.due("34 / 17", Check.interval(x, 4), "1 0 0 0 0 0/1");
        Check.arithmetic(x, "17 / 2", () -> x.fraction(0, 17, 2));
        Check.arithmetic(x, "2 / 19", () -> x.fraction(0, 2, 19));
        Check.arithmetic(x, "999983 / 1", () -> x.fraction(0, 999983, 1));
        for (int bad : new int[] {0, -1, 1000001, LOW, HIGH}) {
            Check.argument(x, "over " + bad, () -> x.fraction(0, bad, 1));
            Check.argument(x, "under " + bad, () -> x.fraction(0, 1, bad));
            Check.argument(x, "both, 17", () -> x.fraction(0, 17, bad));
        }
        for (int bad : new int[] {-1, 8, LOW, HIGH}) {
            Check.index(x, "register " + bad, () -> x.fraction(bad, 3, 2));
            Check.index(x, "register first", () -> x.fraction(bad, 0, 17));
        }
    }

    private static void parts() {
        Check.begin(3);
        Tuninghouse x = new Tuninghouse();
        Check.due("7 of 12", x.parts(0, 7, 12), 12);
        Check.due("7 of 12", Check.interval(x, 0), "7 0 0 0 0 0/12");
        Check.due("6 of 12", x.parts(0, 6, 12), 2);
        Check.due("0 of 360", x.parts(0, 0, 360), 1);
        Check.due("1 of 360", x.parts(0, 1, 360), 360);
        Check.due("-1000 of 360", x.parts(0, -1000, 360), 9);
        Check.due("-1000 of 360", Check.interval(x, 0), "-25 0 0 0 0 0/9");
        Check.due("1000 of 1", x.parts(0, 1000, 1), 1);
        Check.due("1000 of 1", x.exponent(0, 0), 1000);
        for (int bad : new int[] {-1001, 1001, LOW, HIGH}) {
            Check.argument(x, "many " + bad, () -> x.parts(0, bad, 12));
        }
        for (int bad : new int[] {0, -1, 361, LOW, HIGH}) {
            Check.argument(x, "parts " + bad, () -> x.parts(0, 1, bad));
            Check.index(x, "register first", () -> x.parts(8, 1, bad));
        }
        Check.index(x, "register -1", () -> x.parts(-1, 1, 1));
    }

    private static void sum() {
        Check.begin(4);
        Tuninghouse x = fifthIn0();
        x.fraction(1, 5, 4);
        Check.due("3 / 2 and 5 / 4", x.sum(2, 0, 1, false), 1);
        Check.due("15 / 8", Check.interval(x, 2), "-3 1 1 0 0 0/1");
        Check.due("3 / 2 less 5 / 4", x.sum(2, 0, 1, true), 1);
        Check.due("6 / 5", Check.interval(x, 2), "1 1 -1 0 0 0/1");
        x.parts(3, 1, 4);
        x.parts(4, 1, 6);
        Check.due("1 of 4 and 1 of 6", x.sum(5, 3, 4, false), 12);
        Check.due("5 of 12", Check.interval(x, 5), "5 0 0 0 0 0/12");
        Check.due("1 of 4 less 1 of 4", x.sum(3, 3, 3, true), 1);
        Check.due("unison", Check.interval(x, 3), "0 0 0 0 0 0/1");
        x.parts(3, 1, 360);
        x.parts(4, 1, 7);
        Check.arithmetic(x, "root 2520", () -> x.sum(5, 3, 4, false));
        x.parts(4, 1, 72);
        Check.due("root 60 of 360 and 72", x.sum(5, 3, 4, false), 60);
        octaves(x, 5, 5000);
        x.fraction(6, 2, 1);
        Check.arithmetic(x, "5001 octaves", () -> x.sum(0, 5, 6, false));
        Check.due("4999 octaves", x.sum(0, 5, 6, true), 1);
        Check.due("4999 octaves", x.exponent(0, 0), 4999);
        Check.index(x, "into", () -> x.sum(8, 5, 6, false));
        Check.index(x, "first", () -> x.sum(0, -1, 6, false));
        Check.index(x, "second", () -> x.sum(0, 5, HIGH, false));
    }

    private static void times() {
        Check.begin(5);
        Tuninghouse x = fifthIn0();
        Check.due("4 times", x.times(0, 4, 1), 1);
        Check.due("81 / 16", Check.interval(x, 0), "-4 4 0 0 0 0/1");
        Check.due("divided by 24", x.times(0, 1, 24), 6);
        Check.due("divided by 24", Check.interval(x, 0), "-1 1 0 0 0 0/6");
        Check.due("-3 times", x.times(0, -3, 2), 4);
        Check.due("-3 times", Check.interval(x, 0), "1 -1 0 0 0 0/4");
        Check.due("0 times", x.times(0, 0, 7), 1);
        Check.due("0 times", Check.interval(x, 0), "0 0 0 0 0 0/1");
        x.fraction(0, 3, 1);
        x.times(0, 50, 1);
        Check.due("100 times", x.times(0, -100, 1), 1);
        Check.due("100 times", x.exponent(0, 1), -5000);
        Check.arithmetic(x, "15000", () -> x.times(0, 3, 2));
        Check.due("5000 times 3 / 3", x.times(0, 3, 3), 1);
        x.parts(1, 1, 360);
        Check.arithmetic(x, "root 720", () -> x.times(1, 1, 2));
        Check.due("root 180", x.times(1, 4, 2), 180);
        for (int bad : new int[] {-101, 101, LOW, HIGH}) {
            Check.argument(x, "times " + bad, () -> x.times(0, bad, 1));
        }
        for (int bad : new int[] {0, 25, LOW, HIGH}) {
            Check.argument(x, "parts " + bad, () -> x.times(0, 1, bad));
        }
        Check.index(x, "register", () -> x.times(8, 101, 0));
    }

    private static void octavesOff() {
        Check.begin(6);
        Tuninghouse x = fifthIn0();
        Check.due("a fifth", x.octavesOff(0), 0);
        x.fraction(0, 81, 16);
        Check.due("81 / 16", x.octavesOff(0), 2);
        Check.due("81 / 64", Check.interval(x, 0), "-6 4 0 0 0 0/1");
        x.fraction(0, 1, 3);
        Check.due("1 / 3", x.octavesOff(0), -2);
        Check.due("4 / 3", Check.interval(x, 0), "2 -1 0 0 0 0/1");
        x.fraction(0, 2, 1);
        Check.due("an octave", x.octavesOff(0), 1);
        Check.due("unison", Check.interval(x, 0), "0 0 0 0 0 0/1");
        x.parts(0, -1, 12);
        Check.due("-1 of 12", x.octavesOff(0), -1);
        Check.due("11 of 12", Check.interval(x, 0), "11 0 0 0 0 0/12");
        octaves(x, 0, -5000);
        Check.due("-5000 octaves", x.octavesOff(0), -5000);
        x.fraction(0, 3, 1);
        x.times(0, 100, 1);
        x.times(0, 50, 1);
        Check.arithmetic(x, "3 to the power of 5000", () -> x.octavesOff(0));
        Check.index(x, "register", () -> x.octavesOff(8));
        Check.index(x, "register", () -> x.octavesOff(-1));
    }

    private static void miss() {
        Check.begin(7);
        Tuninghouse x = fifthIn0();
        Check.due("12 fifths", x.miss(0, 12, 1), 7);
        Check.due("the comma", Check.interval(x, 1), "-19 12 0 0 0 0/1");
        Check.due("1 fifth", x.miss(0, 1, 2), 1);
        Check.due("a fourth down", Check.interval(x, 2), "-2 1 0 0 0 0/1");
        x.parts(3, 1, 2);
        Check.due("a half", x.miss(3, 1, 4), 1);
        Check.due("half down", Check.interval(x, 4), "-1 0 0 0 0 0/2");
        x.parts(3, -1, 2);
        Check.due("less half", x.miss(3, 1, 4), 0);
        Check.due("half down", Check.interval(x, 4), "-1 0 0 0 0 0/2");
        Check.due("400 into itself", x.miss(0, 400, 0), 234);
        Check.due("400 fifths", Check.interval(x, 0), "-634 400 0 0 0 0/1");
        Check.arithmetic(x, "160000 of 3", () -> x.miss(0, 13, 1));
        for (int bad : new int[] {0, -1, 401, LOW, HIGH}) {
            Check.argument(x, "many " + bad, () -> x.miss(0, bad, 1));
            Check.index(x, "register first", () -> x.miss(8, bad, 1));
            Check.index(x, "into first", () -> x.miss(0, bad, -1));
        }
    }

    private static void deviation() {
        Check.begin(8);
        Tuninghouse x = fifthIn0();
        Check.due("12 parts", x.deviation(12, 0, 1), 7);
        Check.due("12 parts", Check.interval(x, 1), "19 -12 0 0 0 0/12");
        Check.due("cents", x.cents(1, 3, 2), -1955);
        Check.due("5 parts", x.deviation(5, 0, 1), 3);
        Check.due("cents", x.cents(1, 3, 2), 18045);
        x.parts(2, 1, 48);
        Check.due("half of 24", x.deviation(24, 2, 3), 1);
        Check.due("up", Check.interval(x, 3), "1 0 0 0 0 0/48");
        x.parts(2, -1, 48);
        Check.due("less half of 24", x.deviation(24, 2, 3), 0);
        x.parts(2, 100, 359);
        Check.arithmetic(x, "root 2513", () -> x.deviation(7, 2, 3));
        x.fraction(4, 3, 1);
        x.times(4, 100, 1);
        x.times(4, 50, 1);
        Check.arithmetic(x, "3 to the power of 5000", () -> x.deviation(1, 4, 3));
        for (int bad : new int[] {0, 25, LOW, HIGH}) {
            Check.argument(x, "parts " + bad, () -> x.deviation(bad, 0, 1));
            Check.argument(x, "parts first", () -> x.deviation(bad, 8, 9));
        }
        Check.index(x, "register", () -> x.deviation(12, 8, 1));
        Check.index(x, "into", () -> x.deviation(12, 0, -1));
    }

    private static void read() {
        Check.begin(9);
        Tuninghouse x = fifthIn0();
        String[][] due = {
            {"octave", "1 0 0 0 0 0/1"}, {"fifth", "-1 1 0 0 0 0/1"}, {"third", "-2 0 1 0 0 0/1"}, {"comma", "-4 4 -1 0 0 0/1"},
            {"7:4", "-2 0 0 1 0 0/1"}, {"34:17", "1 0 0 0 0 0/1"}, {"-fifth", "1 -1 0 0 0 0/1"}, {" - 2 3:2 / 3 ", "2 -2 0 0 0 0/3"},
            {"12 fifth - 7 octave", "-19 12 0 0 0 0/1"}, {"fifth - comma / 4", "0 0 1 0 0 0/4"}, {"r0+r0", "-2 2 0 0 0 0/1"},
            {"0 fifth", "0 0 0 0 0 0/1"}, {"100octave-99 octave+3 3 : 1", "1 3 0 0 0 0/1"}, {"007 2:1", "7 0 0 0 0 0/1"}, {"8:9/24", "3 -2 0 0 0 0/24"},
        };
        for (String[] d : due) {
            Check.put(x, d[0]);
            Check.due(d[0], x.read(1), Integer.parseInt(d[1].substring(d[1].indexOf('/') + 1)));
            Check.due(d[0], Check.interval(x, 1), d[1]);
            Check.due("the text stays", x.clearText(), d[0].length());
        }
        x.clearText();
        Check.argument(x, "no text", () -> x.read(0));
        Check.put(x, "17:2 +");
        Check.argument(x, "error ahead of the prime", () -> x.read(0));
        Check.index(x, "register first", () -> x.read(8));
        Check.put(x, "17:2");
        Check.arithmetic(x, "prime 17", () -> x.read(0));
        x.fraction(2, 2, 1);
        x.times(2, 51, 1);
        Check.put(x, "100 r2 / 2");
        Check.arithmetic(x, "5100 on the way", () -> x.read(0));
        Check.put(x, "50 r2 / 2");
        Check.due("2550 on the way", x.read(3), 1);
        Check.put(x, "98 r2 + 2 r2 - r2");
        Check.arithmetic(x, "the sum on the way", () -> x.read(0));
        Check.put(x, "98 r2 - r2 + 2 r2");
        Check.arithmetic(x, "5049 at the end", () -> x.read(0));
        Check.put(x, "96 r2 - r2 + 2 r2");
        Check.due("4947", x.read(3), 1);
        Check.due("4947", x.exponent(3, 0), 4947);
        x.parts(2, 1, 360);
        Check.put(x, "r2 / 7 - r2 / 7");
        Check.arithmetic(x, "the parts on the way", () -> x.read(0));
        x.parts(4, 1, 7);
        Check.put(x, "r2 + r4 - r4");
        Check.arithmetic(x, "root 2520 on the way", () -> x.read(0));
        Check.index(x, "register", () -> x.read(-1));
    }

    private static void giveName() {
        Check.begin(10);
        Tuninghouse x = fifthIn0();
        Check.due("first", x.giveName(0, 99), -1);
        Check.due("again", x.giveName(0, 0), 99);
        x.fraction(1, 6, 4);
        Check.due("the same interval", x.giveName(1, 5), 0);
        Check.due("named", x.nameOf(0), 5);
        x.fraction(1, 3, 1);
        Check.due("another one", x.giveName(1, 5), -1);
        Check.due("two", x.namesBelow(1), 1);
        for (int bad : new int[] {-1, 100, LOW, HIGH}) {
            Check.argument(x, "name " + bad, () -> x.giveName(0, bad));
            Check.index(x, "register first", () -> x.giveName(8, bad));
        }
        Check.index(x, "register", () -> x.giveName(-1, 0));
    }

    private static void row() {
        Check.begin(11);
        Tuninghouse x = fifthIn0();
        Check.due("major", x.row(0, 0, -1, 7), 7);
        Check.due("major", Check.sizes(x, 0), "0 204 408 498 702 906 1110");
        Check.due("gaps", Check.gaps(x, 0), "204 204 90 204 204 204 90");
        x.parts(1, 1, 5);
        Check.due("five parts", x.row(1, 1, -50, 40), 5);
        Check.due("five parts", Check.sizes(x, 1), "0 240 480 720 960");
        Check.due("one", x.row(2, 0, 50, 1), 1);
        Check.due("50 fifths", Check.sizes(x, 2), "298");
        Check.due("forty", x.row(3, 0, 0, 40), 40);
        x.fraction(2, 3, 1);
        x.times(2, 100, 1);
        Check.arithmetic(x, "300 times 51", () -> x.row(0, 2, 50, 2));
        Check.arithmetic(x, "the last one", () -> x.row(0, 2, 12, 21));
        Check.due("3 to the power of 3000", x.row(0, 2, 30, 1), 1);
        for (int bad : new int[] {-51, 51, LOW, HIGH}) {
            Check.argument(x, "from " + bad, () -> x.row(0, 0, bad, 1));
        }
        for (int bad : new int[] {0, 41, LOW, HIGH}) {
            Check.argument(x, "many " + bad, () -> x.row(0, 0, 0, bad));
            Check.index(x, "scale first", () -> x.row(4, 0, 0, bad));
            Check.index(x, "register first", () -> x.row(0, 8, 0, bad));
        }
        Check.index(x, "scale", () -> x.row(-1, 0, 0, 1));
        Check.index(x, "register", () -> x.row(0, -1, 0, 1));
    }

    private static void tone() {
        Check.begin(12);
        Tuninghouse x = fifthIn0();
        Check.due("in", x.tone(0, 0, true), false);
        Check.due("in", Check.sizes(x, 0), "0 702");
        x.fraction(1, 3, 1);
        Check.due("an octave more", x.tone(0, 1, true), true);
        x.fraction(2, 5, 4);
        Check.due("between", x.tone(0, 2, true), false);
        Check.due("between", Check.sizes(x, 0), "0 386 702");
        Check.due("out", x.tone(0, 0, false), true);
        Check.due("out", Check.sizes(x, 0), "0 386");
        Check.due("not in", x.tone(0, 0, false), false);
        Check.due("unison out", x.tone(0, 7, false), true);
        Check.due("unison out", Check.sizes(x, 0), "386");
        Check.state(x, "the last one", () -> x.tone(0, 2, false));
        Check.due("none of it", x.tone(0, 7, false), false);
        x.times(1, 100, 1);
        x.times(1, 50, 1);
        Check.arithmetic(x, "3 to the power of 5000", () -> x.tone(0, 1, true));
        Check.due("it is not in", x.tone(0, 1, false), false);
        Check.index(x, "scale", () -> x.tone(4, 0, true));
        Check.index(x, "scale", () -> x.tone(-1, 0, true));
        Check.index(x, "register", () -> x.tone(0, 8, true));
    }

    private static void toneFull() {
        Tuninghouse x = fifthIn0();
        x.row(0, 0, 1, 40);
        Check.state(x, "the 41st", () -> x.tone(0, 7, true));
        x.fraction(1, 3, 1);
        x.times(1, 100, 1);
        x.times(1, 50, 1);
        Check.state(x, "the 41st, and not to be kept", () -> x.tone(0, 1, true));
        Check.due("one of the 40", x.tone(0, 0, true), true);
        x.key(0, 0, 2);
        Check.due("the lowest of the 40", x.tone(0, 2, true), true);
        Check.due("out", x.tone(0, 0, false), true);
        Check.due("the 40th", x.tone(0, 7, true), false);
        Check.due("40", x.tones(0), 40);
    }

    private static void mode() {
        Check.begin(13);
        Tuninghouse x = fifthIn0();
        x.row(0, 0, -1, 7);
        Check.due("from the fifth on", x.mode(0, 4), 7);
        Check.due("mixolydian", Check.sizes(x, 0), "0 204 408 498 702 906 996");
        Check.due("from 0", x.mode(0, 0), 7);
        Check.due("the same", Check.sizes(x, 0), "0 204 408 498 702 906 996");
        x.row(1, 0, 1, 2);
        Check.due("without unison", Check.sizes(x, 1), "204 702");
        Check.due("from 0", x.mode(1, 0), 2);
        Check.due("from 0", Check.sizes(x, 1), "0 498");
        x.parts(1, 1, 360);
        x.parts(2, 1, 7);
        x.tone(2, 1, true);
        x.tone(2, 2, true);
        Check.arithmetic(x, "root 2520", () -> x.mode(2, 1));
        for (int bad : new int[] {-1, 7, LOW, HIGH}) {
            Check.index(x, "step " + bad, () -> x.mode(0, bad));
        }
        Check.index(x, "scale", () -> x.mode(4, 0));
    }

    private static void block() {
        Check.begin(14);
        Tuninghouse x = fifthIn0();
        x.fraction(1, 81, 80);
        x.fraction(2, 128, 125);
        x.fraction(3, 25, 24);
        Check.due("12", x.block(0, 1, 2), -12);
        Check.due("12", x.tones(0), 12);
        Check.due("7", x.block(1, 1, 3), 7);
        Check.due("7", Check.sizes(x, 1), "0 204 386 590 702 906 1088");
        Check.due("turned", x.block(1, 3, 1), -7);
        Check.due("turned", Check.sizes(x, 1), "0 204 386 590 702 906 1088");
        Check.arithmetic(x, "twice the same", () -> x.block(0, 1, 1));
        Check.arithmetic(x, "unison", () -> x.block(0, 1, 7));
        x.fraction(4, 7, 4);
        Check.arithmetic(x, "7", () -> x.block(0, 1, 4));
        x.parts(4, 1, 2);
        Check.arithmetic(x, "a root", () -> x.block(0, 4, 1));
        x.fraction(4, 3, 1);
        x.fraction(5, 5, 1);
        Check.due("1", x.block(0, 4, 5), 1);
        x.times(5, 40, 1);
        Check.due("40", x.block(0, 4, 5), 40);
        Check.due("40", x.tones(0), 40);
        x.times(4, -1, 1);
        Check.due("-40", x.block(0, 4, 5), -40);
        x.times(4, 100, 1);
        x.times(5, 0, 1);
        x.fraction(6, 1, 5);
        Check.arithmetic(x, "100", () -> x.block(0, 4, 6));
        x.fraction(5, 3, 1);
        x.times(5, 100, 1);
        x.times(5, 30, 1);
        x.fraction(6, 5, 1);
        x.sum(5, 5, 6, false);
        x.fraction(4, 3, 1);
        x.sum(4, 5, 4, false);
        Check.due("1, but far out", x.block(2, 5, 4) + " " + x.tones(2), "-1 1");
        Check.index(x, "scale", () -> x.block(4, 1, 2));
        Check.index(x, "first", () -> x.block(0, 8, 2));
        Check.index(x, "second", () -> x.block(0, 1, -1));
        farBlock();
    }

    /** Two commas with the determinant 2, one of whose points lies beyond what can be kept. */
    private static void farBlock() {
        Tuninghouse x = new Tuninghouse();
        x.fraction(0, 3, 1);
        x.times(0, 100, 1);
        x.times(0, 49, 1);
        x.fraction(1, 5, 1);
        x.sum(1, 0, 1, false);
        x.fraction(2, 9, 1);
        x.sum(2, 1, 2, true);
        Check.arithmetic(x, "3 to the power of 4899", () -> x.block(0, 1, 2));
    }

    private static void key() {
        Check.begin(15);
        Tuninghouse x = fifthIn0();
        x.row(0, 0, -1, 7);
        Check.due("key 4", x.key(0, 4, 1), 4);
        Check.due("a fifth", Check.interval(x, 1), "-1 1 0 0 0 0/1");
        Check.due("key 7", x.key(0, 7, 1), 0);
        Check.due("an octave", Check.interval(x, 1), "1 0 0 0 0 0/1");
        Check.due("key -1", x.key(0, -1, 1), 6);
        Check.due("a semitone down", Check.interval(x, 1), "-8 5 0 0 0 0/1");
        Check.due("key 200", x.key(0, 200, 1), 4);
        Check.due("key 200", x.cents(1, 0, 2), 28 * 1200 + 702);
        Check.due("key -200", x.key(0, -200, 1), 3);
        Check.due("key -200", x.cents(1, 0, 2), -29 * 1200 + 498);
        Check.due("key -7", x.key(0, -7, 1), 0);
        Check.due("key -7", Check.interval(x, 1), "-1 0 0 0 0 0/1");
        x.parts(2, 1, 360);
        x.tone(1, 2, true);
        x.tone(1, 7, false);
        Check.due("13 octaves", x.key(1, 13, 3), 0);
        Check.due("13 octaves", x.exponent(3, 0), 4681);
        Check.arithmetic(x, "14 octaves", () -> x.key(1, 14, 3));
        for (int bad : new int[] {-201, 201, LOW, HIGH}) {
            Check.argument(x, "key " + bad, () -> x.key(0, bad, 1));
            Check.index(x, "scale first", () -> x.key(4, bad, 1));
            Check.index(x, "into first", () -> x.key(0, bad, 8));
        }
        Check.index(x, "scale", () -> x.key(-1, 0, 1));
    }

    private static void temper() {
        Check.begin(16);
        Tuninghouse x = new Tuninghouse();
        Check.due("fifth 0", x.temper(0, 6), 0);
        Check.due("fifth 0", x.temper(0, -24), 6);
        Check.due("fifth 0", x.temper(0, 24), -24);
        Check.due("fifth 11", x.temper(11, 2), 0);
        Check.due("fifth 0 stays", x.temper(0, 1), 24);
        Check.due("impurity of 0, 9, 8", x.impurity(0, 3) + " " + x.impurity(9, 3) + " " + x.impurity(8, 3), "20529 18574 19551");
        for (int bad : new int[] {-25, 25, LOW, HIGH}) {
            Check.argument(x, "parts " + bad, () -> x.temper(0, bad));
            Check.index(x, "fifth first", () -> x.temper(12, bad));
        }
        Check.index(x, "fifth -1", () -> x.temper(-1, 0));
    }

    private static void move() {
        Check.begin(17);
        Tuninghouse x = fifthIn0();
        x.fraction(1, 4, 3);
        Check.due("up", x.move(0, false), 1);
        Check.due("down", x.move(1, true), 2);
        x.drift(2, 2);
        Check.due("9 / 8", Check.interval(x, 2), "-3 2 0 0 0 0/1");
        x.parts(3, 1, 360);
        x.parts(4, 1, 7);
        x.move(3, false);
        Check.arithmetic(x, "root 2520", () -> x.move(4, true));
        for (int i = 4; i <= 60; i++) {
            Check.due("move " + i, x.move(1, i % 2 == 0), i);
        }
        Check.state(x, "move 61", () -> x.move(0, false));
        Check.state(x, "move 61, and not to be kept", () -> x.move(4, false));
        Check.index(x, "register first", () -> x.move(8, false));
        Check.index(x, "register", () -> x.move(-1, false));
    }

    private static void drift() {
        Check.begin(18);
        Tuninghouse x = fifthIn0();
        for (int i = 0; i < 12; i++) {
            x.move(0, false);
        }
        Check.due("12 fifths", x.drift(12, 1), 7);
        Check.due("with its octaves", Check.interval(x, 1), "-12 12 0 0 0 0/1");
        Check.due("1 fifth", x.drift(1, 1), 1);
        Check.due("1 fifth", Check.interval(x, 1), "-1 1 0 0 0 0/1");
        Check.due("none", x.drift(0, 1), 0);
        Check.due("none", Check.interval(x, 1), "0 0 0 0 0 0/1");
        x.endTune();
        x.parts(2, 1, 2);
        x.move(2, false);
        x.move(2, true);
        x.move(2, true);
        Check.due("a half", x.drift(1, 1), 1);
        Check.due("less half", x.drift(3, 1), 0);
        for (int bad : new int[] {-1, 4, 60, 61, LOW, HIGH}) {
            Check.argument(x, "many " + bad, () -> x.drift(bad, 1));
            Check.argument(x, "many first", () -> x.drift(bad, 8));
        }
        Check.index(x, "into", () -> x.drift(3, 8));
        Check.index(x, "into", () -> x.drift(0, -1));
    }

    private static void endTune() {
        Check.begin(19);
        Tuninghouse x = fifthIn0();
        Check.due("empty", x.endTune(), 0);
        x.move(0, false);
        x.move(0, false);
        Check.due("two", x.endTune(), 2);
        Check.due("empty", x.moves(), 0);
        Check.argument(x, "nothing to drift", () -> x.drift(1, 0));
        Check.due("a new one", x.move(0, true), 1);
        x.drift(1, 1);
        Check.due("from the start", Check.interval(x, 1), "1 -1 0 0 0 0/1");
    }

    private static void undo() {
        Check.begin(20);
        Tuninghouse x = new Tuninghouse();
        Check.state(x, "nothing", () -> x.undo());
        for (int i = 1; i <= 10; i++) {
            x.parts(0, i, 1);
        }
        Check.argument(x, "no change", () -> x.parts(0, 1001, 1));
        for (int i = 7; i >= 0; i--) {
            Check.due("undo", x.undo(), i);
            Check.due("then", x.exponent(0, 0), i + 2);
        }
        Check.state(x, "only eight", () -> x.undo());
        x.parts(0, 5, 1);
        Check.due("one again", x.undo(), 0);
        Check.due("as ahead of it", x.exponent(0, 0), 2);
        x.parts(0, 2, 1);
        x.parts(0, 2, 1);
        Check.due("the same is a change", x.undo(), 1);
        x.parts(1, 7, 1);
        Check.due("behind an undo", x.undo(), 1);
        Check.due("the first", x.undo(), 0);
    }

    /** Each change is brought back whole; the text and the told numbers are not. */
    private static void undoOfEach() {
        Tuninghouse x = fifthIn0();
        x.fraction(1, 81, 80);
        x.fraction(2, 25, 24);
        x.row(0, 0, 0, 5);
        x.giveName(0, 1);
        x.move(0, false);
        Check.put(x, "third");
        x.tell(0);
        Check.Call[] changes = {
            () -> x.fraction(3, 5, 4), () -> x.parts(3, 1, 5), () -> x.sum(3, 0, 1, false), () -> x.times(0, 2, 3), () -> x.octavesOff(0),
            () -> x.miss(0, 5, 3), () -> x.deviation(12, 0, 3), () -> x.read(3), () -> x.giveName(0, 2), () -> x.giveName(1, 2),
            () -> x.row(1, 0, 0, 3), () -> x.tone(0, 1, true), () -> x.tone(0, 0, false), () -> x.mode(0, 2), () -> x.block(2, 1, 2),
            () -> x.key(0, 3, 5), () -> x.temper(3, 4), () -> x.move(1, true), () -> x.drift(1, 6), () -> x.endTune(), () -> x.tone(0, 0, true),
        };
        for (int i = 0; i < changes.length; i++) {
            String before = Check.all(x);
            changes[i].make();
            int left = x.undo();
            Check.due("undo of change " + i, Check.all(x), before);
            Check.due("left", left, 6);
        }
        x.temper(0, 1);
        x.clearText();
        x.tell(1);
        x.undo();
        Check.due("the text is not brought back", x.type(0), 0);
        Check.due("nor the told numbers", x.toldAt(0, 2), 81);
    }
}
