import java.util.NoSuchElementException;

/** A house for tuning: intervals as products of powers of small primes, and what is made of them. */
public final class Tuninghouse {
    public static final int NONE = -1;
    public static final int DOWN = 0, UP = 1, NEAREST = 2;

    private static final int REGISTERS = 8;
    private static final int SCALES = 4;
    private static final int FIFTHS = 12;
    private static final int PRIMES = 6;
    private static final int TONES_MOST = 40;
    private static final int MOVES_MOST = 60;
    private static final int CHANGES_MOST = 8;
    private static final int TOLD = 2;
    private static final int TOLD_EXPONENT_MOST = 40;
    private static final int CHORD_EXPONENT_MOST = 100;
    private static final int CHORD_NUMBER_MOST = 2147483647;
    private static final int STRING_MOST = 1000000000;
    private static final int LEFT_BY = 1000003;
    private static final int COMMA_PARTS = 24;
    private static final int CENTS = 1200;
    private static final long TERM_MOST = 1000000000000000000L;
    private static final int[] PRIME = {2, 3, 5, 7, 11, 13};

    private final Sizes sizes;
    private final ContinuedFraction continued;
    private final PowerOfTwo power;
    private final Text text;
    private final Whole toldOver;
    private final Whole toldUnder;
    private final Whole spare;
    private final long[] form;
    private final long[] steps;
    private final State[] past;
    private int changes;
    private State state;
    private boolean isTold;

    public Tuninghouse() {
        sizes = new Sizes();
        continued = new ContinuedFraction();
        power = new PowerOfTwo();
        text = new Text();
        toldOver = new Whole();
        toldUnder = new Whole();
        spare = new Whole();
        form = new long[PRIMES];
        steps = new long[PRIMES];
        past = new State[CHANGES_MOST];
        state = State.first();
    }

    // ---- Changes: registers

    public boolean fraction(int register, int over, int under) throws IndexOutOfBoundsException, IllegalArgumentException, ArithmeticException {
        needIndex(register, REGISTERS);
        needRange(over, 1, 1000000);
        needRange(under, 1, 1000000);
        Interval made = Interval.ofFraction(over, under);
        needKept(made);
        change(state.withRegister(register, made));
        return over > under;
    }

    public int parts(int register, int many, int parts) throws IndexOutOfBoundsException, IllegalArgumentException {
        needIndex(register, REGISTERS);
        needRange(many, -1000, 1000);
        needRange(parts, 1, 360);
        Interval made = Interval.ofOctaves(many, parts);
        change(state.withRegister(register, made));
        return (int) made.root;
    }

    public int sum(int into, int first, int second, boolean isLess) throws IndexOutOfBoundsException, ArithmeticException {
        needIndex(into, REGISTERS);
        needIndex(first, REGISTERS);
        needIndex(second, REGISTERS);
        Interval made = state.register(first).joined(state.register(second), isLess);
        needKept(made);
        change(state.withRegister(into, made));
        return (int) made.root;
    }

    public int times(int register, int times, int parts) throws IndexOutOfBoundsException, IllegalArgumentException, ArithmeticException {
        needIndex(register, REGISTERS);
        needRange(times, -100, 100);
        needRange(parts, 1, 24);
        Interval made = state.register(register).stretched(times, parts, 0);
        needKept(made);
        change(state.withRegister(register, made));
        return (int) made.root;
    }

    public int octavesOff(int register) throws IndexOutOfBoundsException, ArithmeticException {
        needIndex(register, REGISTERS);
        Interval interval = state.register(register);
        long octaves = sizes.floor(interval, 1);
        Interval made = interval.stretched(1, 1, -octaves);
        needKept(made);
        change(state.withRegister(register, made));
        return (int) octaves;
    }

    public int miss(int register, int many, int into) throws IndexOutOfBoundsException, IllegalArgumentException, ArithmeticException {
        needIndex(register, REGISTERS);
        needIndex(into, REGISTERS);
        needRange(many, 1, 400);
        Interval interval = state.register(register);
        long octaves = sizes.rounded(interval, many);
        Interval made = interval.stretched(many, 1, -octaves);
        needKept(made);
        change(state.withRegister(into, made));
        return (int) octaves;
    }

    public int deviation(int parts, int register, int into) throws IllegalArgumentException, IndexOutOfBoundsException, ArithmeticException {
        needRange(parts, 1, 24);
        needIndex(register, REGISTERS);
        needIndex(into, REGISTERS);
        Interval interval = state.register(register);
        long number = sizes.rounded(interval, parts);
        Interval made = Interval.ofOctaves(number, parts).joined(interval, true);
        needKept(made);
        change(state.withRegister(into, made));
        return (int) number;
    }

    public int read(int register) throws IndexOutOfBoundsException, IllegalArgumentException, ArithmeticException {
        needIndex(register, REGISTERS);
        if (text.findError() != NONE) {
            throw new IllegalArgumentException("the text has an error");
        }
        Interval made = text.value(state);
        needKept(made);
        change(state.withRegister(register, made));
        return (int) made.root;
    }

    public int giveName(int register, int name) throws IndexOutOfBoundsException, IllegalArgumentException {
        needIndex(register, REGISTERS);
        needRange(name, 0, 99);
        Interval interval = state.register(register);
        int before = state.names.find(interval, sizes);
        change(state.withNames(state.names.with(interval, name, sizes)));
        return before;
    }

    // ---- Changes: scales

    public int row(int scale, int register, int from, int many) throws IndexOutOfBoundsException, IllegalArgumentException, ArithmeticException {
        needIndex(scale, SCALES);
        needIndex(register, REGISTERS);
        needRange(from, -50, 50);
        needRange(many, 1, TONES_MOST);
        Interval interval = state.register(register);
        Interval[] made = new Interval[TONES_MOST];
        int count = 0;
        for (int i = 0; i < many; i++) {
            Interval next = octavesTaken(interval, from + i);
            needKept(next);
            count = sizes.insert(made, count, next);
        }
        change(state.withScale(scale, Scale.of(made, count)));
        return count;
    }

    public boolean tone(int scale, int register, boolean isIn) throws IndexOutOfBoundsException, IllegalStateException, ArithmeticException {
        needIndex(scale, SCALES);
        needIndex(register, REGISTERS);
        Scale before = state.scale(scale);
        Interval wanted = octavesTaken(state.register(register), 1);
        int place = before.find(wanted, sizes);
        if (!isIn && place >= 0 && before.count() == 1) {
            throw new IllegalStateException("the scale would have no tone");
        }
        if (isIn && place < 0 && before.count() >= TONES_MOST) {
            throw new IllegalStateException("the scale would have too many tones");
        }
        if (isIn) {
            needKept(wanted);
        }
        change(state.withScale(scale, isIn ? before.with(wanted, sizes) : before.without(place)));
        return place >= 0;
    }

    public int mode(int scale, int step) throws IndexOutOfBoundsException, ArithmeticException {
        needIndex(scale, SCALES);
        Scale before = state.scale(scale);
        needIndex(step, before.count());
        Interval[] made = new Interval[before.count()];
        for (int i = 0; i < made.length; i++) {
            made[i] = before.above(step, i);
            needKept(made[i]);
        }
        change(state.withScale(scale, Scale.of(made, made.length)));
        return made.length;
    }

    public int block(int scale, int first, int second) throws IndexOutOfBoundsException, ArithmeticException {
        needIndex(scale, SCALES);
        needIndex(first, REGISTERS);
        needIndex(second, REGISTERS);
        Interval one = state.register(first);
        Interval two = state.register(second);
        if (!one.isComma() || !two.isComma()) {
            throw new ArithmeticException("a comma is none");
        }
        long determinant = one.exponent[1] * two.exponent[2] - two.exponent[1] * one.exponent[2];
        if (determinant == 0 || Math.abs(determinant) > TONES_MOST) {
            throw new ArithmeticException("the determinant does not do");
        }
        Interval[] made = new Interval[TONES_MOST];
        int count = 0;
        for (int i = 0; i < Math.abs(determinant); i++) {
            Interval next = blockTone(one, two, determinant, i);
            needKept(next);
            count = sizes.insert(made, count, next);
        }
        change(state.withScale(scale, Scale.of(made, count)));
        return (int) determinant;
    }

    public int key(int scale, int key, int into) throws IndexOutOfBoundsException, IllegalArgumentException, ArithmeticException {
        needIndex(scale, SCALES);
        needIndex(into, REGISTERS);
        needRange(key, -200, 200);
        Scale played = state.scale(scale);
        int count = Math.max(1, played.count());
        int step = Math.floorMod(key, count);
        Interval made = played.at(step).stretched(1, 1, Math.floorDiv(key, count));
        needKept(made);
        change(state.withRegister(into, made));
        return step;
    }

    // ---- Changes: well temperament, tune

    public int temper(int fifth, int parts) throws IndexOutOfBoundsException, IllegalArgumentException {
        needIndex(fifth, FIFTHS);
        needRange(parts, -COMMA_PARTS, COMMA_PARTS);
        int before = state.fifth(fifth);
        change(state.withFifth(fifth, parts));
        return before;
    }

    public int move(int register, boolean isDown) throws IndexOutOfBoundsException, IllegalStateException, ArithmeticException {
        needIndex(register, REGISTERS);
        int count = state.tune.length;
        if (count >= MOVES_MOST) {
            throw new IllegalStateException("the tune has all its moves");
        }
        Interval made = state.behind(count).joined(state.register(register), isDown);
        needKept(made);
        change(state.withMove(made));
        return count + 1;
    }

    public int drift(int many, int into) throws IllegalArgumentException, IndexOutOfBoundsException {
        needRange(many, 0, state.tune.length);
        needIndex(into, REGISTERS);
        Interval made = state.behind(many);
        change(state.withRegister(into, made));
        return (int) sizes.rounded(made, 1);
    }

    public int endTune() {
        int count = state.tune.length;
        change(state.withoutTune());
        return count;
    }

    public int undo() throws IllegalStateException {
        State before = changes > 0 && changes <= past.length ? past[changes - 1] : null;
        if (before == null) {
            throw new IllegalStateException("there is no change to undo");
        }
        changes--;
        state = before;
        return changes;
    }

    // ---- intervals

    public int exponent(int register, int prime) throws IndexOutOfBoundsException {
        needIndex(register, REGISTERS);
        needIndex(prime, PRIMES);
        return (int) state.register(register).exponent[prime];
    }

    public int root(int register) throws IndexOutOfBoundsException {
        needIndex(register, REGISTERS);
        return (int) state.register(register).root;
    }

    public int compare(int first, int second) throws IndexOutOfBoundsException {
        needIndex(first, REGISTERS);
        needIndex(second, REGISTERS);
        return sizes.order(state.register(first), state.register(second));
    }

    public long cents(int register, int digits, int way) throws IndexOutOfBoundsException, IllegalArgumentException {
        needIndex(register, REGISTERS);
        needRange(digits, 0, 9);
        needRange(way, DOWN, NEAREST);
        return centsOf(state.register(register), digits, way);
    }

    public boolean tell(int register) throws IndexOutOfBoundsException, ArithmeticException {
        needIndex(register, REGISTERS);
        Interval interval = state.register(register);
        needFraction(interval, TOLD_EXPONENT_MOST);
        putFraction(interval);
        isTold = true;
        return toldOver.order(toldUnder) > 0;
    }

    public int told() {
        return isTold ? TOLD : 0;
    }

    public int toldAt(int which, int what) throws IndexOutOfBoundsException, IllegalArgumentException {
        needIndex(which, isTold ? TOLD : 0);
        needRange(what, 0, 2);
        Whole number = which == 0 ? toldOver : toldUnder;
        if (what == 0) {
            return number.decimalDigits(spare);
        }
        return what == 1 ? number.binaryDigits() : number.leftBy(LEFT_BY);
    }

    public int nameOf(int register) throws IndexOutOfBoundsException {
        needIndex(register, REGISTERS);
        return state.names.find(state.register(register), sizes);
    }

    public int namesBelow(int register) throws IndexOutOfBoundsException {
        needIndex(register, REGISTERS);
        return state.names.below(state.register(register), sizes);
    }

    // ---- scales

    public int tones(int scale) throws IndexOutOfBoundsException {
        needIndex(scale, SCALES);
        return state.scale(scale).count();
    }

    public int stepOf(int scale, int register) throws IndexOutOfBoundsException {
        needIndex(scale, SCALES);
        needIndex(register, REGISTERS);
        return state.scale(scale).find(octavesTaken(state.register(register), 1), sizes);
    }

    public int sizeOf(int scale, int step, boolean isGap) throws IndexOutOfBoundsException {
        needIndex(scale, SCALES);
        Scale asked = state.scale(scale);
        needIndex(step, asked.count());
        return (int) sizes.rounded(isGap ? asked.gap(step) : asked.at(step), CENTS);
    }

    public int gapSorts(int scale) throws IndexOutOfBoundsException {
        needIndex(scale, SCALES);
        return greatest(state.scale(scale).sortRow(sizes)) + 1;
    }

    public int gapSort(int scale, int step) throws IndexOutOfBoundsException {
        needIndex(scale, SCALES);
        Scale asked = state.scale(scale);
        needIndex(step, asked.count());
        return asked.sortRow(sizes)[step];
    }

    public int symmetry(int scale) throws IndexOutOfBoundsException {
        needIndex(scale, SCALES);
        Scale asked = state.scale(scale);
        if (!asked.at(0).isUnison()) {
            return 0;
        }
        int[] sorts = asked.sortRow(sizes);
        int count = 0;
        for (int turn = 0; turn < sorts.length; turn++) {
            count += isTurnedAlike(sorts, turn) ? 1 : 0;
        }
        return count;
    }

    // ---- rows, convergents, equal parts

    public int nearest(int register, int index, int most) throws IndexOutOfBoundsException, IllegalArgumentException, NoSuchElementException {
        needIndex(register, REGISTERS);
        if (index < 0) {
            throw new IllegalArgumentException("the index is below 0");
        }
        needRange(most, 1, 2000);
        long number = nearestMiss(state.register(register), index, most);
        if (number == NONE) {
            throw new NoSuchElementException("there are not so many nearest misses");
        }
        return (int) number;
    }

    public long term(int register, int index) throws IndexOutOfBoundsException, IllegalArgumentException, ArithmeticException, NoSuchElementException {
        needIndex(register, REGISTERS);
        needRange(index, 0, 15);
        Interval interval = state.register(register);
        if (sizes.sign(interval.exponent) <= 0) {
            throw new ArithmeticException("the interval is not above the unison");
        }
        continued.start(interval, sizes);
        long found = 0;
        for (int i = 0; i <= index; i++) {
            if (continued.hasEnded()) {
                throw new NoSuchElementException("the continued fraction has ended");
            }
            found = continued.next();
        }
        if (found > TERM_MOST) {
            throw new ArithmeticException("the term is too great");
        }
        return found;
    }

    public int best(int parts, int register) throws IllegalArgumentException, IndexOutOfBoundsException {
        needRange(parts, 1, 10000);
        needIndex(register, REGISTERS);
        return (int) sizes.rounded(state.register(register), parts);
    }

    public int mapped(int parts, int register) throws IllegalArgumentException, IndexOutOfBoundsException, ArithmeticException {
        needRange(parts, 1, 1000);
        needIndex(register, REGISTERS);
        Interval interval = state.register(register);
        if (interval.root > 1) {
            throw new ArithmeticException("the root is above 1");
        }
        sizes.putSteps(steps, parts);
        return (int) mappedBySteps(interval);
    }

    public int commas(int three, int five, int register, int parts) throws IllegalArgumentException, IndexOutOfBoundsException, ArithmeticException {
        needRange(three, 0, 20);
        needRange(five, 0, 10);
        needRange(parts, 0, 100);
        needIndex(register, REGISTERS);
        Interval bound = state.register(register);
        if (sizes.order(bound, Interval.ofOctaves(1, 1)) > 0) {
            throw new ArithmeticException("the interval is greater than the octave");
        }
        sizes.putSteps(steps, parts);
        int count = 0;
        for (int b = -three; b <= three; b++) {
            for (int c = -five; c <= five; c++) {
                count += isCommaBelow(b, c, bound, parts) ? 1 : 0;
            }
        }
        return count;
    }

    // ---- well temperament, tune

    public boolean closes() {
        int together = 0;
        for (int fifth = 0; fifth < FIFTHS; fifth++) {
            together += state.fifth(fifth);
        }
        return together == COMMA_PARTS;
    }

    public int impurity(int key, int digits) throws IndexOutOfBoundsException, IllegalArgumentException {
        needIndex(key, FIFTHS);
        needRange(digits, 0, 6);
        return (int) centsOf(thirdMiss(key), digits, NEAREST);
    }

    public int pure(int place) throws IndexOutOfBoundsException {
        needIndex(place, FIFTHS);
        int[] order = new int[FIFTHS];
        Interval[] misses = new Interval[FIFTHS];
        for (int key = 0; key < FIFTHS; key++) {
            Interval miss = thirdMiss(key);
            int at = key;
            while (at > 0 && sizes.order(misses[at - 1], miss) > 0) {
                misses[at] = misses[at - 1];
                order[at] = order[at - 1];
                at--;
            }
            misses[at] = miss;
            order[at] = key;
        }
        return order[place];
    }

    public int moves() {
        return state.tune.length;
    }

    // ---- chords, strings, rhythms, counts

    public int chord(int chord, int register) throws IllegalArgumentException, IndexOutOfBoundsException, ArithmeticException {
        needRange(chord, 1, 255);
        needIndex(register, REGISTERS);
        if ((chord >> register & 1) == 0) {
            throw new IndexOutOfBoundsException("the register is not in the chord");
        }
        putLeastExponents(chord);
        Interval asked = state.register(register);
        long number = 1;
        for (int i = 0; i < PRIMES; i++) {
            for (long k = form[i]; k < asked.exponent[i]; k++) {
                number *= PRIME[i];
                if (number > CHORD_NUMBER_MOST) {
                    throw new ArithmeticException("the number is too great");
                }
            }
        }
        return (int) number;
    }

    public boolean beats(int register, int swings, int n, int m) throws IndexOutOfBoundsException, IllegalArgumentException, ArithmeticException {
        needIndex(register, REGISTERS);
        needRange(swings, 1, 10000);
        needRange(n, 1, 100);
        needRange(m, 1, 100);
        Interval interval = state.register(register);
        needFraction(interval, TOLD_EXPONENT_MOST);
        putFraction(interval);
        spare.copy(toldUnder);
        spare.multiply(n);
        toldOver.multiply(m);
        toldOver.becomeDifference(spare);
        toldOver.multiply(swings);
        reduceTold(interval);
        isTold = true;
        return toldOver.isZero();
    }

    public int string(int register, int length) throws IndexOutOfBoundsException, IllegalArgumentException {
        needIndex(register, REGISTERS);
        needRange(length, 1, 1000000);
        Interval turned = state.register(register).stretched(-1, 1, 0);
        long octaves = sizes.floor(turned, 1);
        // 2 to the power of 30 is above the most that is told, 2 to the power of 20 above every length.
        if (octaves >= 30) {
            return STRING_MOST;
        }
        if (octaves < -20) {
            return 0;
        }
        long whole = wholeString(turned, length);
        if (whole == NONE) {
            whole = power.scaled(sizes.partOf(turned), length, (int) octaves);
        }
        return (int) Math.min(whole, STRING_MOST);
    }

    public int rhythm(int places, int beats) throws IllegalArgumentException {
        needRange(places, 1, 30);
        needRange(beats, 0, places);
        int found = 0;
        for (int i = 0; i < places; i++) {
            if (i * beats % places < beats) {
                found |= 1 << i;
            }
        }
        return found;
    }

    public int unlike(int parts, int many) throws IllegalArgumentException {
        needRange(parts, 1, 30);
        needRange(many, 0, parts);
        long together = 0;
        // The sets that a turn by each number of parts leaves as they are, on the average of all turns.
        for (int turn = 1; turn <= parts; turn++) {
            int circles = (int) divisorOf(parts, turn);
            int around = parts / circles;
            if (many % around == 0) {
                together += choices(circles, many / around);
            }
        }
        return (int) (together / parts);
    }

    // ---- text

    public int type(long bytes) throws IllegalStateException {
        if (!text.put(bytes)) {
            throw new IllegalStateException("the text would be too long");
        }
        return text.length;
    }

    public int clearText() {
        int before = text.length;
        text.length = 0;
        return before;
    }

    public int errorPlace() {
        return text.findError();
    }

    // ---- measures

    public float evenness(int scale) throws IndexOutOfBoundsException {
        needIndex(scale, SCALES);
        int[] sorts = state.scale(scale).sortRow(sizes);
        int[] counts = new int[sorts.length];
        for (int sort : sorts) {
            counts[sort]++;
        }
        return (float) greatest(counts) / (float) Math.max(1, sorts.length);
    }

    public double meanImpurity() {
        long together = 0;
        for (int key = 0; key < FIFTHS; key++) {
            together += centsOf(thirdMiss(key), 3, NEAREST);
        }
        return (double) together / 12000.0;
    }

    public int errors() {
        int found = 0;
        for (int scale = 0; scale < SCALES; scale++) {
            found += isScaleRight(state.scale(scale)) ? 0 : 1;
        }
        for (int register = 0; register < REGISTERS; register++) {
            found += isRoundingRight(state.register(register)) ? 0 : 1;
        }
        for (int parts = 1; parts <= 60; parts++) {
            sizes.putSteps(steps, parts);
            for (int first = 0; first < REGISTERS; first++) {
                for (int second = first + 1; second < REGISTERS; second++) {
                    found += isSumRight(state.register(first), state.register(second)) ? 0 : 1;
                }
            }
        }
        return found;
    }

    // ---- what the calls share

    private void needIndex(int index, int count) {
        if (index < 0 || index >= count) {
            throw new IndexOutOfBoundsException("there is no such number");
        }
    }

    private void needRange(int value, int least, int most) {
        if (value < least || value > most) {
            throw new IllegalArgumentException("a number is out of range");
        }
    }

    private void needKept(Interval interval) {
        if (interval == null || !interval.canBeKept()) {
            throw new ArithmeticException("the interval could not be kept");
        }
    }

    private void needFraction(Interval interval, int most) {
        if (interval.root > 1 || interval.greatestExponent() > most) {
            throw new ArithmeticException("the interval is no fraction that can be told");
        }
    }

    private void change(State next) {
        if (changes >= past.length) {
            for (int i = 1; i < past.length; i++) {
                past[i - 1] = past[i];
            }
            changes = past.length - 1;
        }
        past[changes] = state;
        changes++;
        state = next;
    }

    private Interval octavesTaken(Interval interval, int times) {
        for (int i = 0; i < PRIMES; i++) {
            form[i] = interval.exponent[i] * times;
        }
        return interval.stretched(times, 1, -sizes.floorOf(form, interval.root, 1));
    }

    private long centsOf(Interval interval, int digits, int way) {
        long unit = CENTS;
        for (int i = 0; i < digits; i++) {
            unit *= 10;
        }
        if (way == NEAREST) {
            return sizes.rounded(interval, unit);
        }
        if (way == DOWN) {
            return sizes.floor(interval, unit);
        }
        return -sizes.floor(interval.stretched(-1, 1, 0), unit);
    }

    /** The tone of the block's point that stands for the pair (number % g, number / g), g the divisor of both exponents of 3. */
    private Interval blockTone(Interval one, Interval two, long determinant, int number) {
        long b1 = one.exponent[1];
        long c1 = one.exponent[2];
        long b2 = two.exponent[1];
        long c2 = two.exponent[2];
        long across = Math.max(1, divisorOf(b1, b2));
        long b = number % across;
        long c = number / across;
        long s = determinant == 0 ? 0 : Math.floorDiv(b * c2 - c * b2, determinant);
        long t = determinant == 0 ? 0 : Math.floorDiv(b1 * c - c1 * b, determinant);
        long[] exponent = new long[PRIMES];
        exponent[1] = b - s * b1 - t * b2;
        exponent[2] = c - s * c1 - t * c2;
        return octavesTaken(new Interval(exponent, 1), 1);
    }

    /** The number at an index among the nearest misses: they are the unlike denominators of the size's convergents. */
    private long nearestMiss(Interval interval, int index, int most) {
        continued.start(interval, sizes);
        continued.next();
        long before = 0;
        long number = 1;
        int found = 0;
        for (int i = 0; i < most && found < index; i++) {
            long turned = continued.hasEnded() ? TERM_MOST : continued.next();
            if (turned > most) {
                return NONE;
            }
            long after = turned * number + before;
            if (after > most) {
                return NONE;
            }
            found += after > number ? 1 : 0;
            before = number;
            number = after;
        }
        return found == index ? number : NONE;
    }

    private long mappedBySteps(Interval interval) {
        long number = 0;
        for (int i = 0; i < PRIMES; i++) {
            number += interval.exponent[i] * steps[i];
        }
        return number;
    }

    private boolean isCommaBelow(int b, int c, Interval bound, int parts) {
        if (b == 0 && c == 0) {
            return false;
        }
        for (int i = 0; i < PRIMES; i++) {
            form[i] = i == 1 ? b : i == 2 ? c : 0;
        }
        long octaves = sizes.floorOf(form, 1, 1);
        if (parts > 0 && b * steps[1] + c * steps[2] != octaves * parts) {
            return false;
        }
        form[0] = -octaves;
        for (int i = 0; i < PRIMES; i++) {
            form[i] = bound.exponent[i] - form[i] * bound.root;
        }
        return sizes.sign(form) > 0;
    }

    /** How far the third of a key is from 5 / 4, without sign: the comma 81 / 80 less the parts of four fifths. */
    private Interval thirdMiss(int key) {
        long less = 0;
        for (int i = 0; i < 4; i++) {
            less += state.fifth((key + i) % FIFTHS);
        }
        long[] exponent = new long[PRIMES];
        exponent[0] = 19 * less - 4 * COMMA_PARTS;
        exponent[1] = 4 * COMMA_PARTS - 12 * less;
        exponent[2] = -COMMA_PARTS;
        Interval miss = new Interval(exponent, COMMA_PARTS);
        return sizes.sign(miss.exponent) < 0 ? miss.stretched(-1, 1, 0) : miss;
    }

    private void putLeastExponents(int chord) {
        boolean isFirst = true;
        for (int register = 0; register < REGISTERS; register++) {
            if ((chord >> register & 1) == 1) {
                Interval interval = state.register(register);
                needFraction(interval, CHORD_EXPONENT_MOST);
                for (int i = 0; i < PRIMES; i++) {
                    form[i] = isFirst ? interval.exponent[i] : Math.min(form[i], interval.exponent[i]);
                }
                isFirst = false;
            }
        }
    }

    private void putFraction(Interval interval) {
        toldOver.become(1);
        toldUnder.become(1);
        for (int i = 0; i < PRIMES; i++) {
            Whole raised = interval.exponent[i] > 0 ? toldOver : toldUnder;
            long amount = Math.abs(interval.exponent[i]);
            for (long k = 0; k < amount; k++) {
                raised.multiply(PRIME[i]);
            }
        }
    }

    /** Takes the common divisors out of the told numbers, the lower one still being the one of the interval. */
    private void reduceTold(Interval interval) {
        if (toldOver.isZero()) {
            toldUnder.become(1);
            return;
        }
        for (int i = 0; i < PRIMES; i++) {
            for (long k = interval.exponent[i]; k < 0 && toldOver.leftBy(PRIME[i]) == 0; k++) {
                toldOver.divide(PRIME[i]);
                toldUnder.divide(PRIME[i]);
            }
        }
    }

    /** Length times what the interval stands for, if this is a whole number; else NONE. */
    private long wholeString(Interval turned, int length) {
        if (turned.root > 1) {
            return NONE;
        }
        long whole = length;
        for (int i = 0; i < PRIMES; i++) {
            for (long k = turned.exponent[i]; k < 0; k++) {
                if (whole % PRIME[i] != 0) {
                    return NONE;
                }
                whole /= PRIME[i];
            }
        }
        for (int i = 0; i < PRIMES; i++) {
            for (long k = 0; k < turned.exponent[i]; k++) {
                whole *= PRIME[i];
            }
        }
        return whole;
    }

    private boolean isTurnedAlike(int[] sorts, int turn) {
        for (int i = 0; i < sorts.length; i++) {
            if (sorts[i] != sorts[(i + turn) % sorts.length]) {
                return false;
            }
        }
        return true;
    }

    /** The greatest number of a row of numbers from 0 on. */
    private int greatest(int[] numbers) {
        int most = 0;
        for (int number : numbers) {
            most = Math.max(most, number);
        }
        return most;
    }

    private boolean isScaleRight(Scale scale) {
        long[] together = new long[PRIMES];
        long root = 1;
        boolean isRight = true;
        for (int step = 0; step < scale.count(); step++) {
            Interval low = scale.at(step);
            isRight = isRight && sizes.floor(low, 1) == 0;
            isRight = isRight && (step == 0 || sizes.order(scale.at(step - 1), low) < 0);
            Interval gap = scale.gap(step);
            for (int i = 0; i < PRIMES; i++) {
                together[i] = together[i] * gap.root + gap.exponent[i] * root;
            }
            root = reduce(together, root * gap.root);
        }
        return isRight && new Interval(together, root).isSame(Interval.ofOctaves(1, 1));
    }

    private boolean isRoundingRight(Interval interval) {
        long down = centsOf(interval, 3, DOWN);
        long up = centsOf(interval, 3, UP);
        long near = centsOf(interval, 3, NEAREST);
        boolean isWhole = interval.isOctaves() && interval.exponent[0] * CENTS * 1000 % interval.root == 0;
        return up - down == (isWhole ? 0 : 1) && (near == down || near == up);
    }

    private boolean isSumRight(Interval first, Interval second) {
        if (first.root > 1 || second.root > 1) {
            return true;
        }
        long together = 0;
        for (int i = 0; i < PRIMES; i++) {
            together += (first.exponent[i] + second.exponent[i]) * steps[i];
        }
        return together == mappedBySteps(first) + mappedBySteps(second);
    }

    /** The greatest common divisor, 0 of two zeros; the steps are far fewer than the bound. */
    private static long divisorOf(long first, long second) {
        long one = first < 0 ? -first : first;
        long two = second < 0 ? -second : second;
        for (int i = 0; i < 200 && two != 0; i++) {
            long rest = one % two;
            one = two;
            two = rest;
        }
        return one;
    }

    /** Divides a row of exponents and a root by what divides them all; returns the root that is left. */
    private static long reduce(long[] exponent, long root) {
        long divisor = root < 1 ? 1 : root;
        for (int i = 0; i < exponent.length && divisor > 1; i++) {
            divisor = divisorOf(divisor, exponent[i]);
        }
        if (divisor <= 1) {
            return root < 1 ? 1 : root;
        }
        for (int i = 0; i < exponent.length; i++) {
            exponent[i] /= divisor;
        }
        return root / divisor;
    }

    /** In how many ways some of a number of things can be chosen. */
    private static long choices(int things, int some) {
        long ways = 1;
        for (int i = 1; i <= some; i++) {
            ways = ways * (things - some + i) / i;
        }
        return ways;
    }

    /** An interval in its one reduced form, so that equal ones have equal numbers. */
    private static final class Interval {
        private static final int EXPONENT_MOST = 5000;
        private static final int ROOT_MOST = 360;

        private final long[] exponent;
        private final long root;

        /** Takes over the row of exponents. */
        Interval(long[] exponent, long root) {
            this.exponent = exponent;
            this.root = reduce(exponent, root);
        }

        static Interval ofOctaves(long many, long parts) {
            long[] exponent = new long[PRIMES];
            exponent[0] = many;
            return new Interval(exponent, parts);
        }

        /** The interval of a fraction; null if it has another prime. */
        static Interval ofFraction(int over, int under) {
            long divisor = Math.max(1, divisorOf(over, under));
            long up = over / divisor;
            long down = under / divisor;
            long[] exponent = new long[PRIMES];
            for (int i = 0; i < PRIMES; i++) {
                for (int k = 0; k < 32 && up > 0 && up % PRIME[i] == 0; k++) {
                    up /= PRIME[i];
                    exponent[i]++;
                }
                for (int k = 0; k < 32 && down > 0 && down % PRIME[i] == 0; k++) {
                    down /= PRIME[i];
                    exponent[i]--;
                }
            }
            return up == 1 && down == 1 ? new Interval(exponent, 1) : null;
        }

        Interval joined(Interval other, boolean isLess) {
            long[] made = new long[PRIMES];
            for (int i = 0; i < PRIMES; i++) {
                long added = other.exponent[i] * root;
                made[i] = exponent[i] * other.root + (isLess ? -added : added);
            }
            return new Interval(made, root * other.root);
        }

        /** So many times this, divided into parts, and some octaves more. */
        Interval stretched(long many, long parts, long octaves) {
            long[] made = new long[PRIMES];
            for (int i = 0; i < PRIMES; i++) {
                made[i] = exponent[i] * many;
            }
            made[0] += octaves * root * parts;
            return new Interval(made, root * parts);
        }

        boolean canBeKept() {
            return root <= ROOT_MOST && greatestExponent() <= EXPONENT_MOST;
        }

        long greatestExponent() {
            long most = 0;
            for (int i = 0; i < PRIMES; i++) {
                most = Math.max(most, Math.abs(exponent[i]));
            }
            return most;
        }

        boolean isOctaves() {
            for (int i = 1; i < PRIMES; i++) {
                if (exponent[i] != 0) {
                    return false;
                }
            }
            return true;
        }

        boolean isUnison() {
            return isOctaves() && exponent[0] == 0;
        }

        boolean isComma() {
            return root == 1 && exponent[3] == 0 && exponent[4] == 0 && exponent[5] == 0;
        }

        boolean isSame(Interval other) {
            for (int i = 0; i < PRIMES; i++) {
                if (exponent[i] != other.exponent[i]) {
                    return false;
                }
            }
            return root == other.root;
        }
    }

    /**
     * Measures intervals. The size of one is a form, a sum of exponents times logarithms of primes, divided by its root.
     * Most answers are told from short logarithms; the long ones are far longer than the least form that is not 0 can ask.
     */
    private static final class Sizes {
        private static final int LIMBS = 20;
        private static final int NEAR_BITS = 36;
        private static final long NEAR_SLACK_MOST = 1L << 24;
        private static final long LONG_MOST = 9223372036854775807L;
        private static final long[] NEAR = {
            68719476736L, 108917793695L, 159561683699L, 192919961256L, 237730330636L, 254292281123L,
        };
        private static final int[] WHOLE = {1, 1, 2, 2, 3, 3};
        /** What is behind the point of the logarithms of 3 to 13, the lowest limbs first. */
        private static final int[] BEHIND = {
            0x6e98, 0xb0c5, 0xcdff, 0x14fb, 0x41f7, 0x25fa, 0x904d, 0x7be5, 0xb040, 0xa259,
            0xe6a3, 0x24f3, 0xadd1, 0x068b, 0x120a, 0xa00b, 0x879f, 0xfbd6, 0x1a39, 0x95c0,
            0x7ce8, 0x7754, 0x3f7a, 0x1994, 0x1674, 0x0b9e, 0xb202, 0x46da, 0xb53a, 0xdece,
            0x57f8, 0x65b1, 0x6d33, 0x36bf, 0xdbfd, 0x24af, 0x2bf9, 0x346e, 0xe12f, 0x5269,
            0x004a, 0x6d33, 0xcb59, 0x7437, 0x373a, 0x9d0c, 0x261d, 0xbbd6, 0x67ca, 0x0171,
            0xa548, 0x38c6, 0xa847, 0x13e5, 0x03a4, 0x2ac9, 0x9b33, 0x8085, 0xcfea, 0xceae,
            0x04a5, 0x71f3, 0x4ff7, 0xec82, 0x5d15, 0xfadd, 0x9ddc, 0x8a57, 0x895b, 0x410e,
            0x0bb7, 0x3e73, 0xd6bf, 0x5554, 0x6641, 0xfaf8, 0x3bf8, 0xcba8, 0x4f80, 0x759d,
            0x6a67, 0x454e, 0x7275, 0x785e, 0xbb01, 0x6e82, 0xa4b0, 0x9755, 0x76c7, 0x9006,
            0x83d2, 0x1cf4, 0x511e, 0x2983, 0x1c87, 0x76da, 0x5e69, 0x3c46, 0x0472, 0xb350,
        };

        private final Fixed measured = new Fixed(LIMBS);
        private final long[] form = new long[PRIMES];

        /** -1, 0 or 1, as the form is below, at or above 0. */
        int sign(long[] given) {
            long slack = slackOf(given);
            if (slack == 0) {
                return Long.compare(given[0], 0);
            }
            if (isShort(given, slack)) {
                long near = nearOf(given);
                if (near > slack || near < -slack) {
                    return near < 0 ? -1 : 1;
                }
            }
            measure(given);
            return measured.whole < 0 ? -1 : 1;
        }

        int order(Interval first, Interval second) {
            for (int i = 0; i < PRIMES; i++) {
                form[i] = first.exponent[i] * second.root - second.exponent[i] * first.root;
            }
            return sign(form);
        }

        /** So many times the form divided by the root, rounded down. */
        long floorOf(long[] given, long root, long many) {
            if (root < 1 || many < 1) {
                return 0;
            }
            long slack = slackOf(given);
            if (slack == 0) {
                return Math.floorDiv(given[0] * many, root);
            }
            if (isShort(given, slack)) {
                long near = nearOf(given);
                if (Math.abs(near) + slack <= LONG_MOST / many) {
                    long low = Math.floorDiv((near - slack) * many, root << NEAR_BITS);
                    long high = Math.floorDiv((near + slack) * many, root << NEAR_BITS);
                    if (low == high) {
                        return low;
                    }
                }
            }
            measure(given);
            measured.multiply(many);
            return Math.floorDiv(measured.whole, root);
        }

        /** So many times the size, rounded down. */
        long floor(Interval interval, long many) {
            return floorOf(interval.exponent, interval.root, many);
        }

        /** So many times the size, rounded to the nearest whole number, a half upward. */
        long rounded(Interval interval, long many) {
            return Math.floorDiv(floor(interval, 2 * many) + 1, 2);
        }

        /** Puts the best numbers of the primes in equal parts; zeros for 0 parts. */
        void putSteps(long[] steps, int parts) {
            for (int i = 0; i < PRIMES; i++) {
                form[i] = 0;
            }
            for (int i = 0; i < PRIMES && i < steps.length; i++) {
                form[i] = 1;
                steps[i] = Math.floorDiv(floorOf(form, 1, 2L * parts) + 1, 2);
                form[i] = 0;
            }
        }

        /** The limbs of what the size is above its whole part; they stand until the next measuring. */
        int[] partOf(Interval interval) {
            measure(interval.exponent);
            measured.divide(interval.root);
            return measured.behind;
        }

        /** Puts the form of an interval without its sign, as a number of units of the last limb. */
        void putAmount(Interval interval, Whole into) {
            boolean isBelow = sign(interval.exponent) < 0;
            for (int i = 0; i < PRIMES; i++) {
                form[i] = isBelow ? -interval.exponent[i] : interval.exponent[i];
            }
            measure(form);
            into.become(measured.whole);
            into.shift(LIMBS, measured.behind);
        }

        /** The index of an interval in a rising row; if it is none, -1 less the number of those that are less. */
        int place(Interval[] rising, int count, Interval wanted) {
            int low = 0;
            int high = Math.min(count, rising.length);
            while (low < high) {
                int middle = (low + high) / 2;
                int order = order(rising[middle], wanted);
                if (order == 0) {
                    return middle;
                }
                if (order < 0) {
                    low = middle + 1;
                } else {
                    high = middle;
                }
            }
            return -1 - low;
        }

        /** Puts an interval into a rising row, if it is not there and there is room; returns how many are there then. */
        int insert(Interval[] rising, int count, Interval added) {
            int place = place(rising, count, added);
            if (place >= 0 || count >= rising.length) {
                return count;
            }
            for (int i = count; i > -1 - place; i--) {
                rising[i] = rising[i - 1];
            }
            rising[-1 - place] = added;
            return count + 1;
        }

        private long slackOf(long[] given) {
            long slack = 0;
            for (int i = 1; i < PRIMES; i++) {
                slack += Math.abs(given[i]);
            }
            return slack;
        }

        private boolean isShort(long[] given, long slack) {
            return slack < NEAR_SLACK_MOST && Math.abs(given[0]) < NEAR_SLACK_MOST;
        }

        /** The form in short logarithms, which is off by less than the slack. */
        private long nearOf(long[] given) {
            long near = 0;
            for (int i = 0; i < PRIMES; i++) {
                near += given[i] * NEAR[i];
            }
            return near;
        }

        private void measure(long[] given) {
            long carry = 0;
            for (int limb = 0; limb < LIMBS; limb++) {
                for (int i = 1; i < PRIMES; i++) {
                    if (given[i] != 0) {
                        carry += given[i] * BEHIND[(i - 1) * LIMBS + limb];
                    }
                }
                measured.behind[limb] = (int) (carry & Fixed.LIMB);
                carry >>= Fixed.LIMB_BITS;
            }
            measured.whole = carry;
            for (int i = 0; i < PRIMES; i++) {
                measured.whole += given[i] * WHOLE[i];
            }
        }
    }

    /** A number with a whole part of either sign and limbs behind the point, the lowest ones first. */
    private static final class Fixed {
        private static final int LIMB_BITS = 16;
        private static final int LIMB = 0xffff;

        private final int[] behind;
        private long whole;

        Fixed(int limbs) {
            behind = new int[Math.max(0, limbs)];
        }

        void become(long value) {
            whole = value;
            for (int i = 0; i < behind.length; i++) {
                behind[i] = 0;
            }
        }

        void multiply(long many) {
            long carry = 0;
            for (int i = 0; i < behind.length; i++) {
                carry += behind[i] * many;
                behind[i] = (int) (carry & LIMB);
                carry >>= LIMB_BITS;
            }
            whole = whole * many + carry;
        }

        void divide(long divisor) {
            if (divisor < 1) {
                return;
            }
            long rest = Math.floorMod(whole, divisor);
            whole = Math.floorDiv(whole, divisor);
            for (int i = behind.length - 1; i >= 0; i--) {
                rest = rest << LIMB_BITS | behind[i];
                behind[i] = (int) (rest / divisor);
                rest %= divisor;
            }
        }
    }

    /** Takes the terms of the continued fraction of a size one after the other. */
    private static final class ContinuedFraction {
        private Whole rest = new Whole();
        private Whole divisor = new Whole();

        void start(Interval interval, Sizes sizes) {
            sizes.putAmount(interval, rest);
            divisor.become(interval.root);
            divisor.shift(Sizes.LIMBS, null);
        }

        boolean hasEnded() {
            return divisor.isZero();
        }

        /** The next term, or TERM_MOST + 1 if it is greater than TERM_MOST. */
        long next() {
            long term = rest.leave(divisor, TERM_MOST);
            Whole turned = rest;
            rest = divisor;
            divisor = turned;
            return term;
        }
    }

    /** A whole number from 0 on that changes; what would go beyond its limbs is far above all that is asked. */
    private static final class Whole {
        private static final int LIMBS = 48;
        private static final int LIMB_BITS = Fixed.LIMB_BITS;
        private static final int LIMB = Fixed.LIMB;

        private final int[] limb = new int[LIMBS];
        private int length;

        void become(long value) {
            length = 0;
            for (long rest = value; rest > 0 && length < LIMBS; rest >>= LIMB_BITS) {
                limb[length] = (int) (rest & LIMB);
                length++;
            }
        }

        void copy(Whole other) {
            length = other.length;
            System.arraycopy(other.limb, 0, limb, 0, length);
        }

        boolean isZero() {
            return length == 0;
        }

        /** Goes up by so many limbs, the lowest ones being those that are given, or zeros. */
        void shift(int limbs, int[] lowest) {
            if (limbs < 0 || length + limbs > LIMBS) {
                return;
            }
            for (int i = length - 1; i >= 0; i--) {
                limb[i + limbs] = limb[i];
            }
            for (int i = 0; i < limbs; i++) {
                limb[i] = lowest != null && i < lowest.length ? lowest[i] : 0;
            }
            length += limbs;
            trim();
        }

        void multiply(int factor) {
            long carry = 0;
            for (int i = 0; i < length; i++) {
                carry += (long) limb[i] * factor;
                limb[i] = (int) (carry & LIMB);
                carry >>= LIMB_BITS;
            }
            while (carry > 0 && length < LIMBS) {
                limb[length] = (int) (carry & LIMB);
                carry >>= LIMB_BITS;
                length++;
            }
            trim();
        }

        void divide(int divisor) {
            if (divisor < 1) {
                return;
            }
            long rest = 0;
            for (int i = length - 1; i >= 0; i--) {
                rest = rest << LIMB_BITS | limb[i];
                limb[i] = (int) (rest / divisor);
                rest %= divisor;
            }
            trim();
        }

        int leftBy(int divisor) {
            long rest = 0;
            for (int i = length - 1; i >= 0 && divisor > 0; i--) {
                rest = (rest << LIMB_BITS | limb[i]) % divisor;
            }
            return (int) rest;
        }

        int order(Whole other) {
            if (length != other.length) {
                return length < other.length ? -1 : 1;
            }
            for (int i = length - 1; i >= 0; i--) {
                if (limb[i] != other.limb[i]) {
                    return limb[i] < other.limb[i] ? -1 : 1;
                }
            }
            return 0;
        }

        /** Becomes the amount of the difference to another one. */
        void becomeDifference(Whole other) {
            boolean isLess = order(other) < 0;
            long carry = 0;
            int most = Math.max(length, other.length);
            for (int i = 0; i < most; i++) {
                long mine = i < length ? limb[i] : 0;
                long others = i < other.length ? other.limb[i] : 0;
                carry += isLess ? others - mine : mine - others;
                limb[i] = (int) (carry & LIMB);
                carry >>= LIMB_BITS;
            }
            length = most;
            trim();
        }

        /** Becomes what it leaves by a divisor; returns how often that went, or most + 1 if this is more than most. */
        long leave(Whole divisor, long most) {
            int shift = binaryDigits() - divisor.binaryDigits();
            if (shift < 0 || divisor.isZero()) {
                return 0;
            }
            divisor.shiftBits(shift);
            long times = 0;
            for (int i = shift; i >= 0; i--) {
                times = Math.min(2 * times, most + 1);
                if (order(divisor) >= 0) {
                    becomeDifference(divisor);
                    times = Math.min(times + 1, most + 1);
                }
                if (i > 0) {
                    divisor.halve();
                }
            }
            return times;
        }

        int binaryDigits() {
            if (length == 0) {
                return 0;
            }
            int digits = (length - 1) * LIMB_BITS;
            for (int rest = limb[length - 1]; rest > 0; rest >>= 1) {
                digits++;
            }
            return digits;
        }

        /** How many decimal digits it has, told by means of a number that may change. */
        int decimalDigits(Whole helper) {
            helper.copy(this);
            int digits = 1;
            for (int i = 0; i < LIMBS * 2 && helper.length > 1; i++) {
                helper.divide(10000);
                digits += 4;
            }
            for (int rest = helper.length > 0 ? helper.limb[0] : 0; rest > 9; rest /= 10) {
                digits++;
            }
            return digits;
        }

        private void shiftBits(int bits) {
            shift(bits / LIMB_BITS, null);
            multiply(1 << bits % LIMB_BITS);
        }

        private void halve() {
            int carry = 0;
            for (int i = length - 1; i >= 0; i--) {
                int both = carry << LIMB_BITS | limb[i];
                limb[i] = both >> 1;
                carry = both & 1;
            }
            trim();
        }

        private void trim() {
            while (length > 0 && limb[length - 1] == 0) {
                length--;
            }
        }
    }

    /** Raises 2 to a power between 0 and 1, by the row of the exponential function. */
    private static final class PowerOfTwo {
        private static final int LIMBS = 14;
        private static final int TERMS = 50;
        /** The natural logarithm of 2, the lowest limbs first. */
        private static final int[] LOGARITHM = {
            0x175b, 0x8a0d, 0xb62d, 0x7298, 0x4326, 0x40f3, 0xf6af, 0x03f2, 0xb398, 0xc9e3, 0x79ab, 0xd1cf, 0x17f7, 0xb172,
        };

        private final int[] given = new int[LIMBS];
        private final int[] power = new int[LIMBS];
        private final int[] product = new int[LIMBS];
        private final Fixed raised = new Fixed(LIMBS);

        /** Length times 2 to the power of octaves and part (limbs behind the point), rounded down. */
        long scaled(int[] part, int length, int octaves) {
            for (int i = 0; i < LIMBS; i++) {
                int from = part.length - LIMBS + i;
                given[i] = from >= 0 ? part[from] : 0;
            }
            putProduct(power, given, LOGARITHM);
            raised.become(1);
            for (int term = TERMS; term > 0; term--) {
                takeTerm(term);
            }
            raised.multiply(length);
            if (octaves < 0) {
                return raised.whole >> -octaves;
            }
            raised.multiply(1L << octaves);
            return raised.whole;
        }

        /** Becomes 1 more than the power's so many-th part times itself. */
        private void takeTerm(int term) {
            putProduct(product, raised.behind, power);
            long carry = 0;
            for (int i = 0; i < LIMBS; i++) {
                carry += product[i] + raised.whole * power[i];
                raised.behind[i] = (int) (carry & Fixed.LIMB);
                carry >>= Fixed.LIMB_BITS;
            }
            raised.whole = carry;
            raised.divide(term);
            raised.whole++;
        }

        /** The limbs of the product of two numbers below 1, as many as each of them has. */
        private void putProduct(int[] into, int[] first, int[] second) {
            long carry = 0;
            for (int column = LIMBS - 1; column < 2 * LIMBS; column++) {
                for (int i = Math.max(0, column - LIMBS + 1); i < LIMBS && i <= column; i++) {
                    carry += (long) first[i] * second[column - i];
                }
                if (column >= LIMBS) {
                    into[column - LIMBS] = (int) (carry & Fixed.LIMB);
                }
                carry >>= Fixed.LIMB_BITS;
            }
        }
    }

    /** A rising row of tones that never changes; its gaps are found when they are first asked. */
    private static final class Scale {
        private final Interval[] rising;
        private Interval[] gaps;
        private int[] sorts;

        /** Takes over the row of tones. */
        private Scale(Interval[] rising) {
            this.rising = rising;
        }

        /** A scale of the first tones of a row. */
        static Scale of(Interval[] row, int count) {
            Interval[] rising = new Interval[Math.max(0, Math.min(count, row.length))];
            for (int i = 0; i < rising.length; i++) {
                rising[i] = row[i];
            }
            return new Scale(rising);
        }

        int count() {
            return rising.length;
        }

        Interval at(int step) {
            return rising[step];
        }

        int find(Interval wanted, Sizes sizes) {
            return sizes.place(rising, rising.length, wanted);
        }

        Scale with(Interval added, Sizes sizes) {
            Interval[] more = new Interval[rising.length + 1];
            for (int i = 0; i < rising.length; i++) {
                more[i] = rising[i];
            }
            return of(more, sizes.insert(more, rising.length, added));
        }

        Scale without(int step) {
            if (step < 0 || step >= rising.length) {
                return this;
            }
            Interval[] less = new Interval[rising.length - 1];
            for (int i = 0; i < less.length; i++) {
                less[i] = rising[i < step ? i : i + 1];
            }
            return new Scale(less);
        }

        /** How far the tone so many steps above a step, at most around the octave, is from its tone. */
        Interval above(int step, int many) {
            int upper = step + many;
            boolean isAround = upper >= rising.length;
            Interval difference = rising[isAround ? upper - rising.length : upper].joined(rising[step], true);
            return isAround ? difference.stretched(1, 1, 1) : difference;
        }

        Interval gap(int step) {
            if (gaps == null) {
                gaps = new Interval[rising.length];
                for (int i = 0; i < gaps.length; i++) {
                    gaps[i] = above(i, 1);
                }
            }
            return gaps[step];
        }

        /** For each step the sort of its gap. */
        int[] sortRow(Sizes sizes) {
            if (sorts == null) {
                Interval[] unlikes = new Interval[rising.length];
                int count = 0;
                for (int i = 0; i < rising.length; i++) {
                    count = sizes.insert(unlikes, count, gap(i));
                }
                sorts = new int[rising.length];
                for (int i = 0; i < sorts.length; i++) {
                    sorts[i] = Math.max(0, sizes.place(unlikes, count, gap(i)));
                }
            }
            return sorts;
        }
    }

    /** The intervals with names, rising; it never changes. */
    private static final class Names {
        private final Interval[] rising;
        private final int[] names;

        Names(Interval[] rising, int[] names) {
            this.rising = rising;
            this.names = names;
        }

        int find(Interval wanted, Sizes sizes) {
            int place = sizes.place(rising, rising.length, wanted);
            return place >= 0 && place < names.length ? names[place] : NONE;
        }

        int below(Interval bound, Sizes sizes) {
            int place = sizes.place(rising, rising.length, bound);
            return place < 0 ? -1 - place : place;
        }

        Names with(Interval interval, int name, Sizes sizes) {
            int place = sizes.place(rising, rising.length, interval);
            if (place >= 0 && place < names.length) {
                int[] changed = names.clone();
                changed[place] = name;
                return new Names(rising, changed);
            }
            int at = -1 - place;
            Interval[] more = new Interval[rising.length + 1];
            int[] moreNames = new int[rising.length + 1];
            for (int i = 0; i < more.length; i++) {
                int from = i < at ? i : i - 1;
                more[i] = i == at ? interval : rising[from];
                moreNames[i] = i == at ? name : names[from];
            }
            return new Names(more, moreNames);
        }
    }

    /** All that a change can change and an undo brings back; it never changes itself. */
    private static final class State {
        private final Interval[] registers;
        private final Scale[] scales;
        private final Names names;
        private final int[] fifths;
        /** Where the tune is behind each of its moves. */
        private final Interval[] tune;

        private State(Interval[] registers, Scale[] scales, Names names, int[] fifths, Interval[] tune) {
            this.registers = registers;
            this.scales = scales;
            this.names = names;
            this.fifths = fifths;
            this.tune = tune;
        }

        static State first() {
            Interval unison = Interval.ofOctaves(0, 1);
            Interval[] registers = new Interval[REGISTERS];
            for (int i = 0; i < REGISTERS; i++) {
                registers[i] = unison;
            }
            Scale[] scales = new Scale[SCALES];
            for (int i = 0; i < SCALES; i++) {
                scales[i] = Scale.of(registers, 1);
            }
            return new State(registers, scales, new Names(new Interval[0], new int[0]), new int[FIFTHS], new Interval[0]);
        }

        Interval register(int register) {
            return registers[register];
        }

        Scale scale(int scale) {
            return scales[scale];
        }

        int fifth(int fifth) {
            return fifths[fifth];
        }

        /** Where the tune is behind some of its moves. */
        Interval behind(int many) {
            return many > 0 && many <= tune.length ? tune[many - 1] : Interval.ofOctaves(0, 1);
        }

        State withRegister(int register, Interval interval) {
            Interval[] changed = registers.clone();
            changed[register] = interval;
            return new State(changed, scales, names, fifths, tune);
        }

        State withScale(int scale, Scale made) {
            Scale[] changed = scales.clone();
            changed[scale] = made;
            return new State(registers, changed, names, fifths, tune);
        }

        State withNames(Names changed) {
            return new State(registers, scales, changed, fifths, tune);
        }

        State withFifth(int fifth, int parts) {
            int[] changed = fifths.clone();
            changed[fifth] = parts;
            return new State(registers, scales, names, changed, tune);
        }

        State withMove(Interval then) {
            Interval[] longer = new Interval[tune.length + 1];
            for (int i = 0; i < tune.length; i++) {
                longer[i] = tune[i];
            }
            longer[tune.length] = then;
            return new State(registers, scales, names, fifths, longer);
        }

        State withoutTune() {
            return new State(registers, scales, names, fifths, new Interval[0]);
        }
    }

    /** A term of the text: so many times a register, or a fraction if that is NONE, divided into parts. */
    private static final class Term {
        private boolean isLess;
        private int many;
        private int register;
        private int over;
        private int under;
        private int divisor;
    }

    /** The text, and the reader that takes it apart into its terms. */
    private static final class Text {
        private static final int LENGTH_MOST = 120;
        private static final int TERMS_MOST = 60;
        private static final int DIGITS_MOST = 6;
        private static final int NUMBER_MOST = 999999;
        private static final int END = -1;

        private final int[] bytes = new int[LENGTH_MOST];
        private final Term[] terms = new Term[TERMS_MOST];
        private int length;
        private int count;
        /** Where the reader stands. */
        private int at;
        /** NONE as long as all fits. */
        private int error;

        Text() {
            for (int i = 0; i < TERMS_MOST; i++) {
                terms[i] = new Term();
            }
        }

        /** Puts the bytes of a number that are not 0 behind the text; false, and nothing put, if there is no room. */
        boolean put(long eight) {
            int many = 0;
            for (int shift = 0; shift < 64; shift += 8) {
                many += (eight >> shift & 255) != 0 ? 1 : 0;
            }
            if (length + many > LENGTH_MOST) {
                return false;
            }
            for (int shift = 56; shift >= 0; shift -= 8) {
                int next = (int) (eight >> shift & 255);
                if (next != 0) {
                    bytes[length] = next;
                    length++;
                }
            }
            return true;
        }

        /** Reads the text into terms; returns the place of the error, or NONE. */
        int findError() {
            at = 0;
            count = 0;
            error = NONE;
            boolean isLess = nextSign() == '-';
            at += isLess ? 1 : 0;
            readTerm(isLess);
            for (int i = 0; i < LENGTH_MOST && error == NONE && nextSign() != END; i++) {
                int sign = nextSign();
                if (sign != '+' && sign != '-') {
                    error = at;
                } else {
                    at++;
                    readTerm(sign == '-');
                }
            }
            return error;
        }

        /** The sum of the terms that were read; null if one on the way could not be kept. */
        Interval value(State state) {
            Interval together = Interval.ofOctaves(0, 1);
            for (int i = 0; i < count; i++) {
                Interval added = valueOf(terms[i], state);
                if (added == null) {
                    return null;
                }
                together = together.joined(added, terms[i].isLess);
                if (!together.canBeKept()) {
                    return null;
                }
            }
            return together;
        }

        private Interval valueOf(Term term, State state) {
            Interval atom = term.register == NONE ? Interval.ofFraction(term.over, term.under) : state.register(term.register);
            if (atom == null) {
                return null;
            }
            Interval many = atom.stretched(term.many, 1, 0);
            if (!many.canBeKept()) {
                return null;
            }
            Interval part = many.stretched(1, term.divisor, 0);
            return part.canBeKept() ? part : null;
        }

        private void readTerm(boolean isLess) {
            if (count >= TERMS_MOST) {
                error = at;
                return;
            }
            Term term = terms[count];
            term.isLess = isLess;
            term.many = 1;
            term.divisor = 1;
            if (isDigit(nextSign()) && !isBesideColon()) {
                term.many = readNumber(0, 100);
            }
            if (error == NONE) {
                readAtom(term);
            }
            if (error == NONE && nextSign() == '/') {
                at++;
                term.divisor = readNumber(1, 24);
            }
            count++;
        }

        private void readAtom(Term term) {
            int sign = nextSign();
            if (isLetter(sign)) {
                readWord(term);
            } else if (isDigit(sign) && isBesideColon()) {
                int over = readNumber(1, NUMBER_MOST);
                if (error == NONE && nextSign() == ':') {
                    at++;
                    putAtom(term, over, readNumber(1, NUMBER_MOST));
                }
            } else {
                error = at;
            }
        }

        private void readWord(Term term) {
            int start = at;
            while (at < length && isLetter(bytes[at])) {
                at++;
            }
            if (isWord(start, "octave")) {
                putAtom(term, 2, 1);
            } else if (isWord(start, "fifth")) {
                putAtom(term, 3, 2);
            } else if (isWord(start, "third")) {
                putAtom(term, 5, 4);
            } else if (isWord(start, "comma")) {
                putAtom(term, 81, 80);
            } else if (isWord(start, "r") && at < length && bytes[at] >= '0' && bytes[at] < '0' + REGISTERS) {
                putAtom(term, 1, 1);
                term.register = bytes[at] - '0';
                at++;
            } else {
                error = start;
            }
        }

        private void putAtom(Term term, int over, int under) {
            term.register = NONE;
            term.over = over;
            term.under = under;
        }

        /** Whether what is read since a place is a word. */
        private boolean isWord(int start, String word) {
            if (at - start != word.length()) {
                return false;
            }
            for (int i = 0; i < word.length(); i++) {
                if (bytes[start + i] != word.charAt(i)) {
                    return false;
                }
            }
            return true;
        }

        /** Reads a number of some range; what is no such number is the error. */
        private int readNumber(int least, int most) {
            boolean isThere = isDigit(nextSign());
            int start = at;
            int number = 0;
            while (at < length && isDigit(bytes[at])) {
                // Beyond six digits it is an error anyway, and must only not run over.
                number = Math.min(number, NUMBER_MOST) * 10 + bytes[at] - '0';
                at++;
            }
            if (!isThere || at - start > DIGITS_MOST || number < least || number > most) {
                error = start;
            }
            return number;
        }

        /** Whether the sign behind the digits here is a colon. */
        private boolean isBesideColon() {
            int place = at;
            while (place < length && isDigit(bytes[place])) {
                place++;
            }
            while (place < length && bytes[place] == ' ') {
                place++;
            }
            return place < length && bytes[place] == ':';
        }

        /** Goes over blanks to the next sign; END behind the text. */
        private int nextSign() {
            while (at < length && bytes[at] == ' ') {
                at++;
            }
            return at < length ? bytes[at] : END;
        }

        private boolean isDigit(int sign) {
            return sign >= '0' && sign <= '9';
        }

        private boolean isLetter(int sign) {
            return sign >= 'a' && sign <= 'z';
        }
    }
}
