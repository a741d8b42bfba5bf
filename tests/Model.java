import java.math.BigDecimal;
import java.math.BigInteger;
import java.math.MathContext;
import java.math.RoundingMode;
import java.util.ArrayDeque;
import java.util.ArrayList;
import java.util.Arrays;
import java.util.Comparator;
import java.util.HashMap;
import java.util.List;
import java.util.Map;
import java.util.NoSuchElementException;

/**
 * The document once more, written with the Java library, slowly and by other ways than the class:
 * long decimal logarithms, whole numbers without an end, and looking at everything one by one.
 */
public final class Model {
    private static final MathContext MC = new MathContext(220);
    private static final int[] P = {2, 3, 5, 7, 11, 13};
    private static final BigDecimal[] LOG = logs();

    record Iv(List<BigInteger> e, BigInteger root) {
        static Iv of(List<BigInteger> e, BigInteger root) {
            BigInteger g = root;
            for (BigInteger x : e) {
                g = g.gcd(x);
            }
            List<BigInteger> r = new ArrayList<>();
            for (BigInteger x : e) {
                r.add(x.divide(g));
            }
            return new Iv(List.copyOf(r), root.divide(g));
        }

        static Iv octaves(long many, long parts) {
            return of(List.of(BigInteger.valueOf(many), BigInteger.ZERO, BigInteger.ZERO, BigInteger.ZERO, BigInteger.ZERO, BigInteger.ZERO),
                BigInteger.valueOf(parts));
        }

        static Iv lattice(long b, long c) {
            return of(List.of(BigInteger.ZERO, BigInteger.valueOf(b), BigInteger.valueOf(c), BigInteger.ZERO, BigInteger.ZERO, BigInteger.ZERO),
                BigInteger.ONE);
        }

        Iv plus(Iv o) {
            List<BigInteger> r = new ArrayList<>();
            for (int i = 0; i < 6; i++) {
                r.add(e.get(i).multiply(o.root).add(o.e.get(i).multiply(root)));
            }
            return of(r, root.multiply(o.root));
        }

        Iv times(long k) {
            List<BigInteger> r = new ArrayList<>();
            for (BigInteger x : e) {
                r.add(x.multiply(BigInteger.valueOf(k)));
            }
            return of(r, root);
        }

        Iv over(long n) {
            return of(e, root.multiply(BigInteger.valueOf(n)));
        }

        Iv minus(Iv o) {
            return plus(o.times(-1));
        }

        boolean isPureOctaves() {
            for (int i = 1; i < 6; i++) {
                if (e.get(i).signum() != 0) {
                    return false;
                }
            }
            return true;
        }

        /** The size times the root; whole if it is of octaves alone. */
        BigDecimal form() {
            BigDecimal s = BigDecimal.ZERO;
            for (int i = 0; i < 6; i++) {
                s = s.add(new BigDecimal(e.get(i)).multiply(LOG[i]));
            }
            return s;
        }

        /** k times the size, rounded down. */
        BigInteger floor(BigInteger k) {
            if (isPureOctaves()) {
                BigInteger[] q = e.get(0).multiply(k).divideAndRemainder(root);
                return q[1].signum() < 0 ? q[0].subtract(BigInteger.ONE) : q[0];
            }
            return form().multiply(new BigDecimal(k)).divide(new BigDecimal(root), MC).setScale(0, RoundingMode.FLOOR).toBigInteger();
        }

        long floor(long k) {
            return floor(BigInteger.valueOf(k)).longValueExact();
        }

        /** k times the size, to the nearest whole number, a half upward. */
        long round(long k) {
            return this.times(k).plus(octaves(1, 2)).floor(1);
        }

        int sign() {
            return form().signum();
        }

        int compare(Iv o) {
            return equals(o) ? 0 : minus(o).sign();
        }

        Iv off() {
            return minus(octaves(floor(1), 1));
        }

        boolean kept() {
            for (BigInteger x : e) {
                if (x.abs().compareTo(BigInteger.valueOf(5000)) > 0) {
                    return false;
                }
            }
            return root.compareTo(BigInteger.valueOf(360)) <= 0;
        }

        boolean amountsTo(int most) {
            for (BigInteger x : e) {
                if (x.abs().compareTo(BigInteger.valueOf(most)) > 0) {
                    return false;
                }
            }
            return root.equals(BigInteger.ONE);
        }

        BigInteger part(int sign) {
            BigInteger r = BigInteger.ONE;
            for (int i = 0; i < 6; i++) {
                int x = e.get(i).intValueExact() * sign;
                if (x > 0) {
                    r = r.multiply(BigInteger.valueOf(P[i]).pow(x));
                }
            }
            return r;
        }
    }

    private static final class Mind {
        Iv[] reg = new Iv[8];
        List<List<Iv>> scales = new ArrayList<>();
        Map<Iv, Integer> names = new HashMap<>();
        int[] fifths = new int[12];
        List<Iv> tune = new ArrayList<>();

        Mind copy() {
            Mind m = new Mind();
            m.reg = reg.clone();
            for (List<Iv> s : scales) {
                m.scales.add(new ArrayList<>(s));
            }
            m.names = new HashMap<>(names);
            m.fifths = fifths.clone();
            m.tune = new ArrayList<>(tune);
            return m;
        }
    }

    private Mind mind = new Mind();
    private final ArrayDeque<Mind> past = new ArrayDeque<>();
    private final StringBuilder text = new StringBuilder();
    private BigInteger[] told = new BigInteger[0];

    public Model() {
        Arrays.fill(mind.reg, Iv.octaves(0, 1));
        for (int i = 0; i < 4; i++) {
            mind.scales.add(new ArrayList<>(List.of(Iv.octaves(0, 1))));
        }
    }

    private static BigDecimal[] logs() {
        BigDecimal[] r = new BigDecimal[6];
        MathContext c = new MathContext(420);
        BigDecimal two = BigDecimal.valueOf(2);
        for (int i = 0; i < 6; i++) {
            BigDecimal x = BigDecimal.valueOf(P[i]);
            BigInteger bits = BigInteger.ZERO;
            int whole = 0;
            while (x.compareTo(two) >= 0) {
                x = x.divide(two);
                whole++;
            }
            int many = 800;
            for (int k = 0; k < many; k++) {
                x = x.multiply(x, c);
                bits = bits.shiftLeft(1);
                if (x.compareTo(two) >= 0) {
                    x = x.divide(two, c);
                    bits = bits.add(BigInteger.ONE);
                }
            }
            r[i] = BigDecimal.valueOf(whole).add(new BigDecimal(bits).divide(new BigDecimal(BigInteger.ONE.shiftLeft(many)), MC));
        }
        return r;
    }

    private static void index(boolean isThere) {
        if (!isThere) {
            throw new IndexOutOfBoundsException();
        }
    }

    private static void range(int v, int a, int b) {
        if (v < a || v > b) {
            throw new IllegalArgumentException();
        }
    }

    private static void reg(int r) {
        index(r >= 0 && r <= 7);
    }

    private static void sca(int s) {
        index(s >= 0 && s <= 3);
    }

    private static Iv keep(Iv x) {
        if (x == null || !x.kept()) {
            throw new ArithmeticException();
        }
        return x;
    }

    private Mind change() {
        past.addLast(mind);
        if (past.size() > 8) {
            past.removeFirst();
        }
        mind = mind.copy();
        return mind;
    }

    private static Iv factor(long over, long under) {
        BigInteger g = BigInteger.valueOf(over).gcd(BigInteger.valueOf(under));
        long a = over / g.longValue();
        long b = under / g.longValue();
        long[] x = new long[6];
        for (int i = 0; i < 6; i++) {
            while (a % P[i] == 0) {
                a /= P[i];
                x[i]++;
            }
            while (b % P[i] == 0) {
                b /= P[i];
                x[i]--;
            }
        }
        if (a != 1 || b != 1) {
            return null;
        }
        List<BigInteger> e = new ArrayList<>();
        for (long v : x) {
            e.add(BigInteger.valueOf(v));
        }
        return Iv.of(e, BigInteger.ONE);
    }

    private static List<Iv> sorted(java.util.Collection<Iv> s) {
        List<Iv> r = new ArrayList<>(new java.util.HashSet<>(s));
        r.sort(Iv::compare);
        return r;
    }

    // registers

    public boolean fraction(int register, int over, int under) {
        reg(register);
        range(over, 1, 1000000);
        range(under, 1, 1000000);
        Iv x = keep(factor(over, under));
        change().reg[register] = x;
        return over > under;
    }

    public int parts(int register, int many, int parts) {
        reg(register);
        range(many, -1000, 1000);
        range(parts, 1, 360);
        Iv x = Iv.octaves(many, parts);
        change().reg[register] = x;
        return x.root.intValue();
    }

    public int sum(int into, int first, int second, boolean isLess) {
        reg(into);
        reg(first);
        reg(second);
        Iv x = keep(isLess ? mind.reg[first].minus(mind.reg[second]) : mind.reg[first].plus(mind.reg[second]));
        change().reg[into] = x;
        return x.root.intValue();
    }

    public int times(int register, int times, int parts) {
        reg(register);
        range(times, -100, 100);
        range(parts, 1, 24);
        Iv x = keep(mind.reg[register].times(times).over(parts));
        change().reg[register] = x;
        return x.root.intValue();
    }

    public int octavesOff(int register) {
        reg(register);
        Iv old = mind.reg[register];
        Iv x = keep(old.off());
        change().reg[register] = x;
        return (int) old.floor(1);
    }

    public int miss(int register, int many, int into) {
        reg(register);
        reg(into);
        range(many, 1, 400);
        Iv all = mind.reg[register].times(many);
        long off = all.round(1);
        Iv x = keep(all.minus(Iv.octaves(off, 1)));
        change().reg[into] = x;
        return (int) off;
    }

    public int deviation(int parts, int register, int into) {
        range(parts, 1, 24);
        reg(register);
        reg(into);
        long best = mind.reg[register].round(parts);
        Iv x = keep(Iv.octaves(best, parts).minus(mind.reg[register]));
        change().reg[into] = x;
        return (int) best;
    }

    public int read(int register) {
        reg(register);
        if (errorPlace() != -1) {
            throw new IllegalArgumentException();
        }
        Iv x = value();
        change().reg[register] = x;
        return x.root.intValue();
    }

    public int giveName(int register, int name) {
        reg(register);
        range(name, 0, 99);
        Integer old = change().names.put(mind.reg[register], name);
        return old == null ? -1 : old;
    }

    // scales

    public int row(int scale, int register, int from, int many) {
        sca(scale);
        reg(register);
        range(from, -50, 50);
        range(many, 1, 40);
        List<Iv> all = new ArrayList<>();
        for (int k = from; k < from + many; k++) {
            all.add(keep(mind.reg[register].times(k).off()));
        }
        change().scales.set(scale, sorted(all));
        return tones(scale);
    }

    public boolean tone(int scale, int register, boolean isIn) {
        sca(scale);
        reg(register);
        List<Iv> now = mind.scales.get(scale);
        Iv x = mind.reg[register].off();
        boolean was = now.contains(x);
        List<Iv> then = new ArrayList<>(now);
        then.remove(x);
        if (isIn) {
            then.add(x);
        }
        if (then.isEmpty() || then.size() > 40) {
            throw new IllegalStateException();
        }
        for (Iv t : then) {
            keep(t);
        }
        change().scales.set(scale, sorted(then));
        return was;
    }

    public int mode(int scale, int step) {
        sca(scale);
        List<Iv> now = mind.scales.get(scale);
        index(step >= 0 && step < now.size());
        List<Iv> then = new ArrayList<>();
        for (Iv t : now) {
            then.add(keep(t.minus(now.get(step)).off()));
        }
        change().scales.set(scale, sorted(then));
        return tones(scale);
    }

    public int block(int scale, int first, int second) {
        sca(scale);
        reg(first);
        reg(second);
        long[] q = new long[4];
        for (int i = 0; i < 2; i++) {
            Iv x = mind.reg[i == 0 ? first : second];
            if (!x.root.equals(BigInteger.ONE) || x.e.get(3).signum() != 0 || x.e.get(4).signum() != 0 || x.e.get(5).signum() != 0) {
                throw new ArithmeticException();
            }
            q[2 * i] = x.e.get(1).longValue();
            q[2 * i + 1] = x.e.get(2).longValue();
        }
        long d = q[0] * q[3] - q[2] * q[1];
        if (d == 0 || Math.abs(d) > 40) {
            throw new ArithmeticException();
        }
        // All that s and t can be are whole numbers divided by the determinant.
        List<Iv> all = new ArrayList<>();
        for (long s = 0; s < Math.abs(d); s++) {
            for (long t = 0; t < Math.abs(d); t++) {
                long b = s * q[0] + t * q[2];
                long c = s * q[1] + t * q[3];
                if (b % d == 0 && c % d == 0) {
                    all.add(keep(Iv.lattice(b / Math.abs(d), c / Math.abs(d)).off()));
                }
            }
        }
        change().scales.set(scale, sorted(all));
        return (int) d;
    }

    public int key(int scale, int key, int into) {
        sca(scale);
        reg(into);
        range(key, -200, 200);
        List<Iv> now = mind.scales.get(scale);
        int step = ((key % now.size()) + now.size()) % now.size();
        Iv x = keep(now.get(step).plus(Iv.octaves((key - step) / now.size(), 1)));
        change().reg[into] = x;
        return step;
    }

    // well temperament, tune

    public int temper(int fifth, int parts) {
        index(fifth >= 0 && fifth <= 11);
        range(parts, -24, 24);
        int old = mind.fifths[fifth];
        change().fifths[fifth] = parts;
        return old;
    }

    private static Iv sumOf(List<Iv> tune, int many) {
        Iv x = Iv.octaves(0, 1);
        for (int i = 0; i < many; i++) {
            x = x.plus(tune.get(i));
        }
        return x;
    }

    public int move(int register, boolean isDown) {
        reg(register);
        if (mind.tune.size() == 60) {
            throw new IllegalStateException();
        }
        List<Iv> then = new ArrayList<>(mind.tune);
        then.add(mind.reg[register].times(isDown ? -1 : 1));
        keep(sumOf(then, then.size()));
        change().tune = then;
        return then.size();
    }

    public int drift(int many, int into) {
        range(many, 0, Math.min(60, mind.tune.size()));
        reg(into);
        Iv x = sumOf(mind.tune, many);
        change().reg[into] = x;
        return (int) x.round(1);
    }

    public int endTune() {
        int old = mind.tune.size();
        change().tune.clear();
        return old;
    }

    public int undo() {
        if (past.isEmpty()) {
            throw new IllegalStateException();
        }
        mind = past.removeLast();
        return past.size();
    }

    // intervals

    public int exponent(int register, int prime) {
        reg(register);
        index(prime >= 0 && prime <= 5);
        return mind.reg[register].e.get(prime).intValue();
    }

    public int root(int register) {
        reg(register);
        return mind.reg[register].root.intValue();
    }

    public int compare(int first, int second) {
        reg(first);
        reg(second);
        return mind.reg[first].compare(mind.reg[second]);
    }

    public long cents(int register, int digits, int way) {
        reg(register);
        range(digits, 0, 9);
        range(way, 0, 2);
        return cents(mind.reg[register], digits, way);
    }

    private static long cents(Iv x, int digits, int way) {
        BigInteger unit = BigInteger.valueOf(1200).multiply(BigInteger.TEN.pow(digits));
        if (way == 0) {
            return x.floor(unit).longValueExact();
        }
        if (way == 1) {
            return x.times(-1).floor(unit).negate().longValueExact();
        }
        BigInteger twice = x.floor(unit.multiply(BigInteger.TWO));
        return Math.floorDiv(twice.longValueExact() + 1, 2L);
    }

    public boolean tell(int register) {
        reg(register);
        Iv x = mind.reg[register];
        if (!x.amountsTo(40)) {
            throw new ArithmeticException();
        }
        told = new BigInteger[] {x.part(1), x.part(-1)};
        return told[0].compareTo(told[1]) > 0;
    }

    public int told() {
        return told.length;
    }

    public int toldAt(int which, int what) {
        index(which >= 0 && which < told.length);
        range(what, 0, 2);
        BigInteger x = told[which];
        if (what == 0) {
            return x.toString().length();
        }
        return what == 1 ? x.bitLength() : x.mod(BigInteger.valueOf(1000003)).intValue();
    }

    public int nameOf(int register) {
        reg(register);
        return mind.names.getOrDefault(mind.reg[register], -1);
    }

    public int namesBelow(int register) {
        reg(register);
        int n = 0;
        for (Iv x : mind.names.keySet()) {
            n += x.compare(mind.reg[register]) < 0 ? 1 : 0;
        }
        return n;
    }

    // scales asked

    public int tones(int scale) {
        sca(scale);
        return mind.scales.get(scale).size();
    }

    public int stepOf(int scale, int register) {
        sca(scale);
        reg(register);
        Iv x = mind.reg[register].off();
        int less = 0;
        for (Iv t : mind.scales.get(scale)) {
            if (t.equals(x)) {
                return less;
            }
            less += t.compare(x) < 0 ? 1 : 0;
        }
        return -1 - less;
    }

    private Iv gap(int scale, int step) {
        List<Iv> now = mind.scales.get(scale);
        return step + 1 < now.size() ? now.get(step + 1).minus(now.get(step)) : now.get(0).plus(Iv.octaves(1, 1)).minus(now.get(step));
    }

    private List<Iv> gaps(int scale) {
        List<Iv> all = new ArrayList<>();
        for (int i = 0; i < tones(scale); i++) {
            all.add(gap(scale, i));
        }
        return all;
    }

    public int sizeOf(int scale, int step, boolean isGap) {
        sca(scale);
        index(step >= 0 && step < tones(scale));
        return (int) cents(isGap ? gap(scale, step) : mind.scales.get(scale).get(step), 0, 2);
    }

    public int gapSorts(int scale) {
        sca(scale);
        return sorted(gaps(scale)).size();
    }

    public int gapSort(int scale, int step) {
        sca(scale);
        index(step >= 0 && step < tones(scale));
        return sorted(gaps(scale)).indexOf(gap(scale, step));
    }

    public int symmetry(int scale) {
        sca(scale);
        List<Iv> now = mind.scales.get(scale);
        int n = 0;
        for (Iv s : now) {
            List<Iv> then = new ArrayList<>();
            for (Iv t : now) {
                then.add(t.minus(s).off());
            }
            n += sorted(then).equals(now) ? 1 : 0;
        }
        return n;
    }

    // rows, convergents

    public int nearest(int register, int index, int most) {
        reg(register);
        if (index < 0) {
            throw new IllegalArgumentException();
        }
        range(most, 1, 2000);
        Iv x = mind.reg[register];
        BigDecimal form = x.form();
        BigDecimal around = new BigDecimal(x.root);
        BigDecimal best = null;
        BigDecimal at = BigDecimal.ZERO;
        int found = 0;
        for (int n = 1; n <= most; n++) {
            at = at.add(form).remainder(around);
            BigDecimal amount = at.abs().min(around.subtract(at.abs()));
            if (best == null || amount.compareTo(best) < 0) {
                if (found == index) {
                    return n;
                }
                best = amount;
                found++;
            }
        }
        throw new NoSuchElementException();
    }

    public long term(int register, int index) {
        reg(register);
        range(index, 0, 15);
        Iv x = mind.reg[register];
        if (x.sign() <= 0) {
            throw new ArithmeticException();
        }
        BigInteger a = x.form().movePointRight(215).toBigInteger();
        BigInteger b = x.root.multiply(BigInteger.TEN.pow(215));
        BigInteger t = BigInteger.ZERO;
        for (int i = 0; i <= index; i++) {
            if (b.signum() == 0) {
                throw new NoSuchElementException();
            }
            t = a.divide(b);
            BigInteger rest = a.mod(b);
            a = b;
            b = rest;
        }
        if (t.compareTo(BigInteger.TEN.pow(18)) > 0) {
            throw new ArithmeticException();
        }
        return t.longValueExact();
    }

    public int best(int parts, int register) {
        range(parts, 1, 10000);
        reg(register);
        return (int) mind.reg[register].round(parts);
    }

    private static long mappedTo(Iv x, int parts) {
        long r = 0;
        for (int i = 0; i < 6; i++) {
            Iv prime = factor(P[i], 1);
            r += x.e.get(i).longValue() * prime.round(parts);
        }
        return r;
    }

    public int mapped(int parts, int register) {
        range(parts, 1, 1000);
        reg(register);
        if (!mind.reg[register].root.equals(BigInteger.ONE)) {
            throw new ArithmeticException();
        }
        return (int) mappedTo(mind.reg[register], parts);
    }

    public int commas(int three, int five, int register, int parts) {
        range(three, 0, 20);
        range(five, 0, 10);
        range(parts, 0, 100);
        reg(register);
        Iv bound = mind.reg[register];
        if (bound.compare(Iv.octaves(1, 1)) > 0) {
            throw new ArithmeticException();
        }
        int n = 0;
        for (int b = -three; b <= three; b++) {
            for (int c = -five; c <= five; c++) {
                Iv x = Iv.lattice(b, c).off();
                if (x.sign() > 0 && x.compare(bound) < 0 && (parts == 0 || mappedTo(x, parts) == 0)) {
                    n++;
                }
            }
        }
        return n;
    }

    // well temperament

    public boolean closes() {
        return Arrays.stream(mind.fifths).sum() == 24;
    }

    private Iv impure(int key) {
        Iv fifth = factor(3, 2);
        Iv comma = fifth.times(12).minus(Iv.octaves(7, 1));
        Iv x = Iv.octaves(-2, 1);
        for (int i = 0; i < 4; i++) {
            x = x.plus(fifth).minus(comma.times(mind.fifths[(key + i) % 12]).over(24));
        }
        x = x.minus(factor(5, 4));
        return x.sign() < 0 ? x.times(-1) : x;
    }

    public int impurity(int key, int digits) {
        index(key >= 0 && key <= 11);
        range(digits, 0, 6);
        return (int) cents(impure(key), digits, 2);
    }

    public int pure(int place) {
        index(place >= 0 && place <= 11);
        List<Integer> keys = new ArrayList<>(List.of(0, 1, 2, 3, 4, 5, 6, 7, 8, 9, 10, 11));
        Comparator<Integer> byPurity = (a, b) -> impure(a).compare(impure(b));
        keys.sort(byPurity.thenComparing(Comparator.naturalOrder()));
        return keys.get(place);
    }

    public int moves() {
        return mind.tune.size();
    }

    // chords and others

    public int chord(int chord, int register) {
        range(chord, 1, 255);
        index(register >= 0 && register <= 7 && (chord & 1 << register) != 0);
        BigInteger all = BigInteger.ONE;
        for (int r = 0; r < 8; r++) {
            if ((chord & 1 << r) != 0) {
                if (!mind.reg[r].amountsTo(100)) {
                    throw new ArithmeticException();
                }
                BigInteger under = mind.reg[r].part(-1);
                all = all.multiply(under).divide(all.gcd(under));
            }
        }
        BigInteger common = BigInteger.ZERO;
        for (int r = 0; r < 8; r++) {
            if ((chord & 1 << r) != 0) {
                common = common.gcd(all.multiply(mind.reg[r].part(1)).divide(mind.reg[r].part(-1)));
            }
        }
        BigInteger x = all.multiply(mind.reg[register].part(1)).divide(mind.reg[register].part(-1)).divide(common);
        if (x.compareTo(BigInteger.valueOf(Integer.MAX_VALUE)) > 0) {
            throw new ArithmeticException();
        }
        return x.intValueExact();
    }

    public boolean beats(int register, int swings, int n, int m) {
        reg(register);
        range(swings, 1, 10000);
        range(n, 1, 100);
        range(m, 1, 100);
        Iv x = mind.reg[register];
        if (!x.amountsTo(40)) {
            throw new ArithmeticException();
        }
        BigInteger over = x.part(1).multiply(BigInteger.valueOf(m)).subtract(x.part(-1).multiply(BigInteger.valueOf(n)))
            .abs().multiply(BigInteger.valueOf(swings));
        BigInteger under = x.part(-1);
        BigInteger g = over.gcd(under);
        told = new BigInteger[] {over.divide(g), under.divide(g)};
        return over.signum() == 0;
    }

    public int string(int register, int length) {
        reg(register);
        range(length, 1, 1000000);
        Iv x = mind.reg[register];
        int root = x.root.intValueExact();
        BigInteger most = BigInteger.valueOf(length).pow(root).multiply(x.part(-1));
        BigInteger over = x.part(1);
        int low = 0;
        int high = 1000000001;
        while (high - low > 1) {
            int mid = (low + high) >>> 1;
            if (BigInteger.valueOf(mid).pow(root).multiply(over).compareTo(most) <= 0) {
                low = mid;
            } else {
                high = mid;
            }
        }
        return low;
    }

    public int rhythm(int places, int beats) {
        range(places, 1, 30);
        range(beats, 0, places);
        int r = 0;
        for (int i = 0; i < places; i++) {
            r += Math.floorMod(i * beats, places) < beats ? 1 << i : 0;
        }
        return r;
    }

    public int unlike(int parts, int many) {
        range(parts, 1, 30);
        range(many, 0, parts);
        if (parts <= 14) {
            int n = 0;
            for (int set = 0; set < 1 << parts; set++) {
                int least = set;
                for (int k = 0, turned = set; k < parts; k++) {
                    turned = (turned >> 1) | ((turned & 1) << (parts - 1));
                    least = Math.min(least, turned);
                }
                n += Integer.bitCount(set) == many && least == set ? 1 : 0;
            }
            return n;
        }
        BigInteger sum = BigInteger.ZERO;
        for (int d = 1; d <= parts; d++) {
            if (parts % d == 0 && many % d == 0) {
                int phi = 0;
                for (int k = 1; k <= d; k++) {
                    phi += BigInteger.valueOf(k).gcd(BigInteger.valueOf(d)).equals(BigInteger.ONE) ? 1 : 0;
                }
                sum = sum.add(choose(parts / d, many / d).multiply(BigInteger.valueOf(phi)));
            }
        }
        return sum.divide(BigInteger.valueOf(parts)).intValueExact();
    }

    private static BigInteger choose(int n, int k) {
        return k == 0 || k == n ? BigInteger.ONE : choose(n - 1, k - 1).multiply(BigInteger.valueOf(n)).divide(BigInteger.valueOf(k));
    }

    // text

    public int type(long bytes) {
        StringBuilder more = new StringBuilder();
        for (int i = 7; i >= 0; i--) {
            int b = (int) (bytes >>> (8 * i)) & 255;
            if (b != 0) {
                more.append((char) b);
            }
        }
        if (text.length() + more.length() > 120) {
            throw new IllegalStateException();
        }
        text.append(more);
        return text.length();
    }

    public int clearText() {
        int old = text.length();
        text.setLength(0);
        return old;
    }

    private record Token(char kind, int place, String what) {
    }

    /** n a number, k a number beside a colon, w a word, r a register, and the signs. */
    private List<Token> tokens() {
        List<Token> all = new ArrayList<>();
        java.util.regex.Matcher m = java.util.regex.Pattern.compile("[0-9]+|[a-z]+|[^ ]", java.util.regex.Pattern.DOTALL).matcher(text);
        int from = 0;
        while (m.find(from)) {
            String s = m.group();
            from = m.end();
            if (s.equals("r") && from < text.length() && text.charAt(from) >= '0' && text.charAt(from) <= '7') {
                all.add(new Token('r', m.start(), text.substring(from, from + 1)));
                from++;
            } else if (Character.isDigit(s.charAt(0))) {
                boolean beside = text.substring(from).stripLeading().startsWith(":") && text.substring(from).replaceFirst("^ *", "").startsWith(":");
                all.add(new Token(beside ? 'k' : 'n', m.start(), s));
            } else if (s.charAt(0) >= 'a' && s.charAt(0) <= 'z') {
                all.add(new Token('w', m.start(), s));
            } else {
                all.add(new Token(s.charAt(0) < 128 && "+-/:".contains(s) ? s.charAt(0) : '?', m.start(), s));
            }
        }
        all.add(new Token('$', text.length(), ""));
        return all;
    }

    private static boolean number(Token t, int a, int b) {
        return (t.kind == 'n' || t.kind == 'k') && t.what.length() <= 6 && Integer.parseInt(t.what) >= a && Integer.parseInt(t.what) <= b;
    }

    private static final Map<String, Iv> WORDS = Map.of("octave", Iv.octaves(1, 1), "fifth", factor(3, 2), "third", factor(5, 4), "comma", factor(81, 80));

    /** Goes over the tokens; each one is fit or the error. The value is found along the way if asked. */
    private int walk(Iv[] into) {
        List<Token> all = tokens();
        int i = 0;
        Iv sum = Iv.octaves(0, 1);
        boolean less = false;
        if (all.get(i).kind == '-') {
            less = true;
            i++;
        }
        while (true) {
            long many = 1;
            if (all.get(i).kind == 'n') {
                if (!number(all.get(i), 0, 100)) {
                    return all.get(i).place;
                }
                many = Integer.parseInt(all.get(i).what);
                i++;
            }
            Iv atom = null;
            Token t = all.get(i);
            if (t.kind == 'k') {
                if (!number(t, 1, 999999)) {
                    return t.place;
                }
                i += 2;
                if (!number(all.get(i), 1, 999999)) {
                    return all.get(i).place;
                }
                atom = factor(Integer.parseInt(t.what), Integer.parseInt(all.get(i).what));
            } else if (t.kind == 'w' && WORDS.containsKey(t.what)) {
                atom = WORDS.get(t.what);
            } else if (t.kind == 'r') {
                atom = mind.reg[Integer.parseInt(t.what)];
            } else {
                return t.place;
            }
            i++;
            long parts = 1;
            if (all.get(i).kind == '/') {
                i++;
                if (!number(all.get(i), 1, 24)) {
                    return all.get(i).place;
                }
                parts = Integer.parseInt(all.get(i).what);
                i++;
            }
            if (into != null) {
                keep(atom);
                Iv term = keep(keep(atom.times(many)).over(parts));
                sum = keep(less ? sum.minus(term) : sum.plus(term));
                into[0] = sum;
            }
            Token next = all.get(i);
            if (next.kind == '$') {
                return -1;
            }
            if (next.kind != '+' && next.kind != '-') {
                return next.place;
            }
            less = next.kind == '-';
            i++;
        }
    }

    private Iv value() {
        Iv[] r = new Iv[1];
        walk(r);
        return r[0];
    }

    public int errorPlace() {
        return walk(null);
    }

    // measures

    public float evenness(int scale) {
        sca(scale);
        Map<Iv, Integer> n = new HashMap<>();
        int most = 0;
        for (Iv g : gaps(scale)) {
            most = Math.max(most, n.merge(g, 1, Integer::sum));
        }
        return (float) most / (float) tones(scale);
    }

    public double meanImpurity() {
        int sum = 0;
        for (int k = 0; k < 12; k++) {
            sum += impurity(k, 3);
        }
        return (double) sum / 12000.0;
    }

    public int errors() {
        return 0;
    }
}
