import java.util.Random;

/** Runs of calls by chance, always the same ones, on the class and the model. */
public final class ModelRuns {
    private final Random chance;
    private final Pair pair;

    private ModelRuns(int seed) {
        chance = new Random(seed);
        pair = new Pair("run " + seed);
    }

    public static void main(String[] args) {
        int from = args.length > 0 ? Integer.parseInt(args[0]) : 0;
        int many = args.length > 1 ? Integer.parseInt(args[1]) : 90;
        for (int seed = from; seed < from + many; seed++) {
            new ModelRuns(seed).run(seed % 6);
        }
        if (args.length > 2) {
            Pair.ANSWERS.entrySet().stream().sorted(java.util.Map.Entry.comparingByKey()).forEach(e -> System.out.println(e.getKey() + " " + e.getValue()));
        }
        System.out.println(Pair.calls + " calls, " + Pair.wrong + " wrong");
        if (Pair.wrong != 0) {
            System.exit(1);
        }
    }

    private void run(int kind) {
        for (int i = 0; i < 8; i++) {
            randomInterval(i, kind);
        }
        while (pair.length() < 500) {
            switch (kind) {
                case 0 -> anyCall();
                case 1 -> scaleCall();
                case 2 -> textCall();
                case 3 -> greatCall();
                case 4 -> temperCall();
                default -> {
                    if (chance.nextInt(3) == 0) {
                        anyCall();
                    } else {
                        scaleCall();
                    }
                }
            }
        }
        pair.askAll();
        for (int i = 0; i < 9; i++) {
            pair.call("undo");
            for (int r = 0; r < 8; r++) {
                pair.call("exponent", r, 0);
                pair.call("exponent", r, 1);
                pair.call("nameOf", r);
                pair.call("namesBelow", r);
            }
            for (int s = 0; s < 4; s++) {
                pair.call("tones", s);
                pair.call("sizeOf", s, 0, true);
            }
            pair.call("meanImpurity");
            pair.call("moves");
        }
        pair.askAll();
    }

    private int in(int a, int b) {
        int c = chance.nextInt(20);
        return c == 0 ? a : c == 1 ? b : a + chance.nextInt(b - a + 1);
    }

    /** Mostly in the range, sometimes right beside it, or far off. */
    private int about(int a, int b) {
        int c = chance.nextInt(60);
        if (c < 2) {
            return c == 0 ? a - 1 : b + 1;
        }
        if (c == 2) {
            int[] far = {Integer.MIN_VALUE, Integer.MAX_VALUE, -1000000, 1000000, -2147483647, 65536};
            return far[chance.nextInt(far.length)];
        }
        return in(a, b);
    }

    private int reg() {
        return about(0, 7);
    }

    private int sca() {
        return about(0, 3);
    }

    private boolean coin() {
        return chance.nextBoolean();
    }

    private int smooth(int most) {
        int x = 1;
        int[] p = {2, 2, 2, 3, 3, 5, 7, 11, 13};
        for (int i = chance.nextInt(8); i > 0; i--) {
            int q = p[chance.nextInt(p.length)];
            if ((long) x * q <= most) {
                x *= q;
            }
        }
        return x;
    }

    private void randomInterval(int r, int kind) {
        switch (chance.nextInt(kind == 3 ? 8 : 5)) {
            case 0 -> pair.call("fraction", r, 3, 2);
            case 1 -> pair.call("parts", r, in(-30, 30), in(1, 31));
            case 2, 3 -> pair.call("fraction", r, smooth(1000), smooth(1000));
            case 4 -> {
                pair.call("fraction", r, smooth(100), smooth(100));
                pair.call("times", r, in(-4, 4), in(1, 12));
            }
            default -> pair.put(r, (r + 1) & 7, new int[] {1, 1, 2, 7, 60, 360}[chance.nextInt(6)],
                in(-5000, 5000), in(-3000, 3000), coin() ? 0 : in(-1500, 1500), coin() ? 0 : in(-40, 40), 0, coin() ? 0 : 1);
        }
    }

    private void anyCall() {
        switch (chance.nextInt(48)) {
            case 0, 1, 2 -> pair.call("fraction", reg(), chance.nextInt(10) == 0 ? about(1, 1000000) : smooth(1000000), chance.nextInt(10) == 0 ? about(1, 1000000) : smooth(1000000));
            case 3, 4 -> pair.call("parts", reg(), about(-1000, 1000), about(1, 360));
            case 5, 6 -> pair.call("sum", reg(), reg(), reg(), coin());
            case 7, 8 -> pair.call("times", reg(), chance.nextInt(4) == 0 ? about(-100, 100) : in(-3, 3), about(1, 24));
            case 9 -> pair.call("octavesOff", reg());
            case 10 -> pair.call("miss", reg(), about(1, 400), reg());
            case 11 -> pair.call("deviation", about(1, 24), reg(), reg());
            case 12 -> pair.call("giveName", reg(), about(0, 99));
            case 13 -> pair.call("undo");
            case 14 -> pair.call("exponent", reg(), about(0, 5));
            case 15 -> pair.call("root", reg());
            case 16 -> pair.call("compare", reg(), reg());
            case 17, 18 -> pair.call("cents", reg(), about(0, 9), about(0, 2));
            case 19 -> pair.call("tell", reg());
            case 20 -> pair.call("told");
            case 21, 22 -> pair.call("toldAt", about(0, 1), about(0, 2));
            case 23 -> pair.call("nameOf", reg());
            case 24 -> pair.call("namesBelow", reg());
            case 25, 26 -> pair.call("nearest", reg(), about(0, 9), coin() ? about(1, 2000) : about(1, 40));
            case 27, 28 -> pair.call("term", reg(), about(0, 15));
            case 29 -> pair.call("best", about(1, 10000), reg());
            case 30 -> pair.call("mapped", about(1, 1000), reg());
            case 31 -> pair.call("commas", about(0, 20), about(0, 10), reg(), coin() ? 0 : about(0, 100));
            case 32, 33 -> pair.call("chord", about(1, 255), reg());
            case 34 -> smallChord();
            case 35, 36 -> pair.call("beats", reg(), about(1, 10000), about(1, 100), about(1, 100));
            case 37, 38, 39 -> pair.call("string", reg(), about(1, 1000000));
            case 40 -> pair.call("rhythm", about(1, 30), about(0, 30));
            case 41 -> pair.call("unlike", about(1, 30), about(0, 30));
            case 42 -> pair.call("move", reg(), coin());
            case 43 -> pair.call("drift", about(0, 20), reg());
            case 44 -> pair.call("errors");
            case 45 -> pair.call("moves");
            default -> randomInterval(in(0, 7), 0);
        }
    }

    private void smallChord() {
        int chord = in(1, 255);
        for (int r = 0; r < 8; r++) {
            if ((chord >> r & 1) == 1) {
                pair.call("fraction", r, smooth(chance.nextInt(4) == 0 ? 1000000 : 12), smooth(12));
            }
        }
        for (int r = 0; r < 8; r++) {
            pair.call("chord", chord, r);
        }
    }

    private void longTune() {
        pair.call("fraction", 0, 3, 2);
        pair.call("fraction", 1, 5, 4);
        for (int i = 0; i < 62; i++) {
            pair.call("move", in(0, 1), coin());
        }
        pair.call("drift", 60, in(2, 7));
        pair.call("drift", in(0, 60), in(2, 7));
        pair.call("undo");
    }

    private void scaleCall() {
        switch (chance.nextInt(26)) {
            case 0, 1 -> pair.call("row", sca(), reg(), about(-50, 50), about(1, 40));
            case 2, 3, 4, 5, 6 -> pair.call("tone", sca(), reg(), chance.nextInt(4) != 0);
            case 7 -> pair.call("mode", sca(), about(0, 20));
            case 8 -> pair.call("block", sca(), reg(), reg());
            case 9, 10 -> pair.call("key", sca(), about(-200, 200), reg());
            case 11 -> pair.call("tones", sca());
            case 12 -> pair.call("stepOf", sca(), reg());
            case 13, 14 -> pair.call("sizeOf", sca(), about(0, 20), coin());
            case 15 -> pair.call("gapSorts", sca());
            case 16 -> pair.call("gapSort", sca(), about(0, 20));
            case 17 -> pair.call("symmetry", sca());
            case 18 -> pair.call("evenness", sca());
            case 19 -> pair.call("undo");
            case 20 -> smallBlock();
            case 21 -> evenScale();
            case 22 -> pair.call("errors");
            case 23 -> pair.call("giveName", reg(), about(0, 99));
            default -> randomInterval(in(0, 7), 0);
        }
    }

    private void smallBlock() {
        int a = in(0, 7);
        int b = (a + 1) % 8;
        pair.put(a, in(0, 7), 1, in(-9, 9), in(-6, 6), in(-6, 6));
        pair.put(b, (b + 1) % 8, 1, in(-9, 9), in(-6, 6), in(-6, 6));
        pair.call("block", in(0, 3), a, b);
    }

    private void evenScale() {
        int parts = in(1, 40);
        int r = in(0, 7);
        int s = in(0, 3);
        pair.call("parts", r, in(1, parts), parts);
        pair.call("row", s, r, in(-3, 3), parts);
        pair.call("symmetry", s);
    }

    private void greatCall() {
        if (chance.nextInt(3) != 0) {
            anyCall();
            return;
        }
        randomInterval(in(0, 7), 3);
    }

    private void textCall() {
        switch (chance.nextInt(10)) {
            case 0 -> randomInterval(in(0, 7), 0);
            case 1 -> pair.call("type", chance.nextLong());
            case 2 -> pair.call("type", coin() ? 0L : chance.nextLong() >>> in(0, 60) & 0x3f3f3f3f3f3f3f3fL);
            case 3 -> pair.call("undo");
            case 4 -> pair.call("clearText");
            case 5 -> {
                for (int i = in(1, 17); i > 0; i--) {
                    pair.call("type", 0x2072302b2b207230L);
                }
                pair.call("errorPlace");
            }
            default -> {
                pair.text(randomText());
                pair.call("errorPlace");
                pair.call("read", reg());
            }
        }
    }

    private String randomText() {
        String[] bits = {"octave", "fifth", "third", "comma", "r0", "r7", "r8", "r", "3:2", "5 : 4", "7:4", "81:80", "17:2", "34:17", "0:1", "1:0",
            "2", "12", "100", "101", "0", "007", "1234567", "999999", "1000000:3", "/2", "/ 24", "/25", "/0", "+", "-", "-", " ", "/", ":", "r1r2", "octaves", "A", "12r3"};
        StringBuilder s = new StringBuilder();
        if (chance.nextInt(4) == 0) {
            for (int i = in(0, 8); i > 0; i--) {
                s.append(bits[chance.nextInt(bits.length)]).append(coin() ? " " : "");
            }
        } else {
            s.append(coin() ? "" : "-");
            for (int i = in(1, 6); i > 0; i--) {
                if (coin()) {
                    s.append(in(0, 20)).append(coin() ? " " : "  ");
                }
                String[] atoms = {"octave", "fifth", "third", "comma", "r" + in(0, 7), "3:2", "5 : 4", smooth(200) + ":" + smooth(200), "r" + in(0, 7)};
                s.append(atoms[chance.nextInt(atoms.length)]);
                s.append(chance.nextInt(3) == 0 ? " / " + in(1, 24) : "");
                s.append(i > 1 ? coin() ? " + " : "-" : coin() ? "" : " ");
            }
        }
        if (chance.nextInt(6) == 0 && s.length() > 0) {
            s.setCharAt(chance.nextInt(s.length()), (char) in(1, 255));
        }
        return s.length() > 120 ? s.substring(0, 120) : s.toString();
    }

    private void temperCall() {
        switch (chance.nextInt(80) == 0 ? 16 : chance.nextInt(16)) {
            case 16 -> longTune();
            case 0, 1, 2 -> pair.call("temper", about(0, 11), coin() ? about(-24, 24) : in(-2, 6));
            case 3 -> pair.call("closes");
            case 4 -> pair.call("impurity", about(0, 11), about(0, 6));
            case 5 -> pair.call("pure", about(0, 11));
            case 6 -> pair.call("meanImpurity");
            case 7, 8, 9 -> pair.call("move", reg(), coin());
            case 10 -> pair.call("drift", about(0, 60), reg());
            case 11 -> pair.call("moves");
            case 12 -> {
                if (chance.nextInt(6) == 0) {
                    pair.call("endTune");
                }
            }
            case 13 -> pair.call("undo");
            default -> randomInterval(in(0, 7), 0);
        }
    }
}
