/** What the promise tests share: answers due, calls refused, and which promises were looked at. */
final class Check {
    interface Call {
        Object make();
    }

    static int wrong = 0;
    /** The promise, or the section below 0, that is looked at. */
    static int promise = 0;
    /** How many answers were looked at. */
    static int answers = 0;

    private Check() {
    }

    static void due(String what, Object got, Object want) {
        answers++;
        if (!String.valueOf(got).equals(String.valueOf(want))) {
            fault(what + " answered " + got + ", due is " + want);
        }
    }

    static void fault(String what) {
        wrong++;
        System.out.println((promise < 0 ? "section " : "promise ") + Math.abs(promise) + ": " + what);
    }

    /** The call must throw just this exception, and leave all that can be asked, and what an undo brings back. */
    static void refused(Tuninghouse x, String what, Class<? extends RuntimeException> due, Call call) {
        String before = all(x);
        Object got;
        try {
            got = call.make();
        } catch (RuntimeException e) {
            got = e.getClass();
            if (!e.getStackTrace()[0].getClassName().startsWith("Tuninghouse")) {
                fault(what + " threw from outside the class: " + e);
            }
        }
        due(what, got, due);
        due(what + " and then all that can be asked", all(x), before);
    }

    static void index(Tuninghouse x, String what, Call call) {
        refused(x, what, IndexOutOfBoundsException.class, call);
    }

    static void argument(Tuninghouse x, String what, Call call) {
        refused(x, what, IllegalArgumentException.class, call);
    }

    static void arithmetic(Tuninghouse x, String what, Call call) {
        refused(x, what, ArithmeticException.class, call);
    }

    static void state(Tuninghouse x, String what, Call call) {
        refused(x, what, IllegalStateException.class, call);
    }

    /** All that can be asked without a change, as one text. */
    static String all(Tuninghouse x) {
        StringBuilder s = new StringBuilder();
        for (int r = 0; r < 8; r++) {
            s.append(interval(x, r)).append(" named ").append(x.nameOf(r)).append(" above ").append(x.namesBelow(r)).append('\n');
        }
        for (int c = 0; c < 4; c++) {
            s.append(sizes(x, c)).append(" sorts ").append(x.gapSorts(c)).append(" turns ").append(x.symmetry(c)).append('\n');
        }
        for (int k = 0; k < 12; k++) {
            s.append(x.impurity(k, 6)).append(' ').append(x.pure(k)).append(' ');
        }
        s.append(x.closes()).append(' ').append(x.moves()).append(' ').append(x.type(0)).append(' ').append(x.errorPlace()).append('\n');
        for (int t = 0; t < x.told(); t++) {
            s.append(x.toldAt(t, 0)).append(' ').append(x.toldAt(t, 1)).append(' ').append(x.toldAt(t, 2)).append(' ');
        }
        return s.toString();
    }

    static String interval(Tuninghouse x, int register) {
        StringBuilder s = new StringBuilder();
        for (int p = 0; p < 6; p++) {
            s.append(x.exponent(register, p)).append(p < 5 ? " " : "");
        }
        return s.append("/").append(x.root(register)).toString();
    }

    static String sizes(Tuninghouse x, int scale) {
        StringBuilder s = new StringBuilder();
        for (int i = 0; i < x.tones(scale); i++) {
            s.append(i == 0 ? "" : " ").append(x.sizeOf(scale, i, false));
        }
        return s.toString();
    }

    static String gaps(Tuninghouse x, int scale) {
        StringBuilder s = new StringBuilder();
        for (int i = 0; i < x.tones(scale); i++) {
            s.append(i == 0 ? "" : " ").append(x.sizeOf(scale, i, true));
        }
        return s.toString();
    }

    static void put(Tuninghouse x, String text) {
        x.clearText();
        for (int i = 0; i < text.length(); i++) {
            x.type(text.charAt(i));
        }
    }
}
