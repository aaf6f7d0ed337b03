/** What the tests share: counting, comparing answers, and looking for the exception due. */
final class Due {
    interface Call {
        Object run();
    }

    /** Where the test stands, if it tells that: it goes ahead of each wrong answer. */
    static String place = "";

    private static int right = 0;
    private static int wrong = 0;

    private Due() {
    }

    static void is(String what, long got, long want) {
        note(got == want, what + " answered " + got + ", due is " + want);
    }

    static void is(String what, double got, double want) {
        note(Double.compare(got, want) == 0, what + " answered " + got + ", due is " + want);
    }

    static void isTrue(String what, boolean got) {
        note(got, what);
    }

    static void same(String what, String got, String want) {
        note(got.equals(want), what + " answered " + got + ", due is " + want);
    }

    /** How many answers have been compared. */
    static int answers() {
        return right + wrong;
    }

    /** The call throws exactly this exception, and the digest tells that nothing changed. */
    static void refused(HexBroadsides x, String what, Class<?> kind, Call call) {
        long before = x.digest();
        String got = "nothing";
        try {
            call.run();
        } catch (RuntimeException e) {
            got = e.getClass().getName();
        }
        note(got.equals(kind.getName()), what + " threw " + got + ", due is " + kind.getName());
        note(x.digest() == before, what + " threw and changed something");
    }

    /** The exception's simple name behind "throws.", or the answer as a text. */
    static String answerOf(Call call) {
        try {
            return String.valueOf(call.run());
        } catch (RuntimeException e) {
            return "throws." + e.getClass().getSimpleName();
        }
    }

    static void note(boolean good, String message) {
        if (good) {
            right++;
        } else {
            wrong++;
            System.out.println("  wrong: " + (place.isEmpty() ? "" : "[" + place + "] ") + message);
        }
    }

    static void append(HexBroadsides x, String orders) {
        for (int i = 0; i < orders.length(); i++) {
            x.append(orders.charAt(i));
        }
    }

    /** Empties the text, writes these orders and carries them out. */
    static int order(HexBroadsides x, String orders) {
        x.clearText();
        append(x, orders);
        return x.carryOut();
    }

    /** Every answer of the questions about a state, the text and the saved states left out. */
    static String portrait(HexBroadsides x) {
        StringBuilder all = new StringBuilder();
        for (int what = 0; what <= 9; what++) {
            all.append(x.value(what)).append(' ');
        }
        int ships = x.value(5);
        for (int i = 0; i < ships; i++) {
            for (int what = 0; what <= 14; what++) {
                all.append(x.ship(i, what)).append(' ');
            }
            all.append(x.reach(i)).append(' ');
        }
        int cells = x.value(0) * x.value(1);
        for (int cell = 0; cell < cells; cell++) {
            all.append(x.at(cell)).append(' ');
        }
        return all.toString();
    }

    static void finish(String name) {
        System.out.println(name + ": " + right + " right, " + wrong + " wrong");
        if (wrong != 0) {
            System.exit(1);
        }
    }
}
