/** What the tests have in common: they count what is wrong, and end with exit code 1 if anything is. */
final class Kit {
    static final Class<?> INDEX = IndexOutOfBoundsException.class;
    static final Class<?> ARGUMENT = IllegalArgumentException.class;
    static final Class<?> STATE = IllegalStateException.class;

    private static int checks = 0;
    private static int wrong = 0;

    private Kit() {
    }

    interface Call {
        void run();
    }

    static void same(String what, long got, long due) {
        checks++;
        if (got != due) {
            wrong++;
            if (wrong <= 50) {
                System.out.println(what + " answered " + got + ", due is " + due);
            }
        }
    }

    static void yes(String what, boolean got) {
        same(what, got ? 1 : 0, 1);
    }

    static void no(String what, boolean got) {
        same(what, got ? 1 : 0, 0);
    }

    /** Checks that the call throws an exception of just this class. */
    static void raises(String what, Class<?> due, Call call) {
        checks++;
        Class<?> got = raisedBy(call);
        if (got != due) {
            wrong++;
            System.out.println(what + " threw " + got + ", due is " + due);
        }
    }

    static Class<?> raisedBy(Call call) {
        try {
            call.run();
            return null;
        } catch (RuntimeException e) {
            return e.getClass();
        }
    }

    /** Appends a text, with spaces behind it until whole calls of append hold it. */
    static void type(EstateSettlement x, String text) {
        StringBuilder padded = new StringBuilder(text);
        while (padded.length() % 20 != 0) {
            padded.append(' ');
        }
        for (int at = 0; at < padded.length(); at += 20) {
            x.append(four(padded, at), four(padded, at + 4), four(padded, at + 8),
                    four(padded, at + 12), four(padded, at + 16));
        }
    }

    private static int four(CharSequence text, int at) {
        int bits = 0;
        for (int i = at; i < at + 4; i++) {
            bits = bits << 8 | text.charAt(i) & 255;
        }
        return bits;
    }

    static int parse(EstateSettlement x, String text) {
        type(x, text);
        return x.parse(text.length());
    }

    /** A new object with the estate of a text. */
    static EstateSettlement estate(String text) {
        EstateSettlement x = new EstateSettlement();
        same("parse of " + text, parse(x, text), 0);
        return x;
    }

    static int find(EstateSettlement x, String name) {
        type(x, name);
        return x.find();
    }

    /** Everything that the questions of the face answer, as a text, to see what a call has changed. */
    static String pictureOf(EstateSettlement x) {
        StringBuilder picture = new StringBuilder();
        for (int what = 0; what <= 9; what++) {
            picture.append(x.size(what)).append(' ').append(x.account(what)).append(' ');
        }
        picture.append(x.heirs()).append(' ').append(x.leftOut()).append('\n');
        for (int person = 0; person < x.size(0); person++) {
            for (int what = 0; what <= 5; what++) {
                picture.append(x.person(person, what)).append(' ');
            }
            for (int what = 0; what <= 6; what++) {
                picture.append(x.step(person, what)).append(' ');
            }
            picture.append(x.isEmpty(person)).append(' ').append(x.given(person)).append('\n');
        }
        for (int asset = 0; asset < x.size(1); asset++) {
            picture.append(x.asset(asset, 0)).append(' ').append(x.asset(asset, 1)).append('\n');
        }
        for (int debt = 0; debt < x.size(2); debt++) {
            for (int what = 0; what <= 2; what++) {
                picture.append(x.debt(debt, what)).append(' ');
            }
        }
        for (int legacy = 0; legacy < x.size(4); legacy++) {
            for (int what = 0; what <= 3; what++) {
                picture.append(x.legacy(legacy, what)).append(' ');
            }
        }
        return picture.toString();
    }

    static void samePicture(String what, EstateSettlement x, String due) {
        yes(what + " leaves the picture", pictureOf(x).equals(due));
    }

    static void finish() {
        System.out.println(checks + " checks, " + wrong + " wrong");
        if (wrong != 0 || checks == 0) {
            System.exit(1);
        }
    }
}
