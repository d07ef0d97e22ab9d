/** What the tests have in common: they count what is wrong, and end with exit code 1 if anything is. */
final class Kit {
    static final Class<?> INDEX = IndexOutOfBoundsException.class;
    static final Class<?> ARGUMENT = IllegalArgumentException.class;
    static final Class<?> STATE = IllegalStateException.class;

    private static int checks = 0;
    private static int wrong = 0;
    private static String about = "";

    private Kit() {
    }

    interface Call {
        void run();
    }

    interface NumberedCall {
        void run(int number);
    }

    interface Question {
        void ask(int index, int what);
    }

    interface Action {
        void on(EstateSettlement x);
    }

    interface Source {
        EstateSettlement make();
    }

    /** Names the promise, and the sentence of the document, that the checks behind it are of. */
    static void about(String promise) {
        about = promise + " | ";
    }

    static void same(String what, long got, long due) {
        check(what, got == due, got, due);
    }

    static void yes(String what, boolean got) {
        check(what, got, got, true);
    }

    static void no(String what, boolean got) {
        check(what, !got, got, false);
    }

    /** Checks that the call throws an exception of just this class. */
    static void raises(String what, Class<?> due, Call call) {
        Class<?> got = raisedBy(call);
        check(what, got == due, got, due);
    }

    /** Checks that the call throws this exception for each of the numbers. */
    static void raisesForEach(String what, Class<?> due, NumberedCall call, int... numbers) {
        for (int number : numbers) {
            raises(what + " with " + number, due, () -> call.run(number));
        }
    }

    /** Checks that the call throws for -1, for a number as great as the count, and for what lies far out. */
    static void raisesOutside(String what, Class<?> due, int count, NumberedCall call) {
        raisesForEach(what, due, call, -1, count, Integer.MIN_VALUE, Integer.MAX_VALUE);
    }

    /** Checks what is asked of such a question: there are so many indexes and so many numbers for what. */
    static void asksForIndexAndWhat(String name, int indexes, int whats, Question question) {
        raisesOutside(name + " of an index", INDEX, indexes, index -> question.ask(index, 0));
        raisesOutside(name + " of both: the index first", INDEX, indexes, index -> question.ask(index, whats));
        raisesOutside(name + " of both: the index first", INDEX, indexes, index -> question.ask(index, -1));
        if (indexes > 0) {
            raisesOutside(name + " of what", ARGUMENT, whats, what -> question.ask(0, what));
            raisesOutside(name + " of what at the last index", ARGUMENT, whats, what -> question.ask(indexes - 1, what));
            same(name + " of the last ones", raisedBy(() -> question.ask(indexes - 1, whats - 1)) == null ? 1 : 0, 1);
        }
    }

    private static void check(String what, boolean right, Object got, Object due) {
        checks++;
        if (!right) {
            wrong++;
            if (wrong <= 50) {
                System.out.println(about + what + " answered " + got + ", due is " + due);
            }
        }
    }

    static Class<?> raisedBy(Call call) {
        try {
            call.run();
            return null;
        } catch (RuntimeException e) {
            return e.getClass();
        }
    }

    /** Appends a text, with spaces behind it until whole calls of append hold it. */
    static void type(EstateSettlement x, String text) {
        StringBuilder padded = new StringBuilder(text);
        while (padded.length() % 20 != 0) {
            padded.append(' ');
        }
        for (int at = 0; at < padded.length(); at += 20) {
            x.append(four(padded, at), four(padded, at + 4), four(padded, at + 8),
                    four(padded, at + 12), four(padded, at + 16));
        }
    }

    private static int four(CharSequence text, int at) {
        int bits = 0;
        for (int i = at; i < at + 4; i++) {
            bits = bits << 8 | text.charAt(i) & 255;
        }
        return bits;
    }

    static int parse(EstateSettlement x, String text) {
        type(x, text);
        return x.parse(text.length());
    }

    /** A new object with the estate of a text. */
    static EstateSettlement estate(String text) {
        EstateSettlement x = new EstateSettlement();
        same("parse of " + text, parse(x, text), 0);
        return x;
    }

    /** The parse error of this code is due at the first sign ^ of the text, which is no part of it. */
    static void fails(int code, String marked) {
        int position = marked.indexOf('^');
        String text = marked.substring(0, position) + marked.substring(position + 1);
        EstateSettlement x = new EstateSettlement();
        same("code of " + marked, parse(x, text), code);
        same("position of " + marked, x.errorPosition(), position);
        same("persons after " + marked, x.size(0), 0);
        same("assets after " + marked, x.size(1), 0);
    }

    static int find(EstateSettlement x, String name) {
        type(x, name);
        return x.find();
    }

    /** Everything that the questions of the face answer, as a text, to see what a call has changed. */
    static String pictureOf(EstateSettlement x) {
        StringBuilder picture = new StringBuilder();
        for (int what = 0; what <= 9; what++) {
            picture.append(x.size(what)).append(' ').append(x.account(what)).append(' ');
        }
        picture.append(x.heirs()).append(' ').append(x.leftOut()).append('\n');
        for (int person = 0; person < x.size(0); person++) {
            for (int what = 0; what <= 5; what++) {
                picture.append(x.person(person, what)).append(' ');
            }
            for (int what = 0; what <= 6; what++) {
                picture.append(x.step(person, what)).append(' ');
            }
            picture.append(x.isEmpty(person)).append(' ').append(x.given(person)).append('\n');
        }
        for (int asset = 0; asset < x.size(1); asset++) {
            picture.append(x.asset(asset, 0)).append(' ').append(x.asset(asset, 1)).append('\n');
        }
        for (int debt = 0; debt < x.size(2); debt++) {
            for (int what = 0; what <= 2; what++) {
                picture.append(x.debt(debt, what)).append(' ');
            }
        }
        for (int legacy = 0; legacy < x.size(4); legacy++) {
            for (int what = 0; what <= 3; what++) {
                picture.append(x.legacy(legacy, what)).append(' ');
            }
        }
        return picture.toString();
    }

    static void samePicture(String what, EstateSettlement x, String due) {
        check(what, pictureOf(x).equals(due), "another picture", "the same");
    }

    /**
     * Checks that two objects hold the same, also where no question reaches: what the buffer holds (as
     * far as find tells), what can be undone, and both slots. Neither object is of use afterwards.
     */
    static void sameInside(String what, EstateSettlement x, EstateSettlement y) {
        samePicture(what + ": the picture", x, pictureOf(y));
        same(what + ": find", x.find(), y.find());
        same(what + ": the buffer's length", x.append(0, 0, 0, 0, 0), y.append(0, 0, 0, 0, 0));
        int left = 0;
        while (left != EstateSettlement.NONE) {
            left = y.undo();
            same(what + ": undo", x.undo(), left);
            if (left != EstateSettlement.NONE) {
                samePicture(what + ": the picture with " + left + " left to undo", x, pictureOf(y));
            }
        }
        for (int n = 0; n < 2; n++) {
            int slot = n;
            Class<?> due = raisedBy(() -> y.restoreSnapshot(slot));
            raises(what + ": slot " + slot, due, () -> x.restoreSnapshot(slot));
            if (due == null) {
                samePicture(what + ": the picture of slot " + slot, x, pictureOf(y));
            }
        }
    }

    /** Checks that the call throws, and that the object holds then what it would without the call. */
    static void refuses(String what, Class<?> due, Source source, Action call) {
        EstateSettlement x = source.make();
        EstateSettlement y = source.make();
        raises(what, due, () -> call.on(x));
        same(what + ": errorPosition", x.errorPosition(), y.errorPosition());
        sameInside(what, x, y);
    }

    /** Checks that after the call an object holds what it would without the call. */
    static void leaves(String what, Source source, Action call) {
        EstateSettlement x = source.make();
        EstateSettlement y = source.make();
        call.on(x);
        same(what + ": errorPosition", x.errorPosition(), y.errorPosition());
        sameInside(what, x, y);
    }

    static void finish() {
        System.out.println(checks + " checks, " + wrong + " wrong");
        if (wrong != 0 || checks == 0) {
            System.exit(1);
        }
    }
}
