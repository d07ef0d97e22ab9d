/** Promises 1 to 7: a new object, the input buffer, what a text says, and the persons. */
public final class TextTest {
    private static final int NONE = EstateSettlement.NONE;

    public static void main(String[] args) {
        newObject();
        append();
        parse();
        tokens();
        optionalParts();
        names();
        nothingStays();
        sizes();
        largestText();
        find();
        person();
        Kit.finish();
    }

    private static void newObject() {
        Kit.about("promise 1");
        EstateSettlement x = new EstateSettlement();
        int[] sizes = {0, 0, 0, 0, 0, NONE, 1, 4, 0, 1};
        for (int what = 0; what <= 9; what++) {
            Kit.same("new: size " + what, x.size(what), sizes[what]);
            Kit.same("new: account " + what, x.account(what), 0);
        }
        Kit.same("new: heirs", x.heirs(), 0);
        Kit.same("new: leftOut", x.leftOut(), 0);
        Kit.same("new: errorPosition", x.errorPosition(), NONE);
        Kit.same("new: undo", x.undo(), NONE);
        Kit.yes("new: isBalanced", x.isBalanced());
        Kit.raises("new: the buffer is empty", Kit.ARGUMENT, () -> x.parse(1));
        Kit.same("new: parse(0)", x.parse(0), 0);
        for (int slot = 0; slot < 2; slot++) {
            int empty = slot;
            Kit.raises("new: slot " + slot, Kit.STATE, () -> x.restoreSnapshot(empty));
        }
        Kit.raises("new: no person", Kit.INDEX, () -> x.given(0));
        Kit.raises("new: no asset", Kit.INDEX, () -> x.asset(0, 0));
        Kit.raises("new: no debt", Kit.INDEX, () -> x.debt(0, 0));
        Kit.raises("new: no legacy", Kit.INDEX, () -> x.legacy(0, 0));
    }

    private static void append() {
        Kit.about("promise 2");
        EstateSettlement x = new EstateSettlement();
        // "life" " 7; " and spaces: the most significant byte comes first.
        Kit.same("append", x.append(0x6c696665, 0x20373b20, 0x20202020, 0x20202020, 0x20202020), 20);
        Kit.same("append again", x.append(-1, Integer.MIN_VALUE, 0, 1, Integer.MAX_VALUE), 40);
        Kit.same("parse what was appended", x.parse(20), 0);
        Kit.same("life", x.size(8), 7);
        for (int length = 20; length <= 700; length += 20) {
            Kit.same("append to " + length, x.append(0x20202020, 0x0a0a0a0a, 0, 0, 0), length);
        }
        Kit.same("append to a full buffer", x.append(0, 0, 0, 0, 0), NONE);
        Kit.same("append once more", x.append(0, 0, 0, 0, 0), NONE);
        Kit.raises("parse beyond a full buffer", Kit.ARGUMENT, () -> x.parse(701));
        Kit.same("parse finds a byte 0", x.parse(700), 1);
        Kit.same("its position", x.errorPosition(), 8);
        Kit.same("the buffer takes bytes again", x.append(0, 0, 0, 0, 0), 20);
    }

    private static void parse() {
        Kit.about("promises 3 and 4");
        EstateSettlement x = Kit.estate("person a;life 5;");
        Kit.raises("the buffer is empty after a success", Kit.ARGUMENT, () -> x.parse(1));
        Kit.type(x, "life 6;");
        Kit.raises("parse(-1)", Kit.ARGUMENT, () -> x.parse(-1));
        Kit.raises("parse(21)", Kit.ARGUMENT, () -> x.parse(21));
        Kit.raises("parse(MIN)", Kit.ARGUMENT, () -> x.parse(Integer.MIN_VALUE));
        Kit.raises("parse(MAX)", Kit.ARGUMENT, () -> x.parse(Integer.MAX_VALUE));
        Kit.same("size is as before", x.size(8), 5);
        Kit.same("the buffer was kept", x.parse(20), 0);
        Kit.same("the whole text counts anew", x.size(0), 0);
        Kit.same("life is set", x.size(8), 6);

        EstateSettlement y = Kit.estate("person a spouse;person b;asset 1000;share 2 1;life 50;accrue others;gift b 3;");
        y.refuse(1, true);
        y.saveSnapshot(1);
        String before = Kit.pictureOf(y);
        Kit.same("a parse error", Kit.parse(y, "person z dead;asset 7;share 3 3;life 9;accrue line;debt 1 x;"), 1);
        Kit.same("its position", y.errorPosition(), 58);
        Kit.samePicture("a parse error", y, before);
        Kit.raises("the buffer is empty after an error", Kit.ARGUMENT, () -> y.parse(1));
        Kit.raises("a parse that throws", Kit.ARGUMENT, () -> y.parse(-1));
        Kit.same("the position stays when parse throws", y.errorPosition(), 58);
        Kit.same("a parse error keeps the names", Kit.find(y, "b"), 1);
        Kit.same("a parse error keeps the snapshot", y.restoreSnapshot(1), 1000);
        y.refuse(1, false);
        Kit.same("a parse error", Kit.parse(y, "life"), 1);
        Kit.same("a parse error keeps the undo history", y.undo(), 0);
        y.refuse(1, false);
        y.saveSnapshot(0);
        Kit.same("a success", Kit.parse(y, "life 3;"), 0);
        Kit.same("no position after a success", y.errorPosition(), NONE);
        Kit.same("a success clears the history", y.undo(), NONE);
        Kit.raises("a success empties slot 0", Kit.STATE, () -> y.restoreSnapshot(0));
        Kit.raises("a success empties slot 1", Kit.STATE, () -> y.restoreSnapshot(1));
        Kit.no("saving anew finds no earlier one", y.saveSnapshot(1));
        Kit.same("share is the usual one again", y.size(7) * 10 + y.size(6), 41);
        Kit.same("accrue is line again", y.size(9), 1);
        Kit.same("the empty text", Kit.parse(y, ""), 0);
        Kit.same("life is 0 again", y.size(8), 0);
        Kit.same("a blank text", Kit.parse(y, " \n \n"), 0);
    }

    private static void tokens() {
        Kit.about("promise 3");
        EstateSettlement x = Kit.estate("\n person\n\na age\n20;asset 5charge 0000007 ;debt 1 2;gift a 0000003;life07;\n");
        Kit.same("age", x.person(0, 1), 20);
        Kit.same("asset", x.asset(0, 0), 5);
        Kit.same("gift", x.person(0, 5), 3);
        Kit.same("life", x.size(8), 7);
        EstateSettlement y = Kit.estate("person abcdefgh;person abcdefgi;person a;legacy abcdefgi 9999999;");
        Kit.same("a name of 8 letters", y.legacy(0, 0), 1);
        Kit.same("an amount of 7 digits", y.legacy(0, 1), 9999999);
        EstateSettlement z = new EstateSettlement();
        Kit.type(z, "life 9; and what stands behind the length is no text");
        Kit.same("only the first bytes count", z.parse(7), 0);
        Kit.same("life", z.size(8), 9);
    }

    private static void optionalParts() {
        Kit.about("promises 3 and 7");
        EstateSettlement x = Kit.estate("person a;person b under a;person c under b age 7;person d under c age 8 dead;"
                + "person e under d dead;person f age 0;person g age 120 dead;person h dead;person i age 9 spouse;");
        int[] parents = {NONE, 0, 1, 2, 3, NONE, NONE, NONE, NONE};
        int[] ages = {50, 50, 7, 8, 50, 0, 120, 50, 9};
        int dead = 0;
        for (int person = 0; person < 9; person++) {
            Kit.same("parent of " + person, x.person(person, 0), parents[person]);
            Kit.same("age of " + person, x.person(person, 1), ages[person]);
            dead |= x.person(person, 2) << person;
        }
        Kit.same("the dead", dead, 1 << 3 | 1 << 4 | 1 << 6 | 1 << 7);
        Kit.same("the spouse", x.size(5), 8);
        Kit.same("a spouse without an age", Kit.estate("person s spouse;").person(0, 1), 50);
        EstateSettlement y = Kit.estate("asset 200;asset 200 charge 0;asset 200 charge 100;asset 0;");
        Kit.same("no charge", y.asset(0, 1), 200);
        Kit.same("charge 0", y.asset(1, 1), 200);
        Kit.same("charge 100", y.asset(2, 1), 0);
        Kit.same("value 0", y.asset(3, 0), 0);
    }

    private static void names() {
        Kit.about("promises 3 and 6");
        EstateSettlement x = Kit.estate("person person;person under;person age under under;person dead dead;"
                + "person spouse spouse;person line age 3;gift dead 4;legacy spouse 5;");
        Kit.same("a person named age is under one named under", x.person(2, 0), 1);
        Kit.same("the spouse is named spouse", x.size(5), 4);
        Kit.same("a gift to one named dead", x.person(3, 5), 4);
        Kit.same("a legacy to one named spouse", x.legacy(0, 0), 4);
        Kit.same("find line", Kit.find(x, "line"), 5);
        String[] alike = {"ab", "ba", "aaa", "a", "aa", "zzzzzzzz", "azzzzzzz", "zzzzzzz", "aaaaaaaa", "y", "z", "za"};
        StringBuilder text = new StringBuilder();
        for (String name : alike) {
            text.append("person ").append(name).append(";");
        }
        EstateSettlement y = Kit.estate(text.toString());
        for (int person = 0; person < alike.length; person++) {
            Kit.same("find " + alike[person], Kit.find(y, alike[person]), person);
        }
        Kit.same("find yz", Kit.find(y, "yz"), NONE);
    }

    private static void nothingStays() {
        Kit.about("promise 3");
        EstateSettlement x = Kit.estate("person a dead;person s age 9 spouse;asset 100 charge 50;debt 1 9;gift a 5;"
                + "legacy s 6;share 2 1;life 7;accrue others;");
        x.refuse(1, true);
        Kit.same("a shorter text", Kit.parse(x, "person b;person c;"), 0);
        int[] due = {2, 0, 0, 0, 0, NONE, 1, 4, 0, 1};
        for (int what = 0; what <= 9; what++) {
            Kit.same("size " + what + " of the shorter text", x.size(what), due[what]);
            Kit.same("account " + what + " of the shorter text", x.account(what), 0);
        }
        for (int person = 0; person < 2; person++) {
            int[] usual = {NONE, 50, 0, 0, 0, 0};
            for (int what = 0; what <= 5; what++) {
                Kit.same("person " + person + " " + what, x.person(person, what), usual[what]);
            }
        }
        Kit.same("a text without a fault after one with a fault", Kit.parse(x, "share 3 2;life 5;accrue x;"), 1);
        Kit.same("each can occur again", Kit.parse(x, "person a spouse;share 1 0;life 0;accrue line;gift a 0;legacy a 0;debt 1 0;"), 0);
    }

    private static void sizes() {
        Kit.about("promise 5");
        EstateSettlement x = Kit.estate("person a;person b spouse;person c;asset 1;asset 2;asset 3;asset 4;debt 1 1;"
                + "debt 5 2;gift a 1;legacy b 1;legacy a 1;legacy b 3;legacy c 1;legacy c 2;share 99 98;life 100;accrue others;");
        int[] due = {3, 4, 2, 1, 5, 1, 98, 99, 100, 0};
        for (int what = 0; what <= 9; what++) {
            Kit.same("size " + what, x.size(what), due[what]);
        }
        Kit.raises("size(-1)", Kit.ARGUMENT, () -> x.size(-1));
        Kit.raises("size(10)", Kit.ARGUMENT, () -> x.size(10));
        x.die(1);
        Kit.same("a dead spouse is the spouse", x.size(5), 1);
        Kit.same("accrue line", Kit.estate("accrue line;").size(9), 1);
        Kit.same("share 99 99", Kit.estate("share 99 99;").size(6), 99);
        Kit.same("share 1 0", Kit.estate("share 1 0;").size(6), 0);
    }

    private static void largestText() {
        Kit.about("promise 3");
        StringBuilder text = new StringBuilder();
        for (char name = 'a'; name <= 'l'; name++) {
            text.append("person ").append(name).append(';');
        }
        for (int i = 0; i < 8; i++) {
            text.append("asset 1;debt 1 1;gift a 1;legacy l 1;");
        }
        while (text.length() < 700) {
            text.append('\n');
        }
        EstateSettlement x = Kit.estate(text.toString());
        int[] due = {12, 8, 8, 8, 8};
        for (int what = 0; what < due.length; what++) {
            Kit.same("the largest text: size " + what, x.size(what), due[what]);
        }
    }

    private static void find() {
        Kit.about("promise 6");
        EstateSettlement x = Kit.estate("person ann;person an;person abcdefgh;");
        Kit.same("find ann", Kit.find(x, "ann"), 0);
        Kit.same("find an", Kit.find(x, "an"), 1);
        Kit.same("find eight letters", Kit.find(x, "abcdefgh"), 2);
        Kit.same("find nine letters", Kit.find(x, "abcdefghi"), NONE);
        Kit.same("find the first of a name", Kit.find(x, "a"), NONE);
        Kit.same("find an unknown name", Kit.find(x, "bob"), NONE);
        Kit.raises("the buffer is empty then", Kit.ARGUMENT, () -> x.parse(1));
        Kit.same("find in the empty buffer", x.find(), NONE);
        Kit.same("find among spaces", Kit.find(x, "        "), NONE);
        Kit.same("find behind a space", Kit.find(x, " ann"), NONE);
        Kit.same("find with a second word", Kit.find(x, "ann ann"), NONE);
        Kit.same("find with a line feed", Kit.find(x, "ann\n"), NONE);
        Kit.same("find with a semicolon", Kit.find(x, "ann;"), NONE);
        Kit.same("find with a digit", Kit.find(x, "ann1"), NONE);
        Kit.same("find with a byte 0", Kit.find(x, "ann\0"), NONE);
        Kit.same("find capitals", Kit.find(x, "Ann"), NONE);
        Kit.same("find with many spaces", Kit.find(x, "an" + " ".repeat(58)), 1);
        Kit.same("find with a full buffer", Kit.find(x, "an" + " ".repeat(698)), 1);
        Kit.same("find with a far letter", Kit.find(x, "an" + " ".repeat(697) + "x"), NONE);
        Kit.type(x, "an");
        Kit.raises("a throwing parse keeps the name", Kit.ARGUMENT, () -> x.parse(99));
        Kit.same("find it", x.find(), 1);
        Kit.parse(x, "person bob;");
        Kit.same("an earlier estate's name", Kit.find(x, "ann"), NONE);
        Kit.same("the new name", Kit.find(x, "bob"), 0);
    }

    private static void person() {
        Kit.about("promise 7");
        EstateSettlement x = Kit.estate("person s spouse age 61;".replace("spouse age 61", "age 61 spouse")
                + "person a;person b under a;person c under a dead;person d under b;gift a 5;gift d 7;gift a 9999999;gift s 1;");
        int[][] due = {{NONE, 61, 0, 0, 0, 1}, {NONE, 50, 0, 0, 2, 10000004}, {1, 50, 0, 0, 1, 0},
            {1, 50, 1, 0, 0, 0}, {2, 50, 0, 0, 0, 7}};
        for (int person = 0; person < due.length; person++) {
            for (int what = 0; what <= 5; what++) {
                Kit.same("person " + person + " " + what, x.person(person, what), due[person][what]);
            }
        }
        x.refuse(3, true);
        Kit.same("a dead one refuses", x.person(3, 3), 1);
        Kit.same("another does not", x.person(2, 3), 0);
        Kit.raises("person(-1, 0)", Kit.INDEX, () -> x.person(-1, 0));
        Kit.raises("person(5, 0)", Kit.INDEX, () -> x.person(5, 0));
        Kit.raises("person(5, 6): the person first", Kit.INDEX, () -> x.person(5, 6));
        Kit.raises("person(4, 6)", Kit.ARGUMENT, () -> x.person(4, 6));
        Kit.raises("person(4, -1)", Kit.ARGUMENT, () -> x.person(4, -1));
    }
}
