/** Promises 19 to 21: what would be, while nothing changes. */
public final class WhatIfTest {
    private static final int NONE = EstateSettlement.NONE;
    private static final int MOST = 9999999;

    public static void main(String[] args) {
        givenIf();
        helper();
        tooMuch();
        tooMuchStepByStep();
        Kit.finish();
    }

    private static void givenIf() {
        Kit.about("promise 19");
        EstateSettlement x = Kit.estate("person s spouse;person a;person b under a;person c;asset 1000;legacy c 100;share 2 1;");
        x.setAge(0, 30);
        String before = Kit.pictureOf(x);
        Kit.same("a if c refused", x.givenIf(1, 3), 500);
        Kit.same("s if c refused", x.givenIf(0, 3), 500);
        Kit.same("b if a refused", x.givenIf(2, 1), 225);
        Kit.same("a if a refused", x.givenIf(1, 1), 0);
        Kit.same("a if b refused", x.givenIf(1, 2), 225);
        Kit.same("c if s refused", x.givenIf(3, 0), 550);
        Kit.samePicture("givenIf", x, before);
        Kit.same("givenIf is no change", x.undo(), 0);
        x.refuse(3, true);
        Kit.same("if one refused who does", x.givenIf(1, 3), 500);
        Kit.same("refusals add up", x.givenIf(2, 1), 500);
        x.setAccrue(false);
        Kit.same("no heir is left", x.givenIf(0, 1), 1000);
        Kit.raises("givenIf(4, 0)", Kit.INDEX, () -> x.givenIf(4, 0));
        Kit.raises("givenIf(0, 4)", Kit.INDEX, () -> x.givenIf(0, 4));
        Kit.raises("givenIf(-1, 0)", Kit.INDEX, () -> x.givenIf(-1, 0));
        Kit.raises("givenIf(0, -1)", Kit.INDEX, () -> x.givenIf(0, -1));
    }

    private static void helper() {
        Kit.about("promise 20");
        EstateSettlement x = Kit.estate("person a;person b;person c;person d under a;person e dead;person f under e;asset 1200;");
        String before = Kit.pictureOf(x);
        Kit.same("b and c and f help a alike: the first one", x.helper(0), 1);
        Kit.same("c helps b, a's line would take: c", x.helper(1), 2);
        Kit.same("only a helps d", x.helper(3), 0);
        Kit.same("nobody helps the dead", x.helper(4), NONE);
        Kit.samePicture("helper", x, before);
        Kit.same("helper is no change", x.undo(), NONE);
        x.refuse(1, true);
        Kit.same("who refuses already does not help", x.helper(0), 2);
        EstateSettlement y = Kit.estate("person a;person b;person c;person s spouse;asset 1000;share 4 3;legacy c 100;");
        // a has 75 now; 113 if b refused, 125 if c did, 300 if s did.
        Kit.same("the most counts, not the first", y.helper(0), 3);
        // s has 675 now; still so if a or b refused, 750 if c did.
        Kit.same("c's legacy helps s", y.helper(3), 2);
        EstateSettlement z = Kit.estate("person a;person b;");
        Kit.same("no more of nothing", z.helper(0), NONE);
        Kit.raises("helper(2)", Kit.INDEX, () -> z.helper(2));
        Kit.raises("helper(-1)", Kit.INDEX, () -> z.helper(-1));
    }

    private static void tooMuch() {
        Kit.about("promise 21");
        EstateSettlement x = Kit.estate("person a;person b;person c under b;asset 100;gift a 30;");
        String before = Kit.pictureOf(x);
        Kit.same("a", x.tooMuch(0), 71);
        Kit.same("b", x.tooMuch(1), 131);
        Kit.same("no heir", x.tooMuch(2), NONE);
        Kit.samePicture("tooMuch", x, before);
        Kit.same("tooMuch is no change", x.undo(), NONE);
        Kit.same("with one cent less it is still in account", x.addGift(0, 70), 0);
        Kit.same("a cent is too much then", x.tooMuch(0), 1);
        Kit.same("nobody is left out", x.leftOut(), 0);
        x.addGift(0, 1);
        Kit.same("a is left out", x.leftOut(), 1);
        Kit.same("left out already", x.tooMuch(0), NONE);
        Kit.raises("tooMuch(3)", Kit.INDEX, () -> x.tooMuch(3));
        Kit.raises("tooMuch(-1)", Kit.INDEX, () -> x.tooMuch(-1));
        Kit.same("the only heir", Kit.estate("person a;asset 5;").tooMuch(0), NONE);
        Kit.same("without a fund a cent is too much", Kit.estate("person a;person b;").tooMuch(1), 1);
        EstateSettlement y = Kit.estate("person a;person b;asset 9999998;");
        Kit.same("the greatest amount", y.tooMuch(0), MOST);
        y.setValue(0, MOST);
        Kit.same("more than the greatest amount", y.tooMuch(0), NONE);
        EstateSettlement z = Kit.estate("person a;person b;asset 50;gift a 1;gift a 1;gift a 1;gift a 1;"
                + "gift a 1;gift a 1;gift a 1;gift a 1;");
        Kit.same("8 gifts", z.tooMuch(0), 43);
        Kit.same("8 gifts to another", z.tooMuch(1), 59);
        EstateSettlement w = Kit.estate("person s spouse;person a;person b;");
        Kit.same("the spouse", w.tooMuch(0), NONE);
    }

    /** The answer is found by trying each amount in turn as a gift of the text. */
    private static void tooMuchStepByStep() {
        Kit.about("promise 21");
        String[] persons = {
            "person a;person b;person c;",
            "person d dead;person a under d;person b;person c under d;",
            "person d dead;person a;person b under d;person e dead;person c under e;person f under e;person g under e;",
        };
        String[] rests = {"asset 7;", "asset 20;gift b 9;gift c 4;", "asset 1;gift b 30;", "asset 31;gift a 5;gift b 17;gift c 16;"};
        for (String person : persons) {
            for (String rest : rests) {
                EstateSettlement x = Kit.estate(person + rest);
                int a = Kit.find(x, "a");
                int due = NONE;
                for (int amount = 1; amount <= 200 && due == NONE && (x.leftOut() >> a & 1) == 0; amount++) {
                    EstateSettlement y = Kit.estate(person + rest + "gift a " + amount + ";");
                    due = (y.leftOut() >> a & 1) == 1 ? amount : NONE;
                }
                Kit.same("tooMuch in " + person + rest, x.tooMuch(a), due);
            }
        }
    }
}
