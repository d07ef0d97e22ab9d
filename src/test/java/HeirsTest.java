/** Promises 13 to 18: heirs, lines, steps, what each is given, and that it adds up. */
public final class HeirsTest {
    private static final int NONE = EstateSettlement.NONE;

    public static void main(String[] args) {
        lines();
        accrual();
        deadWhoRefuses();
        weights();
        emptyLines();
        gifts();
        leftOutOneByOne();
        centsLeftOver();
        giftsThatDoNotCount();
        fundOfNothing();
        steps();
        given();
        Kit.finish();
    }

    private static void lines() {
        Kit.about("promises 13 and 15 to 17");
        EstateSettlement x = Kit.estate("person s spouse;person a;person b under a;person c dead;person d under c;"
                + "person e under c dead;person f under e;person g under e;person h under f;asset 1200;share 4 0;");
        Kit.same("heirs", x.heirs(), 1 << 1 | 1 << 4 | 1 << 6 | 1 << 7);
        int[] divisors = {NONE, 2, NONE, NONE, 4, NONE, 8, 8, NONE};
        int[] weights = {NONE, 4, NONE, NONE, 2, NONE, 1, 1, NONE};
        int[] given = {0, 600, 0, 0, 300, 0, 150, 150, 0};
        for (int person = 0; person < 9; person++) {
            Kit.same("divisor of " + person, x.step(person, 0), divisors[person]);
            Kit.same("weight of " + person, x.step(person, 1), weights[person]);
            Kit.same("given to " + person, x.given(person), given[person]);
            Kit.same("empty line of " + person, x.isEmpty(person) ? 1 : 0, person == 0 ? 1 : 0);
        }
        Kit.raises("isEmpty(9)", Kit.INDEX, () -> x.isEmpty(9));
        Kit.raises("isEmpty(-1)", Kit.INDEX, () -> x.isEmpty(-1));
        x.die(1);
        Kit.same("a child follows", x.heirs(), 1 << 2 | 1 << 4 | 1 << 6 | 1 << 7);
        x.die(4);
        Kit.same("divisors when a line is empty", x.step(6, 0), 4);
        x.die(2);
        Kit.same("one line is left", x.step(7, 0), 2);
        Kit.yes("the line of a is empty", x.isEmpty(1));
        Kit.no("the line of c is not", x.isEmpty(3));
    }

    private static void accrual() {
        Kit.about("promises 13 and 15");
        EstateSettlement x = Kit.estate("person a;person b under a;person c under a;person d;asset 900;");
        x.refuse(0, true);
        Kit.same("accrue line", x.heirs(), 0b1110);
        Kit.same("divisor below the one who refuses", x.step(1, 0), 4);
        x.setAccrue(false);
        Kit.same("accrue others", x.heirs(), 0b1000);
        Kit.yes("a's line is empty then", x.isEmpty(0));
        Kit.no("b's line is not", x.isEmpty(1));
        Kit.same("d has all", x.given(3), 900);
        x.refuse(0, false);
        x.refuse(1, true);
        Kit.same("who refuses below an heir alters nothing", x.heirs(), 0b1001);
    }

    private static void deadWhoRefuses() {
        Kit.about("promise 13");
        EstateSettlement x = Kit.estate("person a dead;person b under a;person c;asset 100;accrue others;");
        x.refuse(0, true);
        Kit.same("the dead pass on even if they refuse", x.heirs(), 0b110);
        x.refuse(1, true);
        Kit.same("but not through one alive who refuses", x.heirs(), 0b100);
    }

    private static void weights() {
        Kit.about("promise 16");
        // Divisors 4, 4, 6, 6, 6 below two lines; M is 12.
        EstateSettlement x = Kit.estate("person a dead;person b dead;person c under a;person d under b;person e under b;"
                + "person f under a;person g under b;asset 1200;");
        int[] divisors = {NONE, NONE, 4, 6, 6, 4, 6};
        int[] weights = {NONE, NONE, 3, 2, 2, 3, 2};
        int[] gets = {NONE, NONE, 300, 200, 200, 300, 200};
        for (int person = 0; person < 7; person++) {
            Kit.same("divisor of " + person, x.step(person, 0), divisors[person]);
            Kit.same("weight of " + person, x.step(person, 1), weights[person]);
            Kit.same("from the fund to " + person, x.step(person, 6), gets[person]);
        }
        EstateSettlement y = Kit.estate("person a dead;person b dead;person c dead;person d under a;person e under a;"
                + "person f under b;person g under b;person h under b;person i under c;person j under c;person k under c;"
                + "person l under c;asset 3600;");
        int[] thirds = {NONE, NONE, NONE, 6, 6, 9, 9, 9, 12, 12, 12, 12};
        for (int person = 0; person < 12; person++) {
            Kit.same("divisor of " + person, y.step(person, 0), thirds[person]);
            Kit.same("weight of " + person, y.step(person, 1), person < 3 ? NONE : 36 / thirds[person]);
        }
    }

    private static void emptyLines() {
        Kit.about("promises 13 to 16");
        EstateSettlement x = Kit.estate("person a dead;person b dead;person c under b dead;person d;asset 10;");
        Kit.same("heirs", x.heirs(), 0b1000);
        Kit.same("empty lines do not divide", x.step(3, 0), 1);
        Kit.yes("an empty line", x.isEmpty(1));
        x.die(3);
        Kit.same("no heirs", x.heirs(), 0);
        Kit.same("left out of nothing", x.leftOut(), 0);
    }

    private static void gifts() {
        Kit.about("promises 14 and 16");
        // Fund 900, gifts 300 and 0 and 60: pot 1260, due 420 each.
        EstateSettlement x = Kit.estate("person a;person b;person c;gift a 100;gift c 60;gift a 200;asset 900;");
        Kit.same("nobody is left out", x.leftOut(), 0);
        int[] gifts = {300, 0, 60};
        for (int person = 0; person < 3; person++) {
            Kit.same("gift", x.step(person, 2), gifts[person]);
            Kit.same("pot", x.step(person, 3), 1260);
            Kit.same("due", x.step(person, 4), 420);
            Kit.same("cent", x.step(person, 5), 0);
            Kit.same("gets", x.step(person, 6), 420 - gifts[person]);
            Kit.same("given", x.given(person), 420 - gifts[person]);
        }
        EstateSettlement y = Kit.estate("person a;person b;gift a 100;asset 100;");
        Kit.same("a gift that equals the due", y.leftOut(), 0);
        Kit.same("brings nothing more", y.step(0, 6), 0);
        Kit.same("to the other all", y.step(1, 6), 100);
        EstateSettlement z = Kit.estate("person a;person b;gift a 101;asset 100;");
        Kit.same("a gift above the due", z.leftOut(), 1);
        Kit.same("the pot without it", z.step(1, 3), 100);
        int[] steps = {2, 1, 101, NONE, NONE, NONE, 0};
        for (int what = 0; what <= 6; what++) {
            Kit.same("step " + what + " of one who is left out", z.step(0, what), steps[what]);
        }
    }

    private static void leftOutOneByOne() {
        Kit.about("promise 14");
        // Pot 100 + 500 + 90 + 0: due 230, a is left out; pot 190: due 95, b stays.
        EstateSettlement x = Kit.estate("person a;person b;person c;gift a 500;gift b 90;asset 100;");
        Kit.same("only a is left out", x.leftOut(), 1);
        Kit.same("b's part", x.step(1, 6), 5);
        Kit.same("c's part", x.step(2, 6), 95);
        // Pot 600: due 200, a is left out; pot 300: due 150, then b is left out too.
        EstateSettlement y = Kit.estate("person a;person b;person c;gift a 300;gift b 199;asset 101;");
        Kit.same("a and then b are left out", y.leftOut(), 0b011);
        Kit.same("the pot is the fund", y.step(2, 3), 101);
        Kit.same("c has all", y.step(2, 6), 101);
        // Due 75 and 75 and 150: a and b are both above, and both go.
        EstateSettlement z = Kit.estate("person d dead;person a under d;person b under d;person c;gift a 100;gift b 100;asset 100;");
        Kit.same("equal ones both are left out", z.leftOut(), 0b0110);
        Kit.same("c has all", z.step(3, 6), 100);
        Kit.same("the only heir is never left out", Kit.estate("person a;gift a 9999999;").leftOut(), 0);
    }

    private static void centsLeftOver() {
        Kit.about("promise 16");
        EstateSettlement x = Kit.estate("person a;person b;person c;asset 101;");
        int[][] due = {{33, 1, 34}, {33, 1, 34}, {33, 0, 33}};
        for (int person = 0; person < 3; person++) {
            for (int what = 4; what <= 6; what++) {
                Kit.same("step " + person + " " + what, x.step(person, what), due[person][what - 4]);
            }
        }
        // Weights 1, 1 and 2 of a pot of 103: 25, 25, 51 and two cents for the first ones.
        EstateSettlement y = Kit.estate("person d dead;person a under d;person b under d;person c;gift b 3;asset 100;");
        Kit.same("a", y.step(1, 6), 26);
        Kit.same("b", y.step(2, 6), 23);
        Kit.same("c", y.step(3, 6), 51);
        Kit.same("b's cent", y.step(2, 5), 1);
        Kit.same("c's cent", y.step(3, 5), 0);
        // The cent of a split does not go to one who is left out: pot 101 for b and c.
        EstateSettlement z = Kit.estate("person a;person b;person c;gift a 900;asset 101;");
        Kit.same("b has the cent", z.step(1, 6), 51);
        Kit.same("c has none", z.step(2, 6), 50);
    }

    private static void giftsThatDoNotCount() {
        Kit.about("promises 14 and 16");
        EstateSettlement x = Kit.estate("person s spouse;person a;person b under a;person c dead;person d;"
                + "gift s 500;gift b 500;gift c 500;gift d 10;asset 100;share 2 1;");
        Kit.same("the pot", x.step(1, 3), 60);
        Kit.same("a", x.step(1, 6), 30);
        Kit.same("d", x.step(4, 6), 20);
        Kit.same("the gift of no heir", x.step(2, 2), NONE);
    }

    private static void fundOfNothing() {
        Kit.about("promises 14 and 16");
        EstateSettlement x = Kit.estate("person a;person b;gift a 1;gift b 2;");
        Kit.same("b is left out", x.leftOut(), 0b10);
        Kit.same("a's pot is its gift", x.step(0, 3), 1);
        Kit.same("a gets nothing", x.step(0, 6), 0);
        EstateSettlement y = Kit.estate("person a;person b;");
        Kit.same("nobody is left out", y.leftOut(), 0);
        Kit.same("pot 0", y.step(0, 3), 0);
        Kit.same("due 0", y.step(0, 4), 0);
        Kit.same("no cent", y.step(0, 5), 0);
    }

    private static void steps() {
        Kit.about("promise 16");
        EstateSettlement x = Kit.estate("person a;person s spouse;asset 10;");
        for (int what = 0; what <= 6; what++) {
            Kit.same("step " + what + " of the spouse", x.step(1, what), NONE);
        }
        Kit.raises("step(2, 0)", Kit.INDEX, () -> x.step(2, 0));
        Kit.raises("step(-1, 0)", Kit.INDEX, () -> x.step(-1, 0));
        Kit.raises("step(2, 7): the person first", Kit.INDEX, () -> x.step(2, 7));
        Kit.raises("step(0, 7)", Kit.ARGUMENT, () -> x.step(0, 7));
        Kit.raises("step(1, 7) of no heir", Kit.ARGUMENT, () -> x.step(1, 7));
        Kit.raises("step(0, -1)", Kit.ARGUMENT, () -> x.step(0, -1));
    }

    private static void given() {
        Kit.about("promises 17 and 18");
        EstateSettlement x = Kit.estate("person s spouse;person a;person b under a;asset 1000;legacy s 10;legacy s 5;"
                + "legacy b 20;legacy a 1;life 10;");
        // Residue 964: share 241, rest 723, burdened 72, worth 36, fund 687.
        Kit.same("spouse", x.given(0), 15 + 241 + 36);
        Kit.same("heir", x.given(1), 688);
        Kit.same("one who is no heir", x.given(2), 20);
        Kit.yes("balanced", x.isBalanced());
        Kit.raises("given(3)", Kit.INDEX, () -> x.given(3));
        Kit.raises("given(-1)", Kit.INDEX, () -> x.given(-1));
        x.die(1);
        Kit.same("both", x.given(2), 20 + x.step(2, 6));
        Kit.yes("balanced", x.isBalanced());
    }
}
