/** Promises 7 to 21: each sentence of the document that names a boundary, at it and one beyond. */
public final class EdgesOfAnswersTest {
    private static final int NONE = EstateSettlement.NONE;
    private static final int MOST = 9999999;
    private static final String CHAIN = "person a;person b under a;person c under b;person d under c;person e under d;"
            + "person f under e;person g under f;person h under g;person i under h;person j under i;person k under j;"
            + "person l under k;";
    private static final String TWELVE = "person a;person b;person c;person d;person e;person f;person g;person h;"
            + "person i;person j;person k;person l;";
    private static final String BASE = "person s spouse;person a;person b under a;person c;asset 1000;";

    public static void main(String[] args) {
        indexesOfPersons();
        indexesOfItems();
        person();
        asset();
        debtsByRank();
        debtsSplit();
        debtsLargest();
        legacies();
        legaciesAbate();
        accounts();
        spouseOrState();
        factor();
        heirs();
        refusedLines();
        isEmpty();
        divisors();
        leftOut();
        steps();
        cents();
        given();
        isBalanced();
        givenIf();
        helper();
        tooMuch();
        questionsChangeNothing();
        Kit.finish();
    }

    private static void same(String what, int[] due, java.util.function.IntUnaryOperator answer) {
        for (int i = 0; i < due.length; i++) {
            Kit.same(what + " " + i, answer.applyAsInt(i), due[i]);
        }
    }

    // ---- the arguments of promises 7 to 21

    private static void indexesOfPersons() {
        String[] texts = {"", "person s spouse;", CHAIN, TWELVE};
        int[] counts = {0, 1, 12, 12};
        for (int i = 0; i < texts.length; i++) {
            EstateSettlement x = Kit.estate(texts[i]);
            int count = counts[i];
            Kit.about("promise 7: IndexOutOfBoundsException if there is no such person (checked first), then what");
            Kit.asksForIndexAndWhat("person", count, 6, x::person);
            Kit.about("promise 16: IndexOutOfBoundsException if there is no such person (checked first), then what");
            Kit.asksForIndexAndWhat("step", count, 7, x::step);
            Kit.about("promise 15: IndexOutOfBoundsException if there is no such person");
            Kit.raisesOutside("isEmpty", Kit.INDEX, count, x::isEmpty);
            Kit.about("promise 17: IndexOutOfBoundsException if there is no such person");
            Kit.raisesOutside("given", Kit.INDEX, count, x::given);
            Kit.about("promise 19: IndexOutOfBoundsException if one of the persons does not exist");
            Kit.raisesOutside("givenIf", Kit.INDEX, count, person -> x.givenIf(person, 0));
            Kit.raisesOutside("givenIf", Kit.INDEX, count, refuser -> x.givenIf(0, refuser));
            Kit.raisesOutside("givenIf", Kit.INDEX, count, both -> x.givenIf(both, both));
            Kit.about("promise 20: IndexOutOfBoundsException if there is no such person");
            Kit.raisesOutside("helper", Kit.INDEX, count, x::helper);
            Kit.about("promise 21: IndexOutOfBoundsException if there is no such person");
            Kit.raisesOutside("tooMuch", Kit.INDEX, count, x::tooMuch);
        }
    }

    private static void indexesOfItems() {
        for (int count = 0; count <= 8; count++) {
            EstateSettlement x = Kit.estate("person a;" + "asset 5;".repeat(count) + "debt 1 2;".repeat(count)
                    + "legacy a 1;".repeat(count));
            Kit.about("promise 8: IndexOutOfBoundsException if there is no such asset (checked first), then what");
            Kit.asksForIndexAndWhat("asset", count, 2, x::asset);
            Kit.about("promise 9: IndexOutOfBoundsException if there is no such debt (checked first), then what");
            Kit.asksForIndexAndWhat("debt", count, 3, x::debt);
            Kit.about("promise 10: IndexOutOfBoundsException if there is no such legacy (checked first), then what");
            Kit.asksForIndexAndWhat("legacy", count, 4, x::legacy);
            Kit.about("promise 11: IllegalArgumentException if what is out of range");
            Kit.raisesOutside("account", Kit.ARGUMENT, 10, x::account);
            Kit.about("promise 12: IllegalArgumentException if age is out of range");
            Kit.raisesOutside("factor", Kit.ARGUMENT, 121, x::factor);
        }
    }

    // ---- promise 7

    private static void person() {
        Kit.about("promise 7: 0 its parent (NONE for children of the deceased and for the spouse)");
        EstateSettlement x = Kit.estate(CHAIN);
        EstateSettlement y = Kit.estate("person s spouse;person a;" + "person b under a;person c under a;person d under a;"
                + "person e under a;person f under a;person g under a;person h under a;person i under a;person j under a;"
                + "person k under a dead;");
        for (int person = 0; person < 12; person++) {
            Kit.same("parent in a chain", x.person(person, 0), person - 1);
            Kit.same("parent of one of many", y.person(person, 0), person < 2 ? NONE : 1);
        }
        Kit.about("promise 7: 4 the number of its children");
        for (int person = 0; person < 12; person++) {
            Kit.same("children in a chain", x.person(person, 4), person < 11 ? 1 : 0);
            Kit.same("children of one of many", y.person(person, 4), person == 1 ? 10 : 0);
        }
        y.refuse(4, true);
        y.die(5);
        Kit.same("dead ones and who refuse are children too", y.person(1, 4), 10);
        EstateSettlement few = Kit.estate(CHAIN);
        for (int persons = 1; persons <= 3; persons++) {
            Kit.same("a shorter text", Kit.parse(few, "person a;person b;person c under a;".substring(0, new int[] {9, 18, 35}[persons - 1])), 0);
            Kit.same("children of the first of " + persons, few.person(0, 4), persons / 3);
            Kit.same("children of the last of " + persons, few.person(persons - 1, 4), 0);
        }
        Kit.about("promise 7: 2 whether it is dead, 3 whether it refuses (1 or 0)");
        same("dead", new int[] {0, 0, 0, 0, 0, 1, 0, 0, 0, 0, 0, 1}, person -> y.person(person, 2));
        same("refuses", new int[] {0, 0, 0, 0, 1, 0, 0, 0, 0, 0, 0, 0}, person -> y.person(person, 3));
        y.refuse(4, false);
        Kit.same("no longer", y.person(4, 3), 0);
        Kit.about("promise 7: 5 the sum of all gifts to it");
        EstateSettlement z = Kit.estate("person a;person b;" + "gift b 9999999;".repeat(8));
        Kit.same("8 of the greatest", z.person(1, 5), 79999992);
        Kit.same("none", z.person(0, 5), 0);
        Kit.same("one of 0", Kit.estate("person a;gift a 0;").person(0, 5), 0);
    }

    // ---- promise 8

    private static void asset() {
        Kit.about("promise 8: The net value of an asset is value minus value * percent / 100");
        int[][] due = {{0, 0, 0}, {0, 100, 0}, {1, 0, 1}, {1, 99, 1}, {1, 100, 0}, {99, 1, 99}, {100, 1, 99}, {101, 1, 100},
            {199, 1, 198}, {3, 33, 3}, {4, 25, 3}, {4, 24, 4}, {MOST, 0, MOST}, {MOST, 1, 9900000}, {MOST, 99, 100000}, {MOST, 100, 0}};
        for (int[] one : due) {
            EstateSettlement x = Kit.estate("asset " + one[0] + " charge " + one[1] + ";");
            Kit.same("net value of " + one[0] + " charge " + one[1], x.asset(0, 1), one[2]);
            Kit.same("net estate", x.account(0), one[2]);
            Kit.same("value", x.asset(0, 0), one[0]);
        }
        Kit.about("promise 11: The net estate is the sum of the net values of all assets");
        Kit.same("none", Kit.estate("person a;").account(0), 0);
        Kit.same("8 of the greatest", Kit.estate("asset 9999999;".repeat(8)).account(0), 79999992);
        Kit.same("each charge rounds by itself", Kit.estate("asset 50 charge 1;".repeat(8)).account(0), 400);
    }

    // ---- promise 9

    private static void debtsByRank() {
        Kit.about("promise 9: Debts are paid first, rank by rank from 1 to 5");
        for (int value = 0; value <= 16; value++) {
            EstateSettlement x = Kit.estate("person a;asset " + value + ";debt 5 1;debt 4 2;debt 3 3;debt 2 4;debt 1 5;legacy a 1;");
            int left = value;
            for (int debt = 4; debt >= 0; debt--) {
                int paid = Math.min(left, debt + 1);
                Kit.same("of " + value + " for rank " + (5 - debt), x.debt(debt, 2), paid);
                left -= paid;
            }
            Kit.same("of " + value + " debts paid", x.account(1), Math.min(value, 15));
            Kit.same("of " + value + " debts not paid", x.account(2), 15 - Math.min(value, 15));
            Kit.same("of " + value + " the legacy comes next", x.legacy(0, 2), value - Math.min(value, 15));
        }
    }

    private static void debtsSplit() {
        Kit.about("promise 9: if what is left is at least the sum of the debts of a rank, they are all paid, "
                + "otherwise what is left is split among them by their amounts");
        String debts = ";debt 2 0;debt 2 7;debt 2 30;debt 2 10;debt 3 0;debt 3 1;";
        // 46 * 7 / 47 = 6, 46 * 30 / 47 = 29, 46 * 10 / 47 = 9; two cents are left over.
        int[][] due = {{49, 0, 7, 30, 10, 0, 1}, {48, 0, 7, 30, 10, 0, 1}, {47, 0, 7, 30, 10, 0, 0}, {46, 0, 7, 30, 9, 0, 0},
            {1, 0, 1, 0, 0, 0, 0}, {2, 0, 1, 1, 0, 0, 0}, {0, 0, 0, 0, 0, 0, 0}};
        for (int[] row : due) {
            EstateSettlement x = Kit.estate("asset " + row[0] + debts);
            int sum = 0;
            for (int debt = 0; debt < 6; debt++) {
                Kit.same("of " + row[0] + " for debt " + debt, x.debt(debt, 2), row[debt + 1]);
                sum += row[debt + 1];
            }
            Kit.same("of " + row[0] + " paid", x.account(1), sum);
            Kit.same("of " + row[0] + " not paid", x.account(2), 48 - sum);
            Kit.same("of " + row[0] + " the residue", x.account(4), row[0] - sum);
        }
        Kit.about("promise 9: the cents that are left over are given, one each, to the first ones whose number is greater than 0");
        EstateSettlement x = Kit.estate("asset 6;debt 1 0;debt 1 1;debt 1 1;debt 1 0;debt 1 1;debt 1 1;debt 1 1;debt 1 2;");
        same("6 for 7", new int[] {0, 1, 1, 0, 1, 1, 1, 1}, debt -> x.debt(debt, 2));
        EstateSettlement y = Kit.estate("asset 1;debt 1 0;debt 1 9;debt 1 10;");
        same("one cent", new int[] {0, 1, 0}, debt -> y.debt(debt, 2));
        Kit.about("promise 9: If all numbers are 0, nobody gets anything");
        EstateSettlement z = Kit.estate("asset 5;debt 1 0;debt 1 0;debt 2 0;");
        same("debts of 0", new int[] {0, 0, 0}, debt -> z.debt(debt, 2));
        Kit.same("the residue", z.account(4), 5);
    }

    private static void debtsLargest() {
        Kit.about("promise 9: each gets total * its number / (the sum of the numbers), with the greatest numbers");
        EstateSettlement x = Kit.estate("asset 9999999;".repeat(8) + "debt 3 9999999;".repeat(8));
        for (int debt = 0; debt < 8; debt++) {
            Kit.same("all is paid", x.debt(debt, 2), MOST);
        }
        Kit.same("nothing is left", x.account(4), 0);
        // 79999991 * 9999999 / 79999992 = 9999998; 7 cents are left over.
        Kit.same("a cent less", x.setValue(7, MOST - 1), 79999991);
        for (int debt = 0; debt < 8; debt++) {
            Kit.same("paid of " + debt, x.debt(debt, 2), debt < 7 ? MOST : MOST - 1);
        }
        Kit.same("not paid", x.account(2), 1);
        for (int asset = 0; asset < 7; asset++) {
            x.setValue(asset, 0);
        }
        // 9999998 * 9999999 / 79999992 = 1249999; 6 cents are left over.
        for (int debt = 0; debt < 8; debt++) {
            Kit.same("an eighth for " + debt, x.debt(debt, 2), debt < 6 ? 1250000 : 1249999);
        }
    }

    // ---- promise 10

    private static void legacies() {
        Kit.about("promise 10: Legacies of persons who take are paid next (other ones lapse); 3 whether it lapses (1 or 0)");
        EstateSettlement x = Kit.estate("person s spouse;person a;person b under a;person d dead;asset 1000;"
                + "legacy s 1;legacy a 2;legacy b 4;legacy d 8;legacy b 0;");
        same("person", new int[] {0, 1, 2, 3, 2}, legacy -> x.legacy(legacy, 0));
        same("amount", new int[] {1, 2, 4, 8, 0}, legacy -> x.legacy(legacy, 1));
        same("paid", new int[] {1, 2, 4, 0, 0}, legacy -> x.legacy(legacy, 2));
        same("lapses", new int[] {0, 0, 0, 1, 0}, legacy -> x.legacy(legacy, 3));
        Kit.same("legacies paid", x.account(3), 7);
        x.refuse(0, true);
        x.refuse(3, true);
        x.die(2);
        same("paid then", new int[] {0, 2, 0, 0, 0}, legacy -> x.legacy(legacy, 2));
        same("lapses then", new int[] {1, 0, 1, 1, 1}, legacy -> x.legacy(legacy, 3));
        Kit.same("the residue grows", x.account(4), 998);
        x.refuse(0, false);
        x.refuse(3, false);
        same("lapses no longer", new int[] {0, 0, 1, 1, 1}, legacy -> x.legacy(legacy, 3));
    }

    private static void legaciesAbate() {
        Kit.about("promise 10: if what is left is at least their sum, all of them, otherwise what is left is split");
        String legacies = ";legacy d 5;legacy a 0;legacy a 10;legacy a 20;";
        // 29 * 10 / 30 = 9, 29 * 20 / 30 = 19; a cent is left over. 11 are 3 and 7 and a cent.
        int[][] due = {{31, 0, 0, 10, 20}, {30, 0, 0, 10, 20}, {29, 0, 0, 10, 19}, {11, 0, 0, 4, 7}, {1, 0, 0, 1, 0}, {0, 0, 0, 0, 0}};
        for (int[] row : due) {
            EstateSettlement x = Kit.estate("person a;person d dead;asset 100;debt 5 100;asset " + row[0] + legacies);
            for (int legacy = 0; legacy < 4; legacy++) {
                Kit.same("of " + row[0] + " for legacy " + legacy, x.legacy(legacy, 2), row[legacy + 1]);
                Kit.same("lapses", x.legacy(legacy, 3), legacy == 0 ? 1 : 0);
            }
            Kit.same("of " + row[0] + " paid", x.account(3), Math.min(30, row[0]));
            Kit.same("of " + row[0] + " the residue", x.account(4), row[0] - Math.min(30, row[0]));
        }
        EstateSettlement y = Kit.estate("person a;" + "asset 9999999;".repeat(8) + "legacy a 9999999;".repeat(8));
        Kit.same("8 of the greatest", y.given(0), 79999992);
        Kit.same("nothing is left", y.account(4), 0);
        y.setValue(0, MOST - 1);
        same("a cent less", new int[] {MOST, MOST, MOST, MOST, MOST, MOST, MOST, MOST - 1}, legacy -> y.legacy(legacy, 2));
    }

    // ---- promises 11 and 12

    private static void accounts() {
        Kit.about("promise 11: the spouse gets the spouse's share, residue * part / whole; rest * life / 100 is burdened; "
                + "worth burdened * factor / 100; what is left then is the fund");
        String two = "person a;person s spouse;asset ";
        Object[][] rows = {
            {two + "1001;share 4 4;life 100;", new int[] {1001, 0, 0, 0, 1001, 1001, 0, 0, 0, 0}},
            {two + "1001;share 99 0;life 100;", new int[] {1001, 0, 0, 0, 1001, 0, 1001, 500, 501, 0}},
            {two + "7;life 33;", new int[] {7, 0, 0, 0, 7, 1, 1, 0, 6, 0}},
            {two + "3;life 100;", new int[] {3, 0, 0, 0, 3, 0, 3, 1, 2, 0}},
            {two + "4;life 0;", new int[] {4, 0, 0, 0, 4, 1, 0, 0, 3, 0}},
            {two + "0;life 100;share 1 1;", new int[] {0, 0, 0, 0, 0, 0, 0, 0, 0, 0}},
            {two + "100;debt 1 100;life 100;", new int[] {100, 100, 0, 0, 0, 0, 0, 0, 0, 0}},
            {two + "100;debt 1 101;life 100;", new int[] {100, 100, 1, 0, 0, 0, 0, 0, 0, 0}},
            {two + "100;debt 1 99;legacy s 2;", new int[] {100, 99, 0, 1, 0, 0, 0, 0, 0, 0}},
            {"person a;asset 100;life 100;share 1 1;", new int[] {100, 0, 0, 0, 100, 0, 0, 0, 100, 0}},
            {"person a;person s age 0 spouse;share 99 98;life 100;" + "asset 9999999;".repeat(8),
                new int[] {79999992, 0, 0, 0, 79999992, 79191911, 808081, 727272, 80809, 0}},
        };
        for (Object[] row : rows) {
            EstateSettlement x = Kit.estate((String) row[0]);
            same((String) row[0], (int[]) row[1], x::account);
        }
        Kit.about("promise 11: If the spouse does not take, or there is none, the fund is the residue");
        int[] all = {500, 0, 0, 0, 500, 0, 0, 0, 500, 0};
        EstateSettlement dead = Kit.estate(two + "500;life 50;");
        dead.die(1);
        same("the spouse is dead", all, dead::account);
        EstateSettlement refusing = Kit.estate(two + "500;life 50;");
        refusing.refuse(1, true);
        same("the spouse refuses", all, refusing::account);
    }

    private static void spouseOrState() {
        Kit.about("promise 11: If there are no heirs, the spouse gets the whole residue if it takes; otherwise the state gets it; the fund is 0");
        int[] spouse = {500, 0, 0, 0, 500, 500, 0, 0, 0, 0};
        int[] state = {500, 0, 0, 0, 500, 0, 0, 0, 0, 500};
        EstateSettlement x = Kit.estate("person s spouse;asset 500;life 100;share 4 0;");
        same("the spouse alone", spouse, x::account);
        Kit.same("given", x.given(0), 500);
        x.refuse(0, true);
        same("the spouse refuses", state, x::account);
        Kit.same("given", x.given(0), 0);
        x.refuse(0, false);
        x.die(0);
        same("the spouse is dead", state, x::account);
        EstateSettlement y = Kit.estate("person a;person s spouse;person b under a;asset 500;life 100;accrue others;");
        y.refuse(0, true);
        same("the heir refuses", spouse, y::account);
        y.die(1);
        same("and the spouse is dead", state, y::account);
        y.setAccrue(true);
        same("but b takes when accrue is line", new int[] {500, 0, 0, 0, 500, 0, 0, 0, 500, 0}, y::account);
        same("without persons", state, Kit.estate("asset 500;life 100;")::account);
        same("nothing for the state", new int[10], Kit.estate("person d dead;asset 0;")::account);
    }

    private static void factor() {
        Kit.about("promise 12: the factor is 90 up to 19 years of age, 80 from 20 to 29, 70 from 30 to 39, and so on, "
                + "10 less for each further ten years, but at least 10");
        int[][] due = {{0, 90}, {1, 90}, {9, 90}, {10, 90}, {19, 90}, {20, 80}, {29, 80}, {30, 70}, {39, 70}, {40, 60}, {49, 60},
            {50, 50}, {59, 50}, {60, 40}, {69, 40}, {70, 30}, {79, 30}, {80, 20}, {89, 20}, {90, 10}, {99, 10}, {100, 10},
            {109, 10}, {110, 10}, {119, 10}, {120, 10}};
        EstateSettlement x = Kit.estate("person a;person s spouse;asset 1000;share 1 0;life 100;");
        for (int[] row : due) {
            Kit.same("factor " + row[0], x.factor(row[0]), row[1]);
            x.setAge(1, row[0]);
            Kit.same("worth at " + row[0], x.account(7), row[1] * 10);
        }
    }

    // ---- promises 13, 15 and 16

    private static void heirs() {
        Kit.about("promise 13: Returns the heirs as bits: bit p is set for person p");
        Object[][] rows = {{"", 0}, {"person s spouse;", 0}, {"person s spouse;person a;", 2}, {"person a;", 1}, {"person a dead;", 0},
            {TWELVE, 0xfff}, {CHAIN, 1}, {"person s spouse;person a dead;person b under a;", 4}};
        for (Object[] row : rows) {
            Kit.same("heirs of " + row[0], Kit.estate((String) row[0]).heirs(), (int) row[1]);
        }
        EstateSettlement x = Kit.estate(CHAIN);
        EstateSettlement y = Kit.estate(TWELVE);
        for (int person = 0; person < 11; person++) {
            x.die(person);
            Kit.same("the next of the chain", x.heirs(), 1 << person + 1);
            Kit.same("its divisor", x.step(person + 1, 0), 1);
            Kit.same("those who are left of twelve", y.die(person), 0xfff & -1 << person + 1);
            Kit.same("their divisor", y.step(11, 0), 11 - person);
        }
        Kit.same("the last one dies", x.die(11), 0);
        Kit.same("the last one refuses", y.refuse(11, true) ? 1 : 0, 0);
        Kit.same("nobody is left", y.heirs(), 0);
    }

    private static void refusedLines() {
        Kit.about("promise 13: if it is dead, or if it refuses and accrue is line, the heirs of the lines of its children; "
                + "otherwise (it refuses and accrue is others) nobody");
        String family = "person a;person b under a;person c under b;person d;";
        EstateSettlement x = Kit.estate(family + "accrue others;");
        Kit.no("a did not refuse", x.refuse(0, true));
        Kit.same("a refuses, others", x.heirs(), 0b1000);
        Kit.same("a refuses, line", x.setAccrue(true), 0b1010);
        x.refuse(1, true);
        Kit.same("b too, line", x.heirs(), 0b1100);
        Kit.same("b too, others", x.setAccrue(false), 0b1000);
        Kit.same("a is dead and refuses, b refuses, others", x.die(0), 0b1000);
        Kit.same("both dead and refuse, others", x.die(1), 0b1100);
        x.refuse(2, true);
        Kit.same("c refuses, too", x.heirs(), 0b1000);
        x.refuse(3, true);
        Kit.same("all refuse", x.heirs(), 0);
        Kit.same("all refuse, line", x.setAccrue(true), 0);
    }

    private static void isEmpty() {
        Kit.about("promise 15: A line without heirs is empty; true for the spouse");
        EstateSettlement x = Kit.estate("person s spouse;person a;person b under a;person d dead;person e under d dead;"
                + "person f under e;person g dead;person h under g dead;");
        int[] due = {1, 0, 0, 0, 0, 0, 1, 1};
        same("empty", due, person -> x.isEmpty(person) ? 1 : 0);
        x.refuse(1, true);
        x.refuse(5, true);
        int[] refused = {1, 0, 0, 1, 1, 1, 1, 1};
        same("empty when a and f refuse", refused, person -> x.isEmpty(person) ? 1 : 0);
        x.setAccrue(false);
        int[] others = {1, 1, 0, 1, 1, 1, 1, 1};
        same("empty when accrue is others", others, person -> x.isEmpty(person) ? 1 : 0);
        x.die(0);
        Kit.yes("a dead spouse", x.isEmpty(0));
        x.refuse(0, true);
        Kit.yes("a dead spouse who refuses", x.isEmpty(0));
    }

    private static void divisors() {
        Kit.about("promise 16: at each step it is multiplied by the number of lines that are not empty; it begins with 1");
        EstateSettlement x = Kit.estate("person d dead;person s spouse;person e dead;person a under d;person b under d;"
                + "person f under d dead;person c under e;person g dead;");
        same("divisor", new int[] {NONE, NONE, NONE, 4, 4, NONE, 2, NONE}, person -> x.step(person, 0));
        Kit.about("promise 16: weight is M divided by its divisor, where M is the least common multiple of the divisors of all heirs");
        same("weight", new int[] {NONE, NONE, NONE, 1, 1, NONE, 2, NONE}, person -> x.step(person, 1));
        x.die(6);
        same("divisor with one line", new int[] {NONE, NONE, NONE, 2, 2, NONE, NONE, NONE}, person -> x.step(person, 0));
        same("weight with one line", new int[] {NONE, NONE, NONE, 1, 1, NONE, NONE, NONE}, person -> x.step(person, 1));
        x.die(3);
        Kit.same("the only heir's divisor", x.step(4, 0), 1);
        Kit.same("the only heir's weight", x.step(4, 1), 1);
        // Two lines with 4 and 5 heirs: divisors 8 and 10, M is 40.
        EstateSettlement y = Kit.estate("person m dead;person n dead;person a under m;person b under m;person c under m;"
                + "person d under m;person e under n;person f under n;person g under n;person h under n;person i under n;asset 200;");
        same("weight of 40", new int[] {NONE, NONE, 5, 5, 5, 5, 4, 4, 4, 4, 4}, person -> y.step(person, 1));
        same("due", new int[] {NONE, NONE, 25, 25, 25, 25, 20, 20, 20, 20, 20}, person -> y.step(person, 4));
        // A chain of twos: divisors 2, 4, 8, 16, 32, 32.
        EstateSettlement z = Kit.estate("person a;person m dead;person b under m;person n under m dead;person c under n;"
                + "person o under n dead;person d under o;person p under o dead;person e under p;person f under p;asset 64;");
        same("halves", new int[] {2, NONE, 4, NONE, 8, NONE, 16, NONE, 32, 32}, person -> z.step(person, 0));
        same("their weights", new int[] {16, NONE, 8, NONE, 4, NONE, 2, NONE, 1, 1}, person -> z.step(person, 1));
        same("their dues", new int[] {32, NONE, 16, NONE, 8, NONE, 4, NONE, 2, 2}, person -> z.step(person, 6));
    }

    // ---- promises 14 and 16 to 18

    private static void leftOut() {
        Kit.about("promise 14: As long as there is an heir in account whose gift is greater than its due");
        Kit.same("no heirs", Kit.estate("person a dead;gift a 5;").leftOut(), 0);
        Kit.same("no gifts", Kit.estate("person a;person b;").leftOut(), 0);
        Kit.same("a gift of 0", Kit.estate("person a;person b;gift a 0;").leftOut(), 0);
        Kit.same("a gift of 1, and no fund", Kit.estate("person a;person b;gift a 1;").leftOut(), 1);
        // Weights 1, 1 and 2: a is left out with more than a third of the fund, c with more than the fund.
        String family = "person d dead;person a under d;person b under d;person c;asset 100;gift ";
        Kit.same("a's gift is its due", Kit.estate(family + "a 33;").leftOut(), 0);
        Kit.same("a's gift is above it", Kit.estate(family + "a 34;").leftOut(), 0b0010);
        Kit.same("c's gift is its due", Kit.estate(family + "c 100;").leftOut(), 0);
        Kit.same("c's gift is above it", Kit.estate(family + "c 101;").leftOut(), 0b1000);
        Kit.same("what c leaves", Kit.estate(family + "c 101;").step(1, 6), 50);
        Kit.about("promise 14: the one with the greatest difference is left out, and pot and dues are found anew");
        Kit.same("b is above only without a", Kit.estate("person a;person b;person c;gift a 300;gift b 199;asset 101;").leftOut(), 0b011);
        Kit.same("b is not above without a", Kit.estate("person a;person b;person c;gift a 300;gift b 101;asset 101;").leftOut(), 0b001);
        Kit.same("all but one", Kit.estate("person a;person b;person c;person d;person e;person f;person g;person h;person i;"
                + "gift a 1;gift b 1;gift c 1;gift d 1;gift e 1;gift f 1;gift g 1;gift h 1;").leftOut(), 0xff);
        String nine = "person a;person b;person c;person d;person e;person f;person g;person h;person i;"
                + "gift a 9999999;gift b 9999999;gift c 9999999;gift d 9999999;gift e 9999999;gift f 9999999;gift g 9999999;"
                + "gift h 9999999;asset ";
        Kit.same("the greatest gifts are the due", Kit.estate(nine + "9999999;").leftOut(), 0);
        Kit.same("the greatest gifts are above it", Kit.estate(nine + "9999998;").leftOut(), 0xff);
        Kit.same("the only heir stays", Kit.estate("person a;" + "gift a 9999999;".repeat(8)).leftOut(), 0);
        Kit.about("promise 14: The gift of an heir is the sum of all gifts to it; gifts to others do not count");
        Kit.same("two gifts", Kit.estate(family + "a 33;gift a 1;").leftOut(), 0b0010);
        Kit.same("gifts to the spouse, the dead and those below an heir", Kit.estate("person s spouse;person a;person b under a;"
                + "person d dead;person c;gift s 9999999;gift b 9999999;gift d 9999999;asset 1;").leftOut(), 0);
        EstateSettlement x = Kit.estate("person a;person b;gift a 500;asset 100;");
        x.refuse(0, true);
        Kit.same("no heir is left out who refuses", x.leftOut(), 0);
        Kit.same("its gift does not count", x.step(1, 3), 100);
    }

    private static void steps() {
        Kit.about("promise 16: 3 to 5 are NONE if it is left out of account; all are NONE if the person is no heir");
        EstateSettlement x = Kit.estate("person s spouse;person a;person b under a;person c;person d dead;asset 400;gift a 301;");
        Object[][] rows = {{0, new int[] {NONE, NONE, NONE, NONE, NONE, NONE, NONE}}, {1, new int[] {2, 1, 301, NONE, NONE, NONE, 0}},
            {2, new int[] {NONE, NONE, NONE, NONE, NONE, NONE, NONE}}, {3, new int[] {2, 1, 0, 300, 300, 0, 300}},
            {4, new int[] {NONE, NONE, NONE, NONE, NONE, NONE, NONE}}};
        for (Object[] row : rows) {
            same("step of " + row[0], (int[]) row[1], what -> x.step((int) row[0], what));
        }
        EstateSettlement y = Kit.estate("person s spouse;person a;person b under a;person c;person d dead;asset 400;gift a 300;");
        same("a gift that is the due", new int[] {2, 1, 300, 600, 300, 0, 0}, what -> y.step(1, what));
        same("nothing at all", new int[] {1, 1, 0, 0, 0, 0, 0}, what -> Kit.estate("person a;").step(0, what));
        same("the greatest pot", new int[] {1, 1, 79999992, 159999984, 159999984, 0, 79999992},
                what -> Kit.estate("person a;" + "gift a 9999999;".repeat(8) + "asset 9999999;".repeat(8)).step(0, what));
    }

    private static void cents() {
        Kit.about("promise 16: 4 its due from the final pot (before cents that are left over), 5 whether it gets a cent that is left over");
        for (int pot = 0; pot <= 25; pot++) {
            EstateSettlement x = Kit.estate(TWELVE + "asset " + pot + ";");
            for (int person = 0; person < 12; person++) {
                String what = "of a pot of " + pot + " person " + person;
                Kit.same(what + " due", x.step(person, 4), pot / 12);
                Kit.same(what + " cent", x.step(person, 5), person < pot % 12 ? 1 : 0);
                Kit.same(what + " gets", x.step(person, 6), pot / 12 + (person < pot % 12 ? 1 : 0));
            }
        }
        // Pot 103 by 2, 1 and 1 without e, who is left out: 51, 25, 25; two cents for the first ones in account.
        EstateSettlement y = Kit.estate("person e;person c;person d dead;person a under d;person b under d;person f under d dead;"
                + "gift e 9999;gift b 3;asset 100;");
        same("pot", new int[] {NONE, 103, NONE, 103, 103, NONE}, person -> y.step(person, 3));
        same("due", new int[] {NONE, 51, NONE, 25, 25, NONE}, person -> y.step(person, 4));
        same("cent", new int[] {NONE, 1, NONE, 1, 0, NONE}, person -> y.step(person, 5));
        same("gets", new int[] {0, 52, NONE, 26, 22, NONE}, person -> y.step(person, 6));
    }

    private static void given() {
        Kit.about("promise 17: legacies, what it gets from the fund, and for the spouse the share and the worth of the life interest "
                + "(or the whole residue)");
        EstateSettlement x = Kit.estate("person s spouse;person a;person b under a;person c;person d dead;asset 1000;"
                + "legacy s 100;legacy b 50;legacy d 9;legacy b 50;legacy c 0;gift a 9999;share 4 2;life 100;");
        // Residue 800: share 400, burdened 400, worth 200, fund 200.
        same("given", new int[] {700, 0, 100, 200, 0}, x::given);
        x.refuse(3, true);
        same("c refuses", new int[] {700, 200, 100, 0, 0}, x::given);
        x.refuse(1, true);
        same("a too", new int[] {700, 0, 300, 0, 0}, x::given);
        x.refuse(2, true);
        same("b too", new int[] {1000, 0, 0, 0, 0}, x::given);
        x.refuse(0, true);
        same("the state has it", new int[] {0, 0, 0, 0, 0}, x::given);
        Kit.same("all of it", x.account(9), 1000);
    }

    private static void isBalanced() {
        Kit.about("promise 18: Returns whether what is given out equals the estate (It is always so.)");
        String[] texts = {"", "asset 9999999;", "person s spouse;asset 1;", "person d dead;asset 1 charge 99;", "debt 1 5;",
            "person a;asset 5;debt 1 6;debt 2 1;", "person a;asset 5;legacy a 3;legacy a 4;", TWELVE + "asset 101;gift c 90;",
            BASE + "life 99;share 99 1;", BASE + "legacy c 9;gift a 5;debt 3 7;accrue others;",
            "person a;" + "asset 9999999;".repeat(8) + "gift a 9999999;".repeat(8)};
        for (String text : texts) {
            EstateSettlement x = Kit.estate(text);
            Kit.yes("balanced: " + text, x.isBalanced());
            for (int person = 0; person < x.size(0); person++) {
                x.refuse(person, true);
                Kit.yes("balanced: " + text + " up to " + person + " refuse", x.isBalanced());
            }
        }
    }

    // ---- promises 19 to 21

    private static void givenIf() {
        Kit.about("promise 19: Returns what a person would be given if a person refused; possibly the same one");
        // s 250, and 375 each for a and c.
        EstateSettlement x = Kit.estate(BASE);
        int[][] line = {{0, 250, 250, 250}, {500, 0, 375, 750}, {0, 375, 0, 0}, {500, 375, 375, 0}};
        for (int person = 0; person < 4; person++) {
            int given = person;
            same("line: given to " + person + " if refused by", line[person], refuser -> x.givenIf(given, refuser));
        }
        x.setAccrue(false);
        int[][] others = {{0, 250, 250, 250}, {500, 0, 375, 750}, {0, 0, 0, 0}, {500, 750, 375, 0}};
        for (int person = 0; person < 4; person++) {
            int given = person;
            same("others: given to " + person + " if refused by", others[person], refuser -> x.givenIf(given, refuser));
        }
        x.refuse(1, true);
        Kit.same("who refuses already", x.givenIf(3, 1), 750);
        Kit.same("the last heir", x.givenIf(0, 3), 1000);
        Kit.same("the last heir itself", x.givenIf(3, 3), 0);
        x.die(1);
        Kit.same("a dead one who refuses", x.givenIf(2, 1), 375);
        EstateSettlement y = Kit.estate("person d dead;person a;person b under a;person c;legacy a 100;gift b 30;asset 300;");
        Kit.same("a dead one", y.givenIf(1, 0), 200);
        Kit.same("a legacy lapses, and another gift is brought", y.givenIf(2, 1), 135);
        Kit.same("and c has more of it", y.givenIf(3, 1), 165);
        Kit.same("the first person if the last one refused", y.givenIf(0, 3), 0);
        EstateSettlement z = Kit.estate(TWELVE + "asset 132;");
        Kit.same("the last of twelve if the first refused", z.givenIf(11, 0), 12);
        Kit.same("the first of twelve if the last refused", z.givenIf(0, 11), 12);
    }

    private static void helper() {
        Kit.about("promise 20: Returns the person, of several the first one");
        EstateSettlement x = Kit.estate("person a;person b;person c;asset 9;");
        same("three alike", new int[] {1, 0, 0}, x::helper);
        EstateSettlement y = Kit.estate("person a;person b;person c;person d;asset 900;legacy c 100;legacy d 100;");
        Kit.same("the first of the best, not the first who helps", y.helper(0), 2);
        EstateSettlement z = Kit.estate(TWELVE.replace("person l", "person l spouse") + "asset 1100;share 2 1;");
        Kit.same("the last person is the best", z.helper(0), 11);
        Kit.same("the first is the best", z.helper(10), 11);
        Kit.same("and for the spouse nobody", z.helper(11), NONE);
        Kit.about("promise 20: NONE if no refusal would bring more than what is given now");
        EstateSettlement v = Kit.estate("person a;person b;person c;asset 3;");
        same("a cent more for the first ones alone", new int[] {1, 0, NONE}, v::helper);
        same("nobody has anything", new int[] {NONE, NONE, NONE}, Kit.estate("person a;person b;person c;")::helper);
        Kit.same("the only person", Kit.estate("person a;asset 5;").helper(0), NONE);
        Kit.same("the spouse alone", Kit.estate("person s spouse;asset 5;").helper(0), NONE);
        same("the dead", new int[] {NONE, NONE}, Kit.estate("person a dead;person b;asset 5;")::helper);
        EstateSettlement w = Kit.estate("person a;person b under a;person s spouse;asset 500;gift a 9;");
        same("from nothing to all", new int[] {2, 0, NONE}, w::helper);
        w.setAccrue(false);
        same("and when accrue is others", new int[] {2, NONE, 0}, w::helper);
        EstateSettlement u = Kit.estate("person a;person b;gift a 101;asset 100;");
        Kit.same("one who is left out", u.helper(0), 1);
        Kit.same("one who has all the fund", u.helper(1), NONE);
    }

    private static void tooMuch() {
        Kit.about("promise 21: the smallest further gift (beyond those that there are) with which an heir would be left out of account");
        String family = "person d dead;person a under d;person b under d;person c;asset 100;";
        same("weights 1, 1 and 2", new int[] {NONE, 34, 34, 101}, Kit.estate(family)::tooMuch);
        same("beyond a gift", new int[] {NONE, 1, 45, 134}, Kit.estate(family + "gift a 33;")::tooMuch);
        Kit.about("promise 21: NONE if there is none, the person is no heir, or it is left out already");
        same("a is left out", new int[] {NONE, NONE, 45, 135}, Kit.estate(family + "gift a 34;")::tooMuch);
        same("the spouse, an heir, one below it, one who is dead", new int[] {NONE, NONE, NONE, NONE},
                Kit.estate("person s spouse;person a;person b under a;person d dead;asset 5;")::tooMuch);
        EstateSettlement x = Kit.estate("person a;person b;asset 50;");
        x.refuse(0, true);
        Kit.same("one who refuses", x.tooMuch(0), NONE);
        Kit.same("the only heir", x.tooMuch(1), NONE);
        Kit.about("promise 21: the amount, 1 to 9999999 (even if there are 8 gifts)");
        Kit.same("1", Kit.estate("person a;person b;").tooMuch(0), 1);
        Kit.same("2", Kit.estate("person a;person b;asset 1;").tooMuch(0), 2);
        Kit.same("9999999", Kit.estate("person a;person b;asset 9999998;").tooMuch(1), MOST);
        Kit.same("more than 9999999", Kit.estate("person a;person b;asset 9999999;").tooMuch(1), NONE);
        Kit.same("far more", Kit.estate("person a;person b;" + "asset 9999999;".repeat(8)).tooMuch(1), NONE);
        Kit.same("9999999 beyond a gift", Kit.estate("person a;person b;asset 9999999;gift a 1;").tooMuch(0), MOST);
        EstateSettlement y = Kit.estate("person a;person b;asset 50;" + "gift a 1;".repeat(8));
        Kit.same("8 gifts", y.tooMuch(0), 43);
        Kit.same("8 gifts to the other", y.tooMuch(1), 59);
    }

    // ---- questions change nothing

    private static EstateSettlement usedEstate() {
        EstateSettlement x = Kit.estate("person a;person s spouse;asset 900 charge 3;debt 1 20;gift a 5;legacy s 7;life 9;");
        Kit.same("an error", Kit.parse(x, "life 1; x;"), 1);
        x.addGift(0, 70);
        x.saveSnapshot(0);
        x.setAge(1, 33);
        Kit.type(x, "s");
        return x;
    }

    private static void questionsChangeNothing() {
        Kit.about("promises 4, 5 and 7 to 18: a question");
        Kit.leaves("a question", EdgesOfAnswersTest::usedEstate, x -> Kit.pictureOf(x));
        Kit.leaves("factor and isBalanced", EdgesOfAnswersTest::usedEstate, x -> Kit.yes("balanced", x.isBalanced() && x.factor(5) == 90));
        Kit.about("promise 19: what would be: nothing changes");
        Kit.leaves("givenIf", EdgesOfAnswersTest::usedEstate, x -> x.givenIf(0, 1));
        Kit.leaves("givenIf of the heir", EdgesOfAnswersTest::usedEstate, x -> x.givenIf(1, 0));
        Kit.about("promise 20: what would be: nothing changes");
        Kit.leaves("helper", EdgesOfAnswersTest::usedEstate, x -> x.helper(0));
        Kit.about("promise 21: what would be: nothing changes");
        Kit.leaves("tooMuch", EdgesOfAnswersTest::usedEstate, x -> x.tooMuch(0));
        Kit.leaves("tooMuch of nobody's heir", EdgesOfAnswersTest::usedEstate, x -> x.tooMuch(1));
    }
}
