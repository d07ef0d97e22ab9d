import java.util.List;

/** Promises 22 to 31: each sentence of the document that names a boundary, at it and one beyond. */
public final class EdgesOfChangesTest {
    private static final int NONE = EstateSettlement.NONE;
    private static final int MOST = 9999999;
    private static final int MIN = Integer.MIN_VALUE;
    private static final int MAX = Integer.MAX_VALUE;

    public static void main(String[] args) {
        refusedCalls();
        whichCheckComesFirst();
        refuse();
        die();
        setAge();
        addGift();
        addGiftUpToEight();
        addDebt();
        addDebtUpToEight();
        setValue();
        setAccrue();
        changesThatAlterNothing();
        tenChanges();
        undoOfEachChange();
        whatEndsTheHistory();
        saveSnapshot();
        restoreSnapshot();
        slotsAreApart();
        manyCalls();
        Kit.finish();
    }

    /** An estate with a history, a slot in use, an earlier parse error, and a name in the buffer. */
    private static EstateSettlement used() {
        EstateSettlement x = Kit.estate("person a;person s spouse;asset 900 charge 3;debt 1 20;gift a 5;legacy s 7;life 9;");
        Kit.same("an error", Kit.parse(x, "life 1; x;"), 1);
        x.refuse(1, true);
        x.saveSnapshot(1);
        x.setAge(1, 33);
        Kit.type(x, "s");
        return x;
    }

    /** Without anything: no index is in range, no slot is in use. */
    private static EstateSettlement empty() {
        return new EstateSettlement();
    }

    /** As many items as fit. */
    private static EstateSettlement full() {
        EstateSettlement x = Kit.estate("person a;asset 900;" + "debt 2 7;".repeat(8) + "gift a 5;".repeat(7));
        x.addGift(0, 5);
        Kit.type(x, "a");
        return x;
    }

    // ---- what throws

    private record Refused(String name, Class<?> due, Kit.Action call) {
    }

    private static final List<Refused> OF_ANY = List.of(
            new Refused("parse beyond the buffer", Kit.ARGUMENT, x -> x.parse(701)),
            new Refused("parse of a negative length", Kit.ARGUMENT, x -> x.parse(-1)),
            new Refused("size", Kit.ARGUMENT, x -> x.size(10)),
            new Refused("person", Kit.INDEX, x -> x.person(2, 0)),
            new Refused("asset", Kit.INDEX, x -> x.asset(1, 0)),
            new Refused("debt", Kit.INDEX, x -> x.debt(8, 0)),
            new Refused("legacy", Kit.INDEX, x -> x.legacy(1, 0)),
            new Refused("account", Kit.ARGUMENT, x -> x.account(10)),
            new Refused("factor", Kit.ARGUMENT, x -> x.factor(121)),
            new Refused("isEmpty", Kit.INDEX, x -> x.isEmpty(2)),
            new Refused("step", Kit.INDEX, x -> x.step(2, 0)),
            new Refused("given", Kit.INDEX, x -> x.given(2)),
            new Refused("givenIf", Kit.INDEX, x -> x.givenIf(0, 2)),
            new Refused("helper", Kit.INDEX, x -> x.helper(2)),
            new Refused("tooMuch", Kit.INDEX, x -> x.tooMuch(2)),
            new Refused("refuse", Kit.INDEX, x -> x.refuse(2, true)),
            new Refused("refuse of -1", Kit.INDEX, x -> x.refuse(-1, true)),
            new Refused("die", Kit.INDEX, x -> x.die(2)),
            new Refused("die of -1", Kit.INDEX, x -> x.die(-1)),
            new Refused("setAge", Kit.INDEX, x -> x.setAge(2, 5)),
            new Refused("addGift", Kit.INDEX, x -> x.addGift(2, 5)),
            new Refused("addDebt of rank 0", Kit.ARGUMENT, x -> x.addDebt(0, 5)),
            new Refused("addDebt of rank 6", Kit.ARGUMENT, x -> x.addDebt(6, 5)),
            new Refused("addDebt of -1", Kit.ARGUMENT, x -> x.addDebt(1, -1)),
            new Refused("addDebt of too much", Kit.ARGUMENT, x -> x.addDebt(5, MOST + 1)),
            new Refused("setValue", Kit.INDEX, x -> x.setValue(1, 5)),
            new Refused("saveSnapshot of slot 2", Kit.INDEX, x -> x.saveSnapshot(2)),
            new Refused("saveSnapshot of slot -1", Kit.INDEX, x -> x.saveSnapshot(-1)),
            new Refused("restoreSnapshot of slot 2", Kit.INDEX, x -> x.restoreSnapshot(2)),
            new Refused("restoreSnapshot of slot -1", Kit.INDEX, x -> x.restoreSnapshot(-1)),
            new Refused("restoreSnapshot of an empty slot", Kit.STATE, x -> x.restoreSnapshot(0)));

    private static final List<Refused> OF_USED = List.of(
            new Refused("person's what", Kit.ARGUMENT, x -> x.person(1, 6)),
            new Refused("asset's what", Kit.ARGUMENT, x -> x.asset(0, 2)),
            new Refused("debt's what", Kit.ARGUMENT, x -> x.debt(0, 3)),
            new Refused("legacy's what", Kit.ARGUMENT, x -> x.legacy(0, 4)),
            new Refused("step's what", Kit.ARGUMENT, x -> x.step(0, 7)),
            new Refused("setAge to -1", Kit.ARGUMENT, x -> x.setAge(1, -1)),
            new Refused("setAge to 121", Kit.ARGUMENT, x -> x.setAge(1, 121)),
            new Refused("addGift of -1", Kit.ARGUMENT, x -> x.addGift(0, -1)),
            new Refused("addGift of too much", Kit.ARGUMENT, x -> x.addGift(0, MOST + 1)),
            new Refused("setValue to -1", Kit.ARGUMENT, x -> x.setValue(0, -1)),
            new Refused("setValue to too much", Kit.ARGUMENT, x -> x.setValue(0, MOST + 1)));

    private static void refusedCalls() {
        Kit.about("promises 3 to 31: A method that throws an exception changes nothing");
        for (Refused refused : OF_ANY) {
            Kit.refuses(refused.name, refused.due, EdgesOfChangesTest::used, refused.call);
            Kit.refuses(refused.name, refused.due, EdgesOfChangesTest::empty, refused.call);
            Kit.refuses(refused.name, refused.due, EdgesOfChangesTest::full, refused.call);
        }
        for (Refused refused : OF_USED) {
            Kit.refuses(refused.name, refused.due, EdgesOfChangesTest::used, refused.call);
        }
        Kit.refuses("the 9th gift", Kit.STATE, EdgesOfChangesTest::full, x -> x.addGift(0, 5));
        Kit.refuses("the 9th debt", Kit.STATE, EdgesOfChangesTest::full, x -> x.addDebt(1, 5));
        Kit.refuses("slot 1, in use no longer", Kit.STATE, () -> {
            EstateSettlement x = used();
            x.find();
            Kit.parse(x, "person a;asset 7;");
            x.setValue(0, 8);
            return x;
        }, x -> x.restoreSnapshot(1));
    }

    private static void whichCheckComesFirst() {
        Kit.about("promises 22 to 27, 30 and 31: a person, asset or slot that does not exist causes an "
                + "IndexOutOfBoundsException, which is checked before any other exception");
        int[] counts = {2, 0, 1};
        EstateSettlement[] estates = {used(), empty(), full()};
        for (int i = 0; i < estates.length; i++) {
            EstateSettlement x = estates[i];
            Kit.raisesOutside("refuse", Kit.INDEX, counts[i], person -> x.refuse(person, true));
            Kit.raisesOutside("refuse no longer", Kit.INDEX, counts[i], person -> x.refuse(person, false));
            Kit.raisesOutside("die", Kit.INDEX, counts[i], x::die);
            Kit.raisesOutside("setAge", Kit.INDEX, counts[i], person -> x.setAge(person, 5));
            Kit.raisesOutside("setAge to 121", Kit.INDEX, counts[i], person -> x.setAge(person, 121));
            Kit.raisesOutside("addGift", Kit.INDEX, counts[i], person -> x.addGift(person, 5));
            Kit.raisesOutside("addGift of -1", Kit.INDEX, counts[i], person -> x.addGift(person, -1));
            int assets = Math.min(1, counts[i]);
            Kit.raisesOutside("setValue", Kit.INDEX, assets, asset -> x.setValue(asset, 5));
            Kit.raisesOutside("setValue to -1", Kit.INDEX, assets, asset -> x.setValue(asset, -1));
            Kit.raisesOutside("saveSnapshot", Kit.INDEX, 2, x::saveSnapshot);
            Kit.raisesOutside("restoreSnapshot", Kit.INDEX, 2, x::restoreSnapshot);
        }
        Kit.about("promise 24: IllegalArgumentException if age is out of range");
        Kit.raisesOutside("setAge", Kit.ARGUMENT, 121, age -> used().setAge(1, age));
        Kit.about("promise 25: IllegalArgumentException if amount is out of range");
        Kit.raisesOutside("addGift", Kit.ARGUMENT, MOST + 1, amount -> used().addGift(1, amount));
        Kit.about("promise 26: IllegalArgumentException if rank or amount is out of range (checked first)");
        Kit.raisesOutside("addDebt", Kit.ARGUMENT, MOST + 1, amount -> used().addDebt(1, amount));
        Kit.raisesOutside("addDebt", Kit.ARGUMENT, 6, rank -> used().addDebt(rank, 5));
        Kit.raisesForEach("addDebt", Kit.ARGUMENT, rank -> used().addDebt(rank, 5), 0);
        Kit.raisesOutside("addDebt of 8", Kit.ARGUMENT, MOST + 1, amount -> full().addDebt(1, amount));
        Kit.raisesForEach("addDebt of 8", Kit.ARGUMENT, rank -> full().addDebt(rank, 5), MIN, -1, 0, 6, MAX);
        Kit.about("promise 27: IllegalArgumentException if value is out of range");
        Kit.raisesOutside("setValue", Kit.ARGUMENT, MOST + 1, value -> used().setValue(0, value));
    }

    // ---- promises 22 to 28

    private static void refuse() {
        Kit.about("promise 22: Returns whether it refused before");
        String text = "person s spouse;person a;person b dead;person c under b;asset 800;legacy a 80;";
        for (int person = 0; person < 4; person++) {
            EstateSettlement x = Kit.estate(text);
            Kit.no("at first nobody refuses", x.refuse(person, false));
            Kit.no("nor then", x.refuse(person, true));
            Kit.yes("refuses", x.refuse(person, true));
            for (int other = 0; other < 4; other++) {
                Kit.same("refuses alone", x.person(other, 3), other == person ? 1 : 0);
            }
            Kit.yes("no longer", x.refuse(person, false));
            Kit.no("no longer", x.refuse(person, false));
            Kit.same("five changes", x.undo(), 4);
        }
        Kit.about("promise 22: Lets a person refuse, or no longer");
        EstateSettlement x = Kit.estate(text);
        Kit.same("the heirs", x.heirs(), 0b1010);
        x.refuse(2, true);
        Kit.same("a dead one refuses", x.heirs(), 0b1010);
        x.refuse(1, true);
        Kit.same("a refuses", x.heirs(), 0b1000);
        Kit.same("a's legacy lapses", x.account(3), 0);
        x.refuse(0, true);
        Kit.same("the spouse refuses", x.given(3), 800);
        x.refuse(3, true);
        Kit.same("all refuse", x.account(9), 800);
        x.refuse(0, false);
        Kit.same("but for the spouse", x.given(0), 800);
        x.refuse(1, false);
        Kit.same("and a", x.given(1), 80 + 540);
        String twelve = "person a;person b;person c;person d;person e;person f;person g;person h;person i;person j;person k;person l;";
        EstateSettlement y = Kit.estate(twelve);
        Kit.no("the last of twelve", y.refuse(11, true));
        Kit.same("eleven are left", y.heirs(), 0x7ff);
    }

    private static void die() {
        Kit.about("promise 23: Returns the heirs then, as bits");
        EstateSettlement x = Kit.estate("person s spouse;person a;person b under a;person c under a;person d under c;asset 800;life 50;");
        Kit.same("the spouse dies", x.die(0), 0b00010);
        Kit.same("and has nothing", x.given(0), 0);
        Kit.same("one below an heir dies", x.die(3), 0b00010);
        Kit.same("the heir dies", x.die(1), 0b10100);
        Kit.same("the heir dies once more", x.die(1), 0b10100);
        Kit.same("one of two dies", x.die(2), 0b10000);
        Kit.same("nobody is left", x.die(4), 0);
        Kit.same("the state has it", x.account(9), 800);
        Kit.same("six changes", x.undo(), 5);
        Kit.same("the last one again", x.heirs(), 0b10000);
        Kit.same("without a child", Kit.estate("person a;").die(0), 0);
        EstateSettlement y = Kit.estate("person a dead;person b under a;accrue others;");
        y.refuse(1, true);
        Kit.same("one who refuses dies without a child", y.die(1), 0);
        EstateSettlement z = Kit.estate("person a;person b under a;accrue others;");
        z.refuse(0, true);
        Kit.same("one who refused passes on when it is dead", z.die(0), 0b10);
    }

    private static void setAge() {
        Kit.about("promise 24: Returns the previous age; age: 0 to 120");
        EstateSettlement x = Kit.estate("person a age 7;person s age 120 spouse;person d dead;asset 1000;share 1 0;life 100;");
        Kit.same("a", x.setAge(0, 0), 7);
        Kit.same("a again", x.setAge(0, 120), 0);
        Kit.same("a once more", x.setAge(0, 120), 120);
        Kit.same("a's age", x.person(0, 1), 120);
        Kit.same("the heir's age is of no account", x.account(7), 100);
        Kit.same("one without an age", x.setAge(2, 1), 50);
        Kit.same("the spouse", x.setAge(1, 0), 120);
        Kit.same("the worth", x.account(7), 900);
        Kit.same("the fund", x.given(0), 100);
        Kit.same("the spouse at 19", x.setAge(1, 19), 0);
        Kit.same("the worth", x.account(7), 900);
        Kit.same("the spouse at 20", x.setAge(1, 20), 19);
        Kit.same("the worth", x.account(7), 800);
        Kit.same("the spouse at 89", x.setAge(1, 89), 20);
        Kit.same("the worth", x.account(7), 200);
        Kit.same("the spouse at 90", x.setAge(1, 90), 89);
        Kit.same("the worth", x.account(7), 100);
    }

    private static void addGift() {
        Kit.about("promise 25: Returns what the person gets from the fund then; NONE if it is no heir");
        EstateSettlement x = Kit.estate("person s spouse;person a;person b under a;person c;person d dead;asset 100;share 1 0;");
        Kit.same("the spouse", x.addGift(0, 5), NONE);
        Kit.same("one below an heir", x.addGift(2, 5), NONE);
        Kit.same("one who is dead", x.addGift(4, 5), NONE);
        Kit.same("0", x.addGift(1, 0), 50);
        Kit.same("the due", x.addGift(1, 100), 0);
        Kit.same("a cent more: it is left out", x.addGift(1, 1), 0);
        Kit.same("the other", x.addGift(3, MOST), 0);
        Kit.same("the greater gift is left out", x.leftOut(), 0b1000);
        Kit.same("and the fund is a's", x.given(1), 100);
        EstateSettlement y = Kit.estate("person a;person b;asset 100;legacy a 10;");
        Kit.same("without the legacy", y.addGift(0, 3), 44);
        y.refuse(1, true);
        Kit.same("one who refuses", y.addGift(1, 3), NONE);
        Kit.same("the greatest gift to the only heir", y.addGift(0, MOST), 90);
        Kit.about("promise 25: amount: 0 to 9999999");
        Kit.same("the sum", y.person(0, 5), MOST + 3);
        Kit.same("so many gifts", y.size(3), 3);
    }

    private static void addGiftUpToEight() {
        Kit.about("promise 25: IllegalStateException if there are 8 gifts");
        for (int inText = 0; inText <= 8; inText++) {
            EstateSettlement x = Kit.estate("person a;person b;" + "gift b 1;".repeat(inText));
            for (int gift = inText; gift < 8; gift++) {
                Kit.same("gift " + gift, x.addGift(0, 0), 0);
                Kit.same("so many gifts", x.size(3), gift + 1);
            }
            Kit.raises("the 9th gift", Kit.STATE, () -> x.addGift(0, 5));
            Kit.raises("the 9th gift of 0", Kit.STATE, () -> x.addGift(1, 0));
            Kit.raises("the 9th gift of nobody", Kit.INDEX, () -> x.addGift(2, 5));
            Kit.same("so many gifts", x.size(3), 8);
            Kit.same("so many changes", x.undo(), inText < 8 ? 7 - inText : NONE);
        }
        EstateSettlement y = full();
        Kit.same("undo makes room", y.undo(), 0);
        Kit.same("for an 8th", y.addGift(0, 1), 900 - 56);
        Kit.raises("but for no 9th", Kit.STATE, () -> y.addGift(0, 1));
    }

    private static void addDebt() {
        Kit.about("promise 26: Returns what is paid of it; rank: 1 to 5, amount: 0 to 9999999");
        EstateSettlement x = Kit.estate("asset 100;debt 3 60;");
        Kit.same("rank 5, what is left", x.addDebt(5, MOST), 40);
        Kit.same("rank 5, split", x.addDebt(5, MOST), 20);
        Kit.same("rank 1 of 0", x.addDebt(1, 0), 0);
        Kit.same("rank 4, before rank 5", x.addDebt(4, 40), 40);
        Kit.same("rank 3, a third of it", x.addDebt(3, 120), 66);
        Kit.same("the first has the cent", x.debt(0, 2), 34);
        Kit.same("rank 1", x.addDebt(1, 100), 100);
        Kit.same("rank 2, nothing is left", x.addDebt(2, 1), 0);
        Kit.same("paid", x.account(1), 100);
        Kit.same("not paid", x.account(2), 60 + 2 * MOST + 40 + 120 + 1);
        int[] ranks = {3, 5, 5, 1, 4, 3, 1, 2};
        int[] amounts = {60, MOST, MOST, 0, 40, 120, 100, 1};
        for (int debt = 0; debt < 8; debt++) {
            Kit.same("rank of " + debt, x.debt(debt, 0), ranks[debt]);
            Kit.same("amount of " + debt, x.debt(debt, 1), amounts[debt]);
        }
    }

    private static void addDebtUpToEight() {
        Kit.about("promise 26: IllegalStateException if there are 8 debts");
        for (int inText = 0; inText <= 8; inText++) {
            EstateSettlement x = Kit.estate("asset 9;" + "debt 1 1;".repeat(inText));
            for (int debt = inText; debt < 8; debt++) {
                Kit.same("debt " + debt, x.addDebt(2, 1), 1);
                Kit.same("so many debts", x.size(2), debt + 1);
            }
            Kit.raises("the 9th debt", Kit.STATE, () -> x.addDebt(1, 1));
            Kit.raises("the 9th debt of 0", Kit.STATE, () -> x.addDebt(5, 0));
            Kit.raises("the 9th debt of rank 6", Kit.ARGUMENT, () -> x.addDebt(6, 1));
            Kit.raises("the 9th debt of -1", Kit.ARGUMENT, () -> x.addDebt(1, -1));
            Kit.same("so many debts", x.size(2), 8);
            Kit.same("so many changes", x.undo(), inText < 8 ? 7 - inText : NONE);
        }
    }

    private static void setValue() {
        Kit.about("promise 27: Returns the net estate then; value: 0 to 9999999");
        EstateSettlement x = Kit.estate("asset 9999999;".repeat(7) + "asset 5 charge 50;debt 1 9;");
        Kit.same("the last to 0", x.setValue(7, 0), 69999993);
        Kit.same("the last to 1", x.setValue(7, 1), 69999994);
        Kit.same("the last to the most", x.setValue(7, MOST), 69999993 + 5000000);
        Kit.same("its value", x.asset(7, 0), MOST);
        Kit.same("its net value", x.asset(7, 1), 5000000);
        Kit.same("the same once more", x.setValue(7, MOST), 69999993 + 5000000);
        Kit.same("the first to 0", x.setValue(0, 0), 59999994 + 5000000);
        Kit.same("the residue is less by the debt", x.account(4), 59999994 + 5000000 - 9);
        Kit.same("a whole charge leaves nothing", Kit.estate("asset 0 charge 100;").setValue(0, MOST), 0);
    }

    private static void setAccrue() {
        Kit.about("promise 28: true for line, false for others; returns the heirs then, as bits");
        Kit.same("without persons", new EstateSettlement().setAccrue(false), 0);
        EstateSettlement x = Kit.estate("person s spouse;person a;person b under a;asset 100;accrue others;");
        Kit.same("line", x.setAccrue(true), 0b10);
        x.refuse(1, true);
        Kit.same("line, and a refuses", x.heirs(), 0b100);
        Kit.same("line once more", x.setAccrue(true), 0b100);
        Kit.same("others", x.setAccrue(false), 0);
        Kit.same("the spouse has all", x.given(0), 100);
        Kit.same("others once more", x.setAccrue(false), 0);
        Kit.same("the setting", x.size(9), 0);
        Kit.same("line again", x.setAccrue(true), 0b100);
        Kit.same("the setting", x.size(9), 1);
    }

    // ---- promise 29

    private static void changesThatAlterNothing() {
        Kit.about("promise 29: The methods from refuse to setAccrue are changes if they throw no exception, also if they alter nothing");
        List<Kit.Action> idle = List.of(x -> x.refuse(0, false), x -> x.refuse(1, true), x -> x.die(2), x -> x.setAge(0, 50),
                x -> x.setValue(0, 700), x -> x.setAccrue(true), x -> x.addGift(1, 0), x -> x.addDebt(5, 0));
        for (int change = 0; change < idle.size(); change++) {
            EstateSettlement x = Kit.estate("person a;person b;person d dead;asset 900;");
            x.refuse(1, true);
            x.setValue(0, 700);
            String before = Kit.pictureOf(x);
            idle.get(change).on(x);
            if (change < 6) {
                Kit.samePicture("idle change " + change, x, before);
            }
            Kit.same("idle change " + change + " is undone", x.undo(), 2);
            Kit.samePicture("undo of idle change " + change, x, before);
            Kit.same("then the one before", x.undo(), 1);
            Kit.same("which did alter something", x.account(0), 900);
            Kit.same("then the first", x.undo(), 0);
            Kit.same("which did, too", x.person(1, 3), 0);
            Kit.same("no more", x.undo(), NONE);
        }
    }

    private static void tenChanges() {
        Kit.about("promise 29: The latest 10 changes can be undone, the latest first; "
                + "the number of changes that can still be undone; NONE if there was none to undo");
        for (int changes = 0; changes <= 23; changes++) {
            EstateSettlement x = Kit.estate("asset 0;");
            for (int value = 1; value <= changes; value++) {
                x.setValue(0, value);
            }
            int most = Math.min(10, changes);
            for (int undone = 1; undone <= most; undone++) {
                Kit.same(changes + " changes: left", x.undo(), most - undone);
                Kit.same(changes + " changes: the value", x.asset(0, 0), changes - undone);
            }
            Kit.same(changes + " changes: no more", x.undo(), NONE);
            Kit.same(changes + " changes: nor then", x.undo(), NONE);
            Kit.same(changes + " changes: the value stays", x.asset(0, 0), changes - most);
        }
        Kit.about("promise 29: Undoes the latest change that has not been undone");
        EstateSettlement x = Kit.estate("asset 0;");
        for (int value = 1; value <= 10; value++) {
            x.setValue(0, value);
        }
        Kit.same("the 10th", x.undo(), 9);
        x.setValue(0, 20);
        Kit.same("a 10th in its place", x.undo(), 9);
        Kit.same("the value", x.asset(0, 0), 9);
        x.setValue(0, 30);
        x.setValue(0, 40);
        Kit.same("an 11th", x.undo(), 9);
        Kit.same("the value", x.asset(0, 0), 30);
        for (int left = 8; left >= 0; left--) {
            Kit.same("left", x.undo(), left);
        }
        Kit.same("the second change is the first one left", x.asset(0, 0), 1);
        Kit.same("no more", x.undo(), NONE);
    }

    private static void undoOfEachChange() {
        Kit.about("promise 29: Undoes the latest change: each sort of them");
        List<Kit.Action> changes = List.of(x -> x.refuse(0, true), x -> x.refuse(1, true), x -> x.die(0), x -> x.die(2),
                x -> x.setAge(1, 120), x -> x.setAge(0, 0), x -> x.addGift(0, 500), x -> x.addGift(2, MOST), x -> x.addDebt(1, 3),
                x -> x.addDebt(5, MOST), x -> x.setValue(0, 0), x -> x.setValue(1, MOST), x -> x.setAccrue(false));
        String text = "person a;person s spouse;person b;person c under a;asset 900;asset 40 charge 3;debt 2 8;gift a 5;legacy s 7;life 9;";
        for (int first = 0; first < changes.size(); first++) {
            for (int second = 0; second < changes.size(); second++) {
                EstateSettlement x = Kit.estate(text);
                EstateSettlement y = Kit.estate(text);
                changes.get(first).on(x);
                changes.get(second).on(x);
                changes.get(first).on(y);
                Kit.same("undo of " + second + " behind " + first, x.undo(), 1);
                Kit.sameInside("undo of " + second + " behind " + first, x, y);
            }
        }
    }

    private static void whatEndsTheHistory() {
        Kit.about("promise 29: A successful parse clears the undo history; so does restoreSnapshot; nothing else does");
        String text = "person a;asset 5;";
        EstateSettlement x = Kit.estate(text);
        x.setValue(0, 6);
        Kit.same("a parse error", Kit.parse(x, "asset 7"), 1);
        x.saveSnapshot(0);
        x.find();
        x.append(0, 0, 0, 0, 0);
        Kit.raises("a change that throws", Kit.ARGUMENT, () -> x.setValue(0, -1));
        Kit.raises("an empty slot", Kit.STATE, () -> x.restoreSnapshot(1));
        Kit.same("the change is undone", x.undo(), 0);
        Kit.same("the value", x.asset(0, 0), 5);
        x.setValue(0, 6);
        Kit.same("restored", x.restoreSnapshot(0), 6);
        Kit.same("nothing to undo", x.undo(), NONE);
        Kit.same("the restored value stays", x.asset(0, 0), 6);
        x.setValue(0, 9);
        x.find();
        Kit.same("the same text", Kit.parse(x, text), 0);
        Kit.same("nothing to undo", x.undo(), NONE);
        Kit.same("the text's value stays", x.asset(0, 0), 5);
        x.setValue(0, 1);
        Kit.same("one change since", x.undo(), 0);
        Kit.same("to the text's value", x.asset(0, 0), 5);
        x.setValue(0, 1);
        Kit.same("the empty text", x.parse(0), 0);
        Kit.same("nothing to undo", x.undo(), NONE);
        Kit.same("no asset", x.size(1), 0);
    }

    // ---- promises 30 and 31

    private static void saveSnapshot() {
        Kit.about("promise 30: Returns whether there was an earlier one; in place of an earlier one");
        for (int slot = 0; slot < 2; slot++) {
            EstateSettlement x = Kit.estate("asset 5;");
            Kit.no("the first in slot " + slot, x.saveSnapshot(slot));
            Kit.yes("the second in slot " + slot, x.saveSnapshot(slot));
            Kit.no("the first in the other", x.saveSnapshot(1 - slot));
            x.setValue(0, 6);
            Kit.yes("the third in slot " + slot, x.saveSnapshot(slot));
            Kit.same("saving is no change", x.undo(), 0);
            Kit.same("nor is it undone", x.restoreSnapshot(slot), 6);
            Kit.same("the other slot", x.restoreSnapshot(1 - slot), 5);
            Kit.same("a parse error", Kit.parse(x, "x"), 1);
            Kit.yes("leaves the slot", x.saveSnapshot(slot));
            Kit.same("a success", x.parse(0), 0);
            Kit.raises("empties slot 0", Kit.STATE, () -> x.restoreSnapshot(0));
            Kit.raises("empties slot 1", Kit.STATE, () -> x.restoreSnapshot(1));
            Kit.no("so there is no earlier one", x.saveSnapshot(slot));
            Kit.no("in the other, too", x.saveSnapshot(1 - slot));
        }
        Kit.no("of the empty estate", new EstateSettlement().saveSnapshot(0));
    }

    private static void restoreSnapshot() {
        Kit.about("promise 31: a snapshot holds everything that changes can change; it stays stored");
        List<Kit.Action> changes = List.of(x -> x.refuse(0, true), x -> x.die(1), x -> x.setAge(1, 9), x -> x.addGift(2, MOST),
                x -> x.addDebt(1, 3), x -> x.setValue(1, MOST), x -> x.setAccrue(false));
        String text = "person a;person s spouse;person b;person c under a;asset 900;asset 40 charge 3;debt 2 8;gift a 5;legacy s 7;life 9;";
        for (Kit.Action change : changes) {
            EstateSettlement x = Kit.estate(text);
            x.refuse(3, true);
            x.saveSnapshot(0);
            String before = Kit.pictureOf(x);
            change.on(x);
            x.saveSnapshot(1);
            String after = Kit.pictureOf(x);
            Kit.no("the change is seen", before.equals(after));
            x.restoreSnapshot(0);
            Kit.samePicture("before the change", x, before);
            x.restoreSnapshot(1);
            Kit.samePicture("behind the change", x, after);
            Kit.same("The undo history is cleared", x.undo(), NONE);
        }
        Kit.about("promise 31: Returns the residue then");
        EstateSettlement x = Kit.estate("asset 100;debt 1 30;");
        x.saveSnapshot(0);
        x.addDebt(2, 70);
        x.saveSnapshot(1);
        x.setValue(0, 9);
        Kit.same("slot 0", x.restoreSnapshot(0), 70);
        Kit.same("slot 1", x.restoreSnapshot(1), 0);
        Kit.same("slot 1 once more", x.restoreSnapshot(1), 0);
        Kit.same("slot 0 once more", x.restoreSnapshot(0), 70);
        Kit.same("the debts", x.size(2), 1);
        EstateSettlement y = new EstateSettlement();
        y.saveSnapshot(1);
        Kit.same("of the empty estate", y.restoreSnapshot(1), 0);
        Kit.about("promise 31: IllegalStateException if the slot is empty");
        Kit.raises("slot 0", Kit.STATE, () -> y.restoreSnapshot(0));
        y.saveSnapshot(0);
        Kit.same("no longer", y.restoreSnapshot(0), 0);
    }

    private static void slotsAreApart() {
        Kit.about("promise 31: There are two snapshot slots, 0 and 1");
        EstateSettlement x = Kit.estate("asset 1;");
        x.saveSnapshot(0);
        x.setValue(0, 2);
        x.saveSnapshot(1);
        x.setValue(0, 3);
        Kit.same("undo leaves the slots", x.undo(), 1);
        x.undo();
        x.setValue(0, 4);
        Kit.same("slot 1", x.restoreSnapshot(1), 2);
        x.setValue(0, 5);
        x.saveSnapshot(1);
        Kit.same("slot 0", x.restoreSnapshot(0), 1);
        Kit.same("slot 1 then", x.restoreSnapshot(1), 5);
        x.setValue(0, 6);
        Kit.same("a change behind a restored one", x.undo(), 0);
        Kit.same("leads back to it", x.asset(0, 0), 5);
    }

    private static void manyCalls() {
        Kit.about("promises 1 to 31: An object is used for at most 512 calls after it has been made");
        EstateSettlement x = Kit.estate("asset 0;person a;");
        for (int call = 3; call < 512; call++) {
            Kit.same("call " + call, x.setValue(0, call), call);
        }
        Kit.same("the 512th call", x.given(0), 511);
    }
}
