/** Promises 22 to 28: the changes, what they answer, and what they refuse. */
public final class ChangesTest {
    private static final int NONE = EstateSettlement.NONE;
    private static final int MOST = 9999999;

    public static void main(String[] args) {
        refuse();
        die();
        setAge();
        addGift();
        addDebt();
        setValue();
        setAccrue();
        Kit.finish();
    }

    /** The call throws, and leaves what the text describes as it was. */
    private static void refused(String what, String text, Class<?> due, Kit.Action call) {
        Kit.refuses(what, due, () -> Kit.estate(text), call);
    }

    private static void refuse() {
        Kit.about("promise 22");
        String text = "person a;person b;person s spouse;asset 1000;";
        EstateSettlement x = Kit.estate(text);
        refused("refuse(3, true)", text, Kit.INDEX, y -> y.refuse(3, true));
        refused("refuse(-1, false)", text, Kit.INDEX, y -> y.refuse(-1, false));
        Kit.no("did not refuse", x.refuse(0, true));
        Kit.yes("refused", x.refuse(0, true));
        Kit.same("refuses", x.person(0, 3), 1);
        Kit.same("b has it", x.given(1), 750);
        Kit.yes("refused", x.refuse(0, false));
        Kit.no("no longer", x.refuse(0, false));
        Kit.same("back", x.given(0), 375);
        Kit.same("four changes", x.undo(), 3);
        x.refuse(2, true);
        Kit.same("the spouse refuses", x.account(8), 1000);
    }

    private static void die() {
        Kit.about("promise 23");
        String text = "person a;person b under a;person c;person s spouse;asset 1000;legacy a 100;";
        EstateSettlement x = Kit.estate(text);
        refused("die(4)", text, Kit.INDEX, y -> y.die(4));
        refused("die(-1)", text, Kit.INDEX, y -> y.die(-1));
        Kit.same("a dies", x.die(0), 0b110);
        Kit.same("a is dead", x.person(0, 2), 1);
        Kit.same("a's legacy lapses", x.legacy(0, 3), 1);
        Kit.same("a dies again", x.die(0), 0b110);
        Kit.same("the spouse dies", x.die(3), 0b110);
        Kit.same("all goes to the heirs", x.account(8), 1000);
        Kit.same("c dies", x.die(2), 0b10);
        Kit.same("b dies", x.die(1), 0);
        Kit.same("the state", x.account(9), 1000);
        Kit.same("five changes", x.undo(), 4);
    }

    private static void setAge() {
        Kit.about("promise 24");
        String text = "person a;person s age 19 spouse;asset 1000;share 1 0;life 100;";
        EstateSettlement x = Kit.estate(text);
        refused("setAge(2, 5)", text, Kit.INDEX, y -> y.setAge(2, 5));
        refused("setAge(2, 121): the person first", text, Kit.INDEX, y -> y.setAge(2, 121));
        refused("setAge(1, 121)", text, Kit.ARGUMENT, y -> y.setAge(1, 121));
        refused("setAge(1, -1)", text, Kit.ARGUMENT, y -> y.setAge(1, -1));
        Kit.same("worth at 19", x.account(7), 900);
        Kit.same("the age before", x.setAge(1, 20), 19);
        Kit.same("worth at 20", x.account(7), 800);
        Kit.same("the age before", x.setAge(1, 120), 20);
        Kit.same("worth at 120", x.account(7), 100);
        Kit.same("the usual age before", x.setAge(0, 0), 50);
        Kit.same("the age", x.person(0, 1), 0);
        Kit.same("three changes", x.undo(), 2);
    }

    private static void addGift() {
        Kit.about("promise 25");
        String text = "person a;person b;person c dead;asset 100;gift a 10;";
        EstateSettlement x = Kit.estate(text);
        refused("addGift(3, 5)", text, Kit.INDEX, y -> y.addGift(3, 5));
        refused("addGift(-1, -1): the person first", text, Kit.INDEX, y -> y.addGift(-1, -1));
        refused("addGift(0, -1)", text, Kit.ARGUMENT, y -> y.addGift(0, -1));
        refused("addGift(0, MOST + 1)", text, Kit.ARGUMENT, y -> y.addGift(0, MOST + 1));
        Kit.same("a's part then", x.addGift(0, 20), 35);
        Kit.same("the sum", x.person(0, 5), 30);
        Kit.same("the number", x.size(3), 2);
        Kit.same("no heir", x.addGift(2, 7), NONE);
        Kit.same("its gift", x.person(2, 5), 7);
        Kit.same("left out", x.addGift(0, MOST), 0);
        Kit.same("leftOut", x.leftOut(), 1);
        Kit.same("b's part then", x.addGift(1, 0), 100);
        x.addGift(1, 1);
        x.addGift(1, 2);
        Kit.same("the eighth", x.addGift(1, 3), 100);
        Kit.same("8 gifts", x.size(3), 8);
        String before = Kit.pictureOf(x);
        Kit.raises("the ninth", Kit.STATE, () -> x.addGift(1, 3));
        Kit.raises("the ninth of nobody", Kit.INDEX, () -> x.addGift(3, 3));
        Kit.raises("the ninth out of range", Kit.ARGUMENT, () -> x.addGift(1, -3));
        Kit.samePicture("the ninth gift", x, before);
        Kit.same("seven changes", x.undo(), 6);
        Kit.same("7 gifts", x.size(3), 7);
    }

    private static void addDebt() {
        Kit.about("promise 26");
        String text = "person a;asset 100;debt 3 50;";
        EstateSettlement x = Kit.estate(text);
        refused("addDebt(0, 5)", text, Kit.ARGUMENT, y -> y.addDebt(0, 5));
        refused("addDebt(6, 5)", text, Kit.ARGUMENT, y -> y.addDebt(6, 5));
        refused("addDebt(1, -1)", text, Kit.ARGUMENT, y -> y.addDebt(1, -1));
        refused("addDebt(1, MOST + 1)", text, Kit.ARGUMENT, y -> y.addDebt(1, MOST + 1));
        Kit.same("paid whole", x.addDebt(5, 10), 10);
        Kit.same("paid first", x.addDebt(1, 60), 60);
        Kit.same("an earlier rank is paid from what is left", x.debt(0, 2), 40);
        Kit.same("nothing is left", x.debt(1, 2), 0);
        Kit.same("split: 40 * 30 / 80", x.addDebt(3, 30), 15);
        Kit.same("the number", x.size(2), 4);
        Kit.same("rank", x.debt(3, 0), 3);
        Kit.same("amount", x.debt(3, 1), 30);
        x.addDebt(1, 0);
        x.addDebt(1, 0);
        x.addDebt(2, MOST);
        Kit.same("the eighth: what rank 1 leaves", x.addDebt(1, 20), 20);
        String before = Kit.pictureOf(x);
        Kit.raises("the ninth", Kit.STATE, () -> x.addDebt(1, 1));
        Kit.raises("the ninth out of range", Kit.ARGUMENT, () -> x.addDebt(6, 1));
        Kit.raises("the ninth beyond the amounts", Kit.ARGUMENT, () -> x.addDebt(1, -1));
        Kit.samePicture("the ninth debt", x, before);
        Kit.same("seven changes", x.undo(), 6);
        Kit.same("7 debts", x.size(2), 7);
    }

    private static void setValue() {
        Kit.about("promise 27");
        String text = "person a;asset 100 charge 10;asset 50;";
        EstateSettlement x = Kit.estate(text);
        refused("setValue(2, 5)", text, Kit.INDEX, y -> y.setValue(2, 5));
        refused("setValue(-1, -1): the asset first", text, Kit.INDEX, y -> y.setValue(-1, -1));
        refused("setValue(0, -1)", text, Kit.ARGUMENT, y -> y.setValue(0, -1));
        refused("setValue(0, MOST + 1)", text, Kit.ARGUMENT, y -> y.setValue(0, MOST + 1));
        Kit.same("the net estate then", x.setValue(0, 205), 205 - 20 + 50);
        Kit.same("value", x.asset(0, 0), 205);
        Kit.same("net value", x.asset(0, 1), 185);
        Kit.same("given", x.given(0), 235);
        Kit.same("to nothing", x.setValue(1, 0), 185);
        Kit.same("to the most", x.setValue(1, MOST), 185 + MOST);
        Kit.same("three changes", x.undo(), 2);
    }

    private static void setAccrue() {
        Kit.about("promise 28");
        EstateSettlement x = Kit.estate("person a;person b under a;person c;asset 100;");
        Kit.same("nobody refuses", x.setAccrue(false), 0b101);
        Kit.same("others", x.size(9), 0);
        x.refuse(0, true);
        Kit.same("line", x.setAccrue(true), 0b110);
        Kit.same("line", x.size(9), 1);
        Kit.same("others", x.setAccrue(false), 0b100);
        Kit.same("others again", x.setAccrue(false), 0b100);
        Kit.same("five changes", x.undo(), 4);
    }
}
