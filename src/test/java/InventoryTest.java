/** Promises 8 to 12: assets, debts, legacies, accounts and the table of factors. */
public final class InventoryTest {
    public static void main(String[] args) {
        assets();
        debtsByRank();
        debtsSplit();
        legacies();
        legaciesAbate();
        accounts();
        accountsWithoutHeirs();
        factors();
        largestAmounts();
        Kit.finish();
    }

    private static void assets() {
        Kit.about("promise 8");
        EstateSettlement x = Kit.estate("asset 99 charge 33;asset 101 charge 1;asset 9999999 charge 99;asset 1 charge 99;");
        int[][] due = {{99, 67}, {101, 100}, {9999999, 100000}, {1, 1}};
        for (int asset = 0; asset < due.length; asset++) {
            Kit.same("value of " + asset, x.asset(asset, 0), due[asset][0]);
            Kit.same("net value of " + asset, x.asset(asset, 1), due[asset][1]);
        }
        Kit.same("net estate", x.account(0), 67 + 100 + 100000 + 1);
        Kit.raises("asset(4, 0)", Kit.INDEX, () -> x.asset(4, 0));
        Kit.raises("asset(-1, 0)", Kit.INDEX, () -> x.asset(-1, 0));
        Kit.raises("asset(4, 2): the asset first", Kit.INDEX, () -> x.asset(4, 2));
        Kit.raises("asset(3, 2)", Kit.ARGUMENT, () -> x.asset(3, 2));
        Kit.raises("asset(3, -1)", Kit.ARGUMENT, () -> x.asset(3, -1));
    }

    private static void debtsByRank() {
        Kit.about("promises 9 and 11");
        EstateSettlement x = Kit.estate("asset 100;debt 3 50;debt 1 30;debt 5 10;debt 2 20;debt 4 0;");
        int[][] due = {{3, 50, 50}, {1, 30, 30}, {5, 10, 0}, {2, 20, 20}, {4, 0, 0}};
        for (int debt = 0; debt < due.length; debt++) {
            for (int what = 0; what <= 2; what++) {
                Kit.same("debt " + debt + " " + what, x.debt(debt, what), due[debt][what]);
            }
        }
        Kit.same("debts paid", x.account(1), 100);
        Kit.same("debts not paid", x.account(2), 10);
        Kit.raises("debt(5, 0)", Kit.INDEX, () -> x.debt(5, 0));
        Kit.raises("debt(-1, 0)", Kit.INDEX, () -> x.debt(-1, 0));
        Kit.raises("debt(5, 3): the debt first", Kit.INDEX, () -> x.debt(5, 3));
        Kit.raises("debt(4, 3)", Kit.ARGUMENT, () -> x.debt(4, 3));
        Kit.raises("debt(4, -1)", Kit.ARGUMENT, () -> x.debt(4, -1));
    }

    private static void debtsSplit() {
        Kit.about("promise 9");
        // 20 of rank 2 are left for 0 + 7 + 30 + 10 = 47: 2, 12, 4 and two cents for the first ones.
        EstateSettlement x = Kit.estate("asset 30;debt 2 0;debt 2 7;debt 1 10;debt 2 30;debt 2 10;debt 3 5;");
        int[] due = {0, 3, 10, 13, 4, 0};
        for (int debt = 0; debt < due.length; debt++) {
            Kit.same("paid of debt " + debt, x.debt(debt, 2), due[debt]);
        }
        Kit.same("paid", x.account(1), 30);
        Kit.same("not paid", x.account(2), 32);
        Kit.same("residue", x.account(4), 0);
        EstateSettlement y = Kit.estate("asset 47;debt 2 7;debt 2 30;debt 2 10;");
        Kit.same("a rank that is just paid", y.debt(2, 2), 10);
        Kit.same("nothing is left", y.account(4), 0);
        EstateSettlement z = Kit.estate("debt 1 5;debt 1 0;");
        Kit.same("nothing to pay from", z.debt(0, 2), 0);
        Kit.same("not paid", z.account(2), 5);
    }

    private static void legacies() {
        Kit.about("promise 10");
        EstateSettlement x = Kit.estate("person s spouse;person a;person b dead;person c under b;asset 1000;"
                + "legacy s 100;legacy b 200;legacy c 300;legacy a 0;legacy c 50;");
        int[][] due = {{0, 100, 100, 0}, {2, 200, 0, 1}, {3, 300, 300, 0}, {1, 0, 0, 0}, {3, 50, 50, 0}};
        for (int legacy = 0; legacy < due.length; legacy++) {
            for (int what = 0; what <= 3; what++) {
                Kit.same("legacy " + legacy + " " + what, x.legacy(legacy, what), due[legacy][what]);
            }
        }
        Kit.same("legacies paid", x.account(3), 450);
        Kit.same("residue", x.account(4), 550);
        x.refuse(3, true);
        Kit.same("a refused legacy lapses", x.legacy(2, 3), 1);
        Kit.same("nothing is paid of it", x.legacy(2, 2), 0);
        Kit.same("the residue grows", x.account(4), 900);
        x.die(0);
        Kit.same("a dead spouse's legacy lapses", x.legacy(0, 3), 1);
        Kit.raises("legacy(5, 0)", Kit.INDEX, () -> x.legacy(5, 0));
        Kit.raises("legacy(-1, 0)", Kit.INDEX, () -> x.legacy(-1, 0));
        Kit.raises("legacy(5, 4): the legacy first", Kit.INDEX, () -> x.legacy(5, 4));
        Kit.raises("legacy(4, 4)", Kit.ARGUMENT, () -> x.legacy(4, 4));
        Kit.raises("legacy(4, -1)", Kit.ARGUMENT, () -> x.legacy(4, -1));
    }

    private static void legaciesAbate() {
        Kit.about("promise 10");
        // 90 are left for 50 + 70 + 0 + 80 = 200: 22, 31, 36 and a cent; b's legacy does not count.
        EstateSettlement x = Kit.estate("person a;person b dead;asset 100;debt 5 10;"
                + "legacy b 60;legacy a 0;legacy a 50;legacy a 70;legacy a 80;");
        int[] due = {0, 0, 23, 31, 36};
        for (int legacy = 0; legacy < due.length; legacy++) {
            Kit.same("paid of legacy " + legacy, x.legacy(legacy, 2), due[legacy]);
        }
        Kit.same("legacies paid", x.account(3), 90);
        Kit.same("residue", x.account(4), 0);
        Kit.same("an abating legacy does not lapse", x.legacy(4, 3), 0);
    }

    private static void accounts() {
        Kit.about("promise 11");
        // Residue 1001: share 1001 * 2 / 3 = 667, rest 334, burdened 334 * 35 / 100 = 116, worth 116 * 40 / 100 = 46.
        EstateSettlement x = Kit.estate("person a;person s age 69 spouse;asset 1111;debt 1 60;legacy a 50;share 3 2;life 35;");
        int[] due = {1111, 60, 0, 50, 1001, 667, 116, 46, 288, 0};
        for (int what = 0; what <= 9; what++) {
            Kit.same("account " + what, x.account(what), due[what]);
        }
        Kit.same("given to the spouse", x.given(1), 713);
        Kit.same("given to the heir", x.given(0), 338);
        Kit.raises("account(10)", Kit.ARGUMENT, () -> x.account(10));
        Kit.raises("account(-1)", Kit.ARGUMENT, () -> x.account(-1));
        x.refuse(1, true);
        int[] refused = {1111, 60, 0, 50, 1001, 0, 0, 0, 1001, 0};
        for (int what = 0; what <= 9; what++) {
            Kit.same("account " + what + " when the spouse refuses", x.account(what), refused[what]);
        }
        EstateSettlement y = Kit.estate("person a;asset 400;life 50;");
        int[] none = {400, 0, 0, 0, 400, 0, 0, 0, 400, 0};
        for (int what = 0; what <= 9; what++) {
            Kit.same("account " + what + " without a spouse", y.account(what), none[what]);
        }
        EstateSettlement z = Kit.estate("person a;person s spouse;asset 400;life 100;");
        Kit.same("the usual share", z.account(5), 100);
        Kit.same("all of the rest is burdened", z.account(6), 300);
        Kit.same("the usual age", z.account(7), 150);
    }

    private static void accountsWithoutHeirs() {
        Kit.about("promise 11");
        EstateSettlement x = Kit.estate("person a dead;person s spouse;asset 500;debt 1 100;life 50;legacy s 30;");
        int[] due = {500, 100, 0, 30, 370, 370, 0, 0, 0, 0};
        for (int what = 0; what <= 9; what++) {
            Kit.same("account " + what + " without heirs", x.account(what), due[what]);
        }
        Kit.same("given to the spouse", x.given(1), 400);
        x.refuse(1, true);
        int[] state = {500, 100, 0, 0, 400, 0, 0, 0, 0, 400};
        for (int what = 0; what <= 9; what++) {
            Kit.same("account " + what + " for the state", x.account(what), state[what]);
        }
        Kit.same("without persons the state gets it", Kit.estate("asset 7;").account(9), 7);
        Kit.yes("balanced", x.isBalanced());
    }

    private static void factors() {
        Kit.about("promise 12");
        EstateSettlement x = new EstateSettlement();
        for (int age = 0; age <= 120; age++) {
            int due = 90;
            for (int from = 20; from <= age && due > 10; from += 10) {
                due -= 10;
            }
            Kit.same("factor " + age, x.factor(age), due);
            EstateSettlement y = Kit.estate("person a;person s age " + age + " spouse;asset 1000;share 1 0;life 10;");
            Kit.same("worth at " + age, y.account(7), due);
        }
        Kit.raises("factor(-1)", Kit.ARGUMENT, () -> x.factor(-1));
        Kit.raises("factor(121)", Kit.ARGUMENT, () -> x.factor(121));
        Kit.raises("factor(MIN)", Kit.ARGUMENT, () -> x.factor(Integer.MIN_VALUE));
    }

    private static void largestAmounts() {
        Kit.about("promises 9 and 11");
        StringBuilder text = new StringBuilder("person a;person s age 0 spouse;share 99 98;life 100;");
        for (int i = 0; i < 8; i++) {
            text.append("asset 9999999;");
        }
        EstateSettlement x = Kit.estate(text.toString());
        Kit.same("net estate", x.account(0), 79999992);
        Kit.same("share", x.account(5), (int) (79999992L * 98 / 99));
        for (int i = 0; i < 8; i++) {
            x.addDebt(2, 9999999 - i);
        }
        Kit.same("debts", x.account(1), 79999992 - 28);
        x.setValue(0, 0);
        int sum = 0;
        for (int i = 0; i < 8; i++) {
            sum += x.debt(i, 2);
        }
        Kit.same("debts are split", sum, 79999992 - 9999999);
        Kit.same("the first debt's part", x.debt(0, 2), (int) (69999993L * 9999999 / 79999964) + 1);
    }
}
