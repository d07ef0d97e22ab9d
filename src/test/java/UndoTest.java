import java.util.List;

/** Promises 29 to 31: undo and the snapshot slots. */
public final class UndoTest {
    private static final int NONE = EstateSettlement.NONE;
    private static final String TEXT = "person s spouse;person a;person b under a;person c;asset 1000;asset 50 charge 10;"
            + "debt 2 30;gift a 40;legacy c 20;life 30;";

    public static void main(String[] args) {
        everyChange();
        tenChanges();
        whatIsNoChange();
        snapshots();
        restoreOneOfTwo();
        Kit.finish();
    }

    private static final List<Kit.Action> CHANGES = List.of(x -> x.refuse(1, true), x -> x.die(3), x -> x.setAge(0, 90),
            x -> x.addGift(2, 5000), x -> x.addDebt(1, 300), x -> x.setValue(0, 800), x -> x.setAccrue(false),
            x -> x.refuse(1, true));

    private static EstateSettlement changed(int changes) {
        EstateSettlement x = Kit.estate(TEXT);
        for (int change = 0; change < changes; change++) {
            CHANGES.get(change).on(x);
        }
        return x;
    }

    private static void everyChange() {
        Kit.about("promise 29");
        for (int left = CHANGES.size() - 1; left >= 0; left--) {
            EstateSettlement x = changed(CHANGES.size());
            for (int undone = CHANGES.size() - 1; undone >= left; undone--) {
                Kit.same("left to undo", x.undo(), undone);
            }
            Kit.samePicture("undo of change " + left, x, Kit.pictureOf(changed(left)));
        }
        EstateSettlement y = changed(1);
        y.undo();
        Kit.same("nothing left to undo", y.undo(), NONE);
        Kit.samePicture("undo of nothing", y, Kit.pictureOf(changed(0)));
        y.addGift(1, 7);
        Kit.same("a gift takes the place of an undone one", y.person(1, 5), 47);
        Kit.same("undo it", y.undo(), 0);
        Kit.samePicture("undo of the other gift", y, Kit.pictureOf(changed(0)));
    }

    private static void tenChanges() {
        Kit.about("promise 29");
        EstateSettlement x = Kit.estate(TEXT);
        for (int value = 1; value <= 25; value++) {
            x.setValue(0, value);
        }
        for (int undone = 1; undone <= 10; undone++) {
            Kit.same("left of 25 changes", x.undo(), 10 - undone);
            Kit.same("the value before", x.asset(0, 0), 25 - undone);
        }
        Kit.same("the eleventh", x.undo(), NONE);
        Kit.same("stays", x.asset(0, 0), 15);
        for (int value = 31; value <= 38; value++) {
            x.setValue(0, value);
        }
        Kit.same("seven are left", x.undo(), 7);
        Kit.same("the latest is undone", x.asset(0, 0), 37);
        for (int value = 41; value <= 44; value++) {
            x.setValue(0, value);
        }
        Kit.same("ten are the most", x.undo(), 9);
        for (int i = 0; i < 9; i++) {
            x.undo();
        }
        Kit.same("the value before the latest ten", x.asset(0, 0), 31);
        Kit.same("no more", x.undo(), NONE);
    }

    private static void whatIsNoChange() {
        Kit.about("promise 29");
        EstateSettlement x = Kit.estate(TEXT);
        x.setValue(0, 5);
        x.setValue(0, 6);
        x.saveSnapshot(0);
        Kit.pictureOf(x);
        x.helper(1);
        x.givenIf(1, 2);
        x.tooMuch(1);
        x.find();
        x.append(0, 0, 0, 0, 0);
        Kit.raises("a change that throws", Kit.ARGUMENT, () -> x.setValue(0, -1));
        Kit.same("the latest change is undone", x.undo(), 1);
        Kit.same("value", x.asset(0, 0), 5);
        Kit.same("undo empties no slot", x.restoreSnapshot(0), 6 + 45 - 30 - 20);
        Kit.same("value", x.asset(0, 0), 6);
    }

    /** Slot 0 holds what the text says, slot 1 what seven changes have made of it. */
    private static EstateSettlement withSnapshots() {
        EstateSettlement x = Kit.estate(TEXT);
        Kit.no("the first snapshot", x.saveSnapshot(0));
        x.refuse(1, true);
        x.die(2);
        x.setAge(0, 7);
        x.addGift(3, 100);
        x.addDebt(4, 100);
        x.setValue(1, 9999);
        x.setAccrue(false);
        Kit.no("the other slot is still empty", x.saveSnapshot(1));
        return x;
    }

    private static void snapshots() {
        Kit.about("promises 30 and 31");
        EstateSettlement y = Kit.estate(TEXT);
        Kit.raises("saveSnapshot(2)", Kit.INDEX, () -> y.saveSnapshot(2));
        Kit.raises("saveSnapshot(-1)", Kit.INDEX, () -> y.saveSnapshot(-1));
        Kit.raises("restoreSnapshot(2)", Kit.INDEX, () -> y.restoreSnapshot(2));
        Kit.raises("restoreSnapshot(-1)", Kit.INDEX, () -> y.restoreSnapshot(-1));
        y.setValue(1, 7);
        Kit.raises("an empty slot", Kit.STATE, () -> y.restoreSnapshot(0));
        Kit.same("which leaves the history", y.undo(), 0);
        String before = Kit.pictureOf(y);
        y.saveSnapshot(0);
        Kit.samePicture("saveSnapshot", y, before);

        EstateSettlement x = withSnapshots();
        String after = Kit.pictureOf(x);
        Kit.same("the residue then", x.restoreSnapshot(0), 1045 - 30 - 20);
        Kit.samePicture("restoreSnapshot", x, before);
        Kit.same("the history is cleared", x.undo(), NONE);
        x.setValue(1, 1);
        x.restoreSnapshot(0);
        Kit.samePicture("the slot stays stored", x, before);
        x.restoreSnapshot(1);
        Kit.samePicture("the other slot", x, after);

        EstateSettlement z = withSnapshots();
        Kit.yes("in place of an earlier one", z.saveSnapshot(0));
        z.undo();
        z.setValue(1, 2);
        z.restoreSnapshot(0);
        Kit.samePicture("the later snapshot", z, after);
        Kit.same("undo after restoring", z.undo(), NONE);
    }

    private static void restoreOneOfTwo() {
        Kit.about("promise 31");
        EstateSettlement x = Kit.estate(TEXT);
        x.saveSnapshot(1);
        Kit.raises("slot 0 is empty", Kit.STATE, () -> x.restoreSnapshot(0));
        x.setValue(0, 3);
        x.addDebt(3, 4);
        x.undo();
        Kit.same("size after undo", x.size(2), 1);
        Kit.same("restored", x.restoreSnapshot(1), 995);
        Kit.same("restored value", x.asset(0, 0), 1000);
    }
}
