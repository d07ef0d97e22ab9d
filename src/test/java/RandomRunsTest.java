import java.util.Random;

/** Runs of calls by chance, with fixed seeds: the program and the model answer each alike. */
public final class RandomRunsTest {
    private static final int RUNS = 1500;
    private static final int CALLS = 120;
    private static final String[] WORDS = {"person", "asset", "debt", "gift", "legacy", "share", "life", "accrue",
        "under", "age", "dead", "spouse", "charge", "line", "others", "a", "b", "c", "abcdefgh", "abcdefghi", "q",
        ";", ";", ";", "0", "1", "5", "6", "99", "100", "101", "120", "121", "9999999", "0000001", "12345678", "\t", "A", "\u00e9"};

    private final Random random;
    private final EstateSettlement program = new EstateSettlement();
    private final Model model = new Model();
    private final StringBuilder log = new StringBuilder();

    private RandomRunsTest(long seed) {
        random = new Random(seed);
        log.append("seed ").append(seed);
    }

    public static void main(String[] args) {
        Kit.about("promises 1 to 31 against the model");
        for (int seed = 0; seed < RUNS; seed++) {
            new RandomRunsTest(seed).run();
        }
        for (int seed = 0; seed < 30000; seed++) {
            new RandomRunsTest(seed).parseOnly();
        }
        Kit.finish();
    }

    private interface Answer {
        long get();
    }

    /** Stands for an answer too, so that thrown exceptions are compared like numbers. */
    private static long answerOf(Answer answer) {
        try {
            return answer.get();
        } catch (IndexOutOfBoundsException e) {
            return e.getClass() == IndexOutOfBoundsException.class ? Long.MIN_VALUE : Long.MIN_VALUE + 9;
        } catch (IllegalArgumentException e) {
            return e.getClass() == IllegalArgumentException.class ? Long.MIN_VALUE + 1 : Long.MIN_VALUE + 9;
        } catch (IllegalStateException e) {
            return Long.MIN_VALUE + 2;
        }
    }

    private void alike(String call, Answer program, Answer model) {
        log.append('\n').append(call);
        long got = answerOf(program);
        long due = answerOf(model);
        if (got != due) {
            Kit.same(log.toString(), got, due);
        } else {
            Kit.same(call, got, due);
        }
    }

    private static long bit(boolean b) {
        return b ? 1 : 0;
    }

    // ---- texts

    private void append(String text) {
        StringBuilder padded = new StringBuilder(text);
        while (padded.length() % 20 != 0) {
            padded.append(' ');
        }
        for (int at = 0; at < padded.length(); at += 20) {
            String twenty = padded.substring(at, at + 20);
            int[] words = new int[5];
            for (int i = 0; i < 20; i++) {
                words[i / 4] = words[i / 4] << 8 | twenty.charAt(i) & 255;
            }
            alike("append " + twenty, () -> program.append(words[0], words[1], words[2], words[3], words[4]),
                    () -> model.append(twenty));
        }
    }

    private void parse(String text) {
        append(text);
        int length = random.nextInt(40) == 0 ? random.nextInt(text.length() + 30) - 5 : text.length();
        alike("parse " + length, () -> program.parse(length), () -> model.parse(length));
        alike("errorPosition", program::errorPosition, model::errorPosition);
    }

    private int amount(int scale) {
        int[] most = {2, 12, 1000, 100000, 9999999};
        return random.nextInt(most[scale] + 1);
    }

    private String estate() {
        StringBuilder text = new StringBuilder();
        int scale = random.nextInt(5);
        int persons = random.nextInt(13);
        boolean spouse = false;
        for (int p = 0; p < persons; p++) {
            text.append("person ").append((char) ('a' + p));
            boolean under = p > 0 && random.nextInt(3) != 0;
            int parent = under ? random.nextInt(p) : 0;
            if (under && !(spouse && parent == spouseAt)) {
                text.append(" under ").append((char) ('a' + parent));
            } else {
                under = false;
            }
            if (random.nextInt(4) == 0) {
                text.append(" age ").append(random.nextInt(121));
            }
            if (!under && !spouse && random.nextInt(3) == 0) {
                text.append(" spouse");
                spouse = true;
                spouseAt = p;
            } else if (random.nextInt(3) == 0) {
                text.append(" dead");
            }
            text.append(random.nextInt(5) == 0 ? " ;\n" : ";");
        }
        for (int i = random.nextInt(5); i > 0; i--) {
            text.append("asset ").append(amount(scale));
            text.append(random.nextBoolean() ? " charge " + random.nextInt(101) : "").append(';');
        }
        for (int i = random.nextInt(4); i > 0; i--) {
            text.append("debt ").append(1 + random.nextInt(5)).append(' ').append(amount(scale)).append(';');
        }
        for (int i = random.nextInt(5); i > 0 && persons > 0; i--) {
            text.append("gift ").append((char) ('a' + random.nextInt(persons))).append(' ').append(amount(scale)).append(';');
        }
        for (int i = random.nextInt(3); i > 0 && persons > 0; i--) {
            text.append("legacy ").append((char) ('a' + random.nextInt(persons))).append(' ').append(amount(scale)).append(';');
        }
        if (random.nextBoolean()) {
            int whole = 1 + random.nextInt(99);
            text.append("share ").append(whole).append(' ').append(random.nextInt(whole + 1)).append(';');
        }
        text.append(random.nextBoolean() ? "life " + random.nextInt(101) + ";" : "");
        text.append(random.nextInt(3) == 0 ? "accrue others;" : "");
        return text.length() > 700 ? text.substring(0, 700) : text.toString();
    }

    private int spouseAt;

    /** A text with a few words struck, doubled, put in or broken. */
    private String spoilt(String text) {
        StringBuilder spoilt = new StringBuilder(text);
        for (int i = random.nextInt(3); i >= 0; i--) {
            int at = random.nextInt(spoilt.length() + 1);
            switch (random.nextInt(4)) {
                case 0 -> spoilt.insert(at, ' ' + WORDS[random.nextInt(WORDS.length)] + ' ');
                case 1 -> spoilt.delete(at, Math.min(spoilt.length(), at + 1 + random.nextInt(8)));
                case 2 -> spoilt.append(WORDS[random.nextInt(WORDS.length)]).append(random.nextBoolean() ? " " : "");
                default -> spoilt.insert(at, (char) random.nextInt(256));
            }
        }
        return spoilt.length() > 700 ? spoilt.substring(0, 700) : spoilt.toString();
    }

    private String words() {
        StringBuilder text = new StringBuilder();
        for (int i = random.nextInt(12); i > 0; i--) {
            text.append(WORDS[random.nextInt(WORDS.length)]).append(' ');
        }
        return text.toString();
    }

    private void parseOnly() {
        int kind = random.nextInt(4);
        parse(kind == 0 ? words() : kind == 1 ? estate() + words() : spoilt(estate()));
        alike("size", () -> program.size(0), () -> model.size(0));
        alike("account", () -> program.account(4), () -> model.account(4));
    }

    // ---- runs

    private int person() {
        int count = model.size(0);
        return random.nextInt(30) == 0 ? random.nextInt(20) - 4 : count == 0 ? 0 : random.nextInt(count);
    }

    private int item() {
        return random.nextInt(20) == 0 ? random.nextInt(20) - 5 : random.nextInt(5);
    }

    private int anyAmount() {
        return random.nextInt(15) == 0 ? -1 + random.nextInt(2) * 10000001 : amount(random.nextInt(5));
    }

    private void run() {
        parse(estate());
        for (int i = 0; i < CALLS; i++) {
            if (random.nextInt(3) == 0) {
                change();
            } else {
                question();
            }
        }
        everything();
    }

    private void change() {
        int p = person();
        int n = anyAmount();
        int i = item();
        boolean yes = random.nextBoolean();
        int slot = random.nextInt(20) == 0 ? random.nextInt(5) - 2 : random.nextInt(2);
        switch (random.nextInt(12)) {
            case 0, 1 -> alike("refuse " + p + " " + yes, () -> bit(program.refuse(p, yes)), () -> model.refuse(p, yes));
            case 2 -> alike("die " + p, () -> program.die(p), () -> model.die(p));
            case 3 -> {
                int age = random.nextInt(130) - 4;
                alike("setAge " + p + " " + age, () -> program.setAge(p, age), () -> model.setAge(p, age));
            }
            case 4 -> alike("addGift " + p + " " + n, () -> program.addGift(p, n), () -> model.addGift(p, n));
            case 5 -> alike("addDebt " + i + " " + n, () -> program.addDebt(i, n), () -> model.addDebt(i, n));
            case 6 -> alike("setValue " + i + " " + n, () -> program.setValue(i, n), () -> model.setValue(i, n));
            case 7 -> alike("setAccrue " + yes, () -> program.setAccrue(yes), () -> model.setAccrue(yes));
            case 8, 9 -> alike("undo", program::undo, model::undo);
            case 10 -> alike("saveSnapshot " + slot, () -> bit(program.saveSnapshot(slot)), () -> model.saveSnapshot(slot));
            default -> alike("restoreSnapshot " + slot, () -> program.restoreSnapshot(slot), () -> model.restoreSnapshot(slot));
        }
    }

    private void question() {
        int p = person();
        int q = person();
        int i = item();
        int what = random.nextInt(12) - 1;
        switch (random.nextInt(18)) {
            case 0 -> alike("size " + what, () -> program.size(what), () -> model.size(what));
            case 1 -> alike("person " + p + " " + what, () -> program.person(p, what), () -> model.person(p, what));
            case 2 -> alike("asset " + i + " " + what % 3, () -> program.asset(i, what % 3), () -> model.asset(i, what % 3));
            case 3 -> alike("debt " + i + " " + what % 4, () -> program.debt(i, what % 4), () -> model.debt(i, what % 4));
            case 4 -> alike("legacy " + i + " " + what % 5, () -> program.legacy(i, what % 5), () -> model.legacy(i, what % 5));
            case 5 -> alike("account " + what, () -> program.account(what), () -> model.account(what));
            case 6 -> alike("factor " + p * what, () -> program.factor(p * what), () -> model.factor(p * what));
            case 7 -> alike("heirs", program::heirs, model::heirs);
            case 8 -> alike("leftOut", program::leftOut, model::leftOut);
            case 9 -> alike("isEmpty " + p, () -> bit(program.isEmpty(p)), () -> model.isEmpty(p));
            case 10, 11 -> alike("step " + p + " " + what % 8, () -> program.step(p, what % 8), () -> model.step(p, what % 8));
            case 12 -> alike("given " + p, () -> program.given(p), () -> model.given(p));
            case 13 -> alike("isBalanced", () -> bit(program.isBalanced()), model::isBalanced);
            case 14 -> alike("givenIf " + p + " " + q, () -> program.givenIf(p, q), () -> model.givenIf(p, q));
            case 15 -> alike("helper " + p, () -> program.helper(p), () -> model.helper(p));
            case 16 -> tooMuch(p);
            default -> texts();
        }
    }

    private void tooMuch(int p) {
        if (p < 0 || p >= model.size(0)) {
            Kit.raises("tooMuch " + p, Kit.INDEX, () -> program.tooMuch(p));
            return;
        }
        int answer = program.tooMuch(p);
        log.append("\ntooMuch ").append(p).append(" answered ").append(answer);
        if (model.isTooMuch(p, answer)) {
            Kit.yes("tooMuch", true);
        } else {
            Kit.yes(log.toString(), false);
        }
    }

    private void texts() {
        switch (random.nextInt(6)) {
            case 0, 1 -> {
                append(String.valueOf((char) ('a' + random.nextInt(14))));
                alike("find", program::find, model::find);
            }
            case 2 -> alike("find", program::find, model::find);
            case 3 -> append(words());
            case 4 -> parse(spoilt(estate()));
            default -> parse(estate());
        }
    }

    private void everything() {
        for (int w = 0; w <= 9; w++) {
            int what = w;
            alike("size " + what, () -> program.size(what), () -> model.size(what));
            alike("account " + what, () -> program.account(what), () -> model.account(what));
        }
        for (int i = 0; i < model.size(0); i++) {
            int p = i;
            for (int w = 0; w <= 6; w++) {
                int what = w;
                alike("step " + p + " " + what, () -> program.step(p, what), () -> model.step(p, what));
            }
            alike("given " + p, () -> program.given(p), () -> model.given(p));
            alike("isEmpty " + p, () -> bit(program.isEmpty(p)), () -> model.isEmpty(p));
            alike("helper " + p, () -> program.helper(p), () -> model.helper(p));
            tooMuch(p);
        }
        alike("isBalanced", () -> bit(program.isBalanced()), () -> 1);
    }
}
