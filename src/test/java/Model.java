import java.math.BigInteger;
import java.util.ArrayDeque;
import java.util.ArrayList;
import java.util.Arrays;
import java.util.List;
import java.util.regex.Matcher;
import java.util.regex.Pattern;

/**
 * The document once more, written without a look at the program: with lists, recursion and big
 * numbers, everything found anew at each question. Each answer is a number, or the name of an exception.
 */
final class Model {
    static final int NONE = -1;

    static final class Person {
        String name;
        int parent = NONE;
        int age = 50;
        boolean dead;
        boolean refuses;

        Person copy() {
            Person p = new Person();
            p.name = name;
            p.parent = parent;
            p.age = age;
            p.dead = dead;
            p.refuses = refuses;
            return p;
        }

        boolean takes() {
            return !dead && !refuses;
        }
    }

    /** An estate with everything that can change; lists of {first, second} for its items. */
    static final class Data {
        List<Person> persons = new ArrayList<>();
        int spouse = NONE;
        List<int[]> assets = new ArrayList<>();
        List<int[]> debts = new ArrayList<>();
        List<int[]> gifts = new ArrayList<>();
        List<int[]> legacies = new ArrayList<>();
        int whole = 4;
        int part = 1;
        int life = 0;
        boolean line = true;

        Data copy() {
            Data d = new Data();
            for (Person p : persons) {
                d.persons.add(p.copy());
            }
            d.spouse = spouse;
            copyItems(assets, d.assets);
            copyItems(debts, d.debts);
            copyItems(gifts, d.gifts);
            copyItems(legacies, d.legacies);
            d.whole = whole;
            d.part = part;
            d.life = life;
            d.line = line;
            return d;
        }

        private static void copyItems(List<int[]> from, List<int[]> to) {
            for (int[] item : from) {
                to.add(item.clone());
            }
        }
    }

    Data data = new Data();
    private StringBuilder buffer = new StringBuilder();
    private int position = NONE;
    private final ArrayDeque<Data> history = new ArrayDeque<>();
    private final Data[] slots = new Data[2];

    // ---- text

    int append(String twenty) {
        if (buffer.length() + 20 > 700) {
            return NONE;
        }
        buffer.append(twenty);
        return buffer.length();
    }

    int parse(int length) {
        if (length < 0 || length > buffer.length()) {
            throw new IllegalArgumentException();
        }
        String text = buffer.substring(0, length);
        buffer = new StringBuilder();
        Reading reading = new Reading(text);
        try {
            reading.estate();
        } catch (Fault fault) {
            position = fault.position;
            return fault.code;
        }
        position = NONE;
        data = reading.read;
        history.clear();
        Arrays.fill(slots, null);
        return 0;
    }

    int errorPosition() {
        return position;
    }

    private static final class Fault extends Exception {
        private static final long serialVersionUID = 1;
        final int code;
        final int position;

        Fault(int code, int position) {
            this.code = code;
            this.position = position;
        }
    }

    private static final class Reading {
        private static final Pattern TOKEN = Pattern.compile("[ \n]*(?:([a-z]+)|([0-9]+)|(;)|(?s:(.))|$)");
        final Data read = new Data();
        private final String text;
        private final List<String> tokens = new ArrayList<>();
        private final List<Integer> places = new ArrayList<>();
        private final List<String> once = new ArrayList<>();
        private int at = 0;

        Reading(String text) {
            this.text = text;
            Matcher matcher = TOKEN.matcher(text);
            int from = 0;
            while (from < text.length() && matcher.find(from)) {
                for (int group = 1; group <= 4; group++) {
                    if (matcher.group(group) != null) {
                        tokens.add(matcher.group(group));
                        places.add(matcher.start(group));
                    }
                }
                from = matcher.end();
            }
        }

        void estate() throws Fault {
            while (at < tokens.size()) {
                statement();
                if (!next().equals(";")) {
                    throw fault(1);
                }
                at++;
            }
        }

        private Fault fault(int code) {
            return new Fault(code, at < places.size() ? places.get(at) : text.length());
        }

        private String next() throws Fault {
            if (at >= tokens.size()) {
                throw fault(1);
            }
            String token = tokens.get(at);
            if (!token.matches("[a-z]{1,8}|[0-9]{1,7}|;")) {
                throw fault(1);
            }
            return token;
        }

        private String word() throws Fault {
            if (!next().matches("[a-z]+")) {
                throw fault(1);
            }
            return next();
        }

        private int number(int least, int most) throws Fault {
            if (!next().matches("[0-9]+")) {
                throw fault(1);
            }
            int number = Integer.parseInt(next());
            if (number < least || number > most) {
                throw fault(3);
            }
            at++;
            return number;
        }

        private int named(String name) {
            for (int p = 0; p < read.persons.size(); p++) {
                if (read.persons.get(p).name.equals(name)) {
                    return p;
                }
            }
            return NONE;
        }

        private int known() throws Fault {
            int p = named(word());
            if (p == NONE) {
                throw fault(4);
            }
            at++;
            return p;
        }

        private void room(int used, int most) throws Fault {
            if (used == most) {
                throw fault(5);
            }
            at++;
        }

        private void single(String word) throws Fault {
            if (once.contains(word)) {
                throw fault(2);
            }
            once.add(word);
            at++;
        }

        private void statement() throws Fault {
            String word = next();
            if (word.equals("person")) {
                person();
            } else if (word.equals("asset")) {
                room(read.assets.size(), 8);
                int value = number(0, 9999999);
                int percent = 0;
                if (next().equals("charge")) {
                    at++;
                    percent = number(0, 100);
                }
                read.assets.add(new int[] {value, percent});
            } else if (word.equals("debt")) {
                room(read.debts.size(), 8);
                int rank = number(1, 5);
                read.debts.add(new int[] {rank, number(0, 9999999)});
            } else if (word.equals("gift") || word.equals("legacy")) {
                List<int[]> items = word.equals("gift") ? read.gifts : read.legacies;
                room(items.size(), 8);
                int person = known();
                items.add(new int[] {person, number(0, 9999999)});
            } else if (word.equals("share")) {
                single(word);
                read.whole = number(1, 99);
                read.part = number(0, read.whole);
            } else if (word.equals("life")) {
                single(word);
                read.life = number(0, 100);
            } else if (word.equals("accrue")) {
                single(word);
                if (!next().equals("line") && !next().equals("others")) {
                    throw fault(1);
                }
                read.line = next().equals("line");
                at++;
            } else {
                throw fault(1);
            }
        }

        private void person() throws Fault {
            room(read.persons.size(), 12);
            Person p = new Person();
            p.name = word();
            if (named(p.name) != NONE) {
                throw fault(2);
            }
            at++;
            if (next().equals("under")) {
                at++;
                int parent = named(word());
                if (parent == NONE || parent == read.spouse) {
                    throw fault(4);
                }
                p.parent = parent;
                at++;
            }
            if (next().equals("age")) {
                at++;
                p.age = number(0, 120);
            }
            if (next().equals("dead")) {
                p.dead = true;
                at++;
            } else if (next().equals("spouse") && p.parent == NONE) {
                if (read.spouse != NONE) {
                    throw fault(2);
                }
                read.spouse = read.persons.size();
                at++;
            }
            read.persons.add(p);
        }
    }

    int find() {
        String name = buffer.toString().replaceAll(" +$", "");
        buffer = new StringBuilder();
        for (int p = 0; p < data.persons.size(); p++) {
            if (data.persons.get(p).name.equals(name)) {
                return p;
            }
        }
        return NONE;
    }

    private static void index(int index, int size) {
        if (index < 0 || index >= size) {
            throw new IndexOutOfBoundsException();
        }
    }

    private static void range(int number, int least, int most) {
        if (number < least || number > most) {
            throw new IllegalArgumentException();
        }
    }

    private static int bit(boolean b) {
        return b ? 1 : 0;
    }

    int size(int what) {
        range(what, 0, 9);
        int[] sizes = {data.persons.size(), data.assets.size(), data.debts.size(), data.gifts.size(),
            data.legacies.size(), data.spouse, data.part, data.whole, data.life, bit(data.line)};
        return sizes[what];
    }

    int person(int person, int what) {
        index(person, data.persons.size());
        range(what, 0, 5);
        Person p = data.persons.get(person);
        int children = (int) data.persons.stream().filter(q -> q.parent == person).count();
        int gifts = data.gifts.stream().filter(g -> g[0] == person).mapToInt(g -> g[1]).sum();
        return new int[] {p.parent, p.age, bit(p.dead), bit(p.refuses), children, gifts}[what];
    }

    // ---- arithmetic

    private static long times(long a, long b, long by) {
        return BigInteger.valueOf(a).multiply(BigInteger.valueOf(b)).divide(BigInteger.valueOf(by)).longValueExact();
    }

    static long[] split(long total, long[] numbers) {
        long sum = Arrays.stream(numbers).sum();
        long[] parts = new long[numbers.length];
        if (sum == 0) {
            return parts;
        }
        for (int i = 0; i < parts.length; i++) {
            parts[i] = times(total, numbers[i], sum);
        }
        for (int i = 0; Arrays.stream(parts).sum() < total; i++) {
            parts[i] += numbers[i] > 0 ? 1 : 0;
        }
        return parts;
    }

    // ---- the settlement

    final class Result {
        final Data d;
        long net;
        final long[] debtPaid;
        final long[] legacyPaid;
        long residue;
        long share;
        long burdened;
        long worth;
        long fund;
        long state;
        int heirs;
        int out;
        final long[] divisor = new long[12];
        final long[] weight = new long[12];
        final long[] gift = new long[12];
        long pot;
        final long[] due = new long[12];
        final long[] part = new long[12];

        Result(Data d) {
            this.d = d;
            debtPaid = new long[d.debts.size()];
            legacyPaid = new long[d.legacies.size()];
            for (int a = 0; a < d.assets.size(); a++) {
                net += netOf(a);
            }
            long left = net;
            for (int rank = 1; rank <= 5; rank++) {
                left = pay(left, d.debts, rank, debtPaid);
            }
            left = pay(left, d.legacies, NONE, legacyPaid);
            residue = left;
            for (int p : heirsBelow(NONE)) {
                heirs |= 1 << p;
            }
            spouse();
            divisors();
            for (int[] g : d.gifts) {
                gift[g[0]] += g[1];
            }
            account(fund, gift);
        }

        long netOf(int a) {
            int[] asset = d.assets.get(a);
            return asset[0] - times(asset[0], asset[1], 100);
        }

        /** Pays the items of a rank, or the legacies that do not lapse, and answers what is left. */
        private long pay(long left, List<int[]> items, int rank, long[] paid) {
            long[] amounts = new long[items.size()];
            for (int i = 0; i < amounts.length; i++) {
                int first = items.get(i)[0];
                boolean counts = rank == NONE ? d.persons.get(first).takes() : first == rank;
                amounts[i] = counts ? items.get(i)[1] : 0;
            }
            long sum = Arrays.stream(amounts).sum();
            long[] parts = left >= sum ? amounts : split(left, amounts);
            for (int i = 0; i < parts.length; i++) {
                paid[i] += parts[i];
            }
            return left - Arrays.stream(parts).sum();
        }

        private List<Integer> children(int parent) {
            List<Integer> children = new ArrayList<>();
            for (int p = 0; p < d.persons.size(); p++) {
                if (d.persons.get(p).parent == parent && p != d.spouse) {
                    children.add(p);
                }
            }
            return children;
        }

        private List<Integer> heirsBelow(int parent) {
            List<Integer> heirs = new ArrayList<>();
            for (int child : children(parent)) {
                heirs.addAll(lineOf(child));
            }
            return heirs;
        }

        List<Integer> lineOf(int p) {
            Person person = d.persons.get(p);
            if (person.takes()) {
                return List.of(p);
            }
            return person.dead || d.line ? heirsBelow(p) : List.of();
        }

        private void spouse() {
            boolean takes = d.spouse != NONE && d.persons.get(d.spouse).takes();
            if (heirs == 0) {
                share = takes ? residue : 0;
                state = takes ? 0 : residue;
            } else if (takes) {
                share = times(residue, d.part, d.whole);
                burdened = times(residue - share, d.life, 100);
                worth = times(burdened, Model.this.factor(d.persons.get(d.spouse).age), 100);
                fund = residue - share - worth;
            } else {
                fund = residue;
            }
        }

        private void divisors() {
            BigInteger multiple = BigInteger.ONE;
            for (int p = 0; p < d.persons.size(); p++) {
                if (isHeir(p)) {
                    divisor[p] = 1;
                    for (int at = p; at != NONE; at = d.persons.get(at).parent) {
                        divisor[p] *= children(d.persons.get(at).parent).stream().filter(c -> !lineOf(c).isEmpty()).count();
                    }
                    BigInteger b = BigInteger.valueOf(divisor[p]);
                    multiple = multiple.multiply(b).divide(multiple.gcd(b));
                }
            }
            for (int p = 0; p < d.persons.size(); p++) {
                weight[p] = isHeir(p) ? multiple.longValueExact() / divisor[p] : 0;
            }
        }

        boolean isHeir(int p) {
            return (heirs >> p & 1) == 1;
        }

        boolean isOut(int p) {
            return (out >> p & 1) == 1;
        }

        void account(long fund, long[] gift) {
            out = 0;
            while (true) {
                long sum = 0;
                pot = fund;
                for (int p = 0; p < 12; p++) {
                    if (isHeir(p) && !isOut(p)) {
                        pot += gift[p];
                        sum += weight[p];
                    }
                }
                int worst = NONE;
                for (int p = 0; p < 12; p++) {
                    due[p] = isHeir(p) && !isOut(p) ? times(pot, weight[p], sum) : 0;
                    if (isHeir(p) && !isOut(p) && gift[p] > due[p]
                            && (worst == NONE || gift[p] - due[p] > gift[worst] - due[worst])) {
                        worst = p;
                    }
                }
                if (worst == NONE) {
                    break;
                }
                out |= 1 << worst;
            }
            long[] numbers = new long[12];
            for (int p = 0; p < 12; p++) {
                numbers[p] = isHeir(p) && !isOut(p) ? weight[p] : 0;
            }
            System.arraycopy(split(pot, numbers), 0, part, 0, 12);
        }

        long fromFund(int p) {
            return isHeir(p) && !isOut(p) ? part[p] - gift[p] : 0;
        }

        long given(int p) {
            long sum = fromFund(p) + (p == d.spouse ? share + worth : 0);
            for (int l = 0; l < legacyPaid.length; l++) {
                sum += d.legacies.get(l)[0] == p ? legacyPaid[l] : 0;
            }
            return sum;
        }

        boolean isLeftOutWith(int p, long further) {
            Result other = new Result(d);
            long[] gifts = other.gift.clone();
            gifts[p] += further;
            other.account(fund, gifts);
            return other.isOut(p);
        }
    }

    Result result() {
        return new Result(data);
    }

    long asset(int asset, int what) {
        index(asset, data.assets.size());
        range(what, 0, 1);
        return what == 0 ? data.assets.get(asset)[0] : result().netOf(asset);
    }

    long debt(int debt, int what) {
        index(debt, data.debts.size());
        range(what, 0, 2);
        return what < 2 ? data.debts.get(debt)[what] : result().debtPaid[debt];
    }

    long legacy(int legacy, int what) {
        index(legacy, data.legacies.size());
        range(what, 0, 3);
        if (what < 2) {
            return data.legacies.get(legacy)[what];
        }
        return what == 2 ? result().legacyPaid[legacy] : bit(!data.persons.get(data.legacies.get(legacy)[0]).takes());
    }

    long account(int what) {
        range(what, 0, 9);
        Result r = result();
        long debts = data.debts.stream().mapToLong(x -> x[1]).sum();
        long paid = Arrays.stream(r.debtPaid).sum();
        return new long[] {r.net, paid, debts - paid, Arrays.stream(r.legacyPaid).sum(), r.residue, r.share,
            r.burdened, r.worth, r.fund, r.state}[what];
    }

    int factor(int age) {
        range(age, 0, 120);
        int[] table = {90, 90, 80, 70, 60, 50, 40, 30, 20, 10, 10, 10, 10};
        return table[age / 10];
    }

    int heirs() {
        return result().heirs;
    }

    int leftOut() {
        return result().out;
    }

    int isEmpty(int person) {
        index(person, data.persons.size());
        return bit(person == data.spouse || result().lineOf(person).isEmpty());
    }

    long step(int person, int what) {
        index(person, data.persons.size());
        range(what, 0, 6);
        Result r = result();
        if (!r.isHeir(person) || r.isOut(person) && what >= 3 && what <= 5) {
            return NONE;
        }
        return new long[] {r.divisor[person], r.weight[person], r.gift[person], r.pot, r.due[person],
            r.part[person] - r.due[person], r.fromFund(person)}[what];
    }

    long given(int person) {
        index(person, data.persons.size());
        return result().given(person);
    }

    int isBalanced() {
        Result r = result();
        long sum = Arrays.stream(r.debtPaid).sum() + r.state;
        for (int p = 0; p < data.persons.size(); p++) {
            sum += r.given(p);
        }
        return bit(sum == r.net);
    }

    long givenIf(int person, int refuser) {
        index(person, data.persons.size());
        index(refuser, data.persons.size());
        Data other = data.copy();
        other.persons.get(refuser).refuses = true;
        return new Result(other).given(person);
    }

    int helper(int person) {
        index(person, data.persons.size());
        long most = 0;
        for (int p = 0; p < data.persons.size(); p++) {
            most = Math.max(most, givenIf(person, p));
        }
        for (int p = 0; p < data.persons.size() && most > given(person); p++) {
            if (givenIf(person, p) == most) {
                return p;
            }
        }
        return NONE;
    }

    /** Whether the answer is the right one; that more is too much then, too, another test shows. */
    boolean isTooMuch(int person, int answer) {
        Result r = result();
        boolean counts = r.isHeir(person) && !r.isOut(person);
        if (answer == NONE) {
            return !counts || !r.isLeftOutWith(person, 9999999);
        }
        return counts && answer >= 1 && answer <= 9999999 && r.isLeftOutWith(person, answer)
                && !r.isLeftOutWith(person, answer - 1);
    }

    // ---- changes

    private void remember() {
        history.addLast(data.copy());
        if (history.size() > 10) {
            history.removeFirst();
        }
    }

    int refuse(int person, boolean refuses) {
        index(person, data.persons.size());
        remember();
        boolean before = data.persons.get(person).refuses;
        data.persons.get(person).refuses = refuses;
        return bit(before);
    }

    int die(int person) {
        index(person, data.persons.size());
        remember();
        data.persons.get(person).dead = true;
        return heirs();
    }

    int setAge(int person, int age) {
        index(person, data.persons.size());
        range(age, 0, 120);
        remember();
        int before = data.persons.get(person).age;
        data.persons.get(person).age = age;
        return before;
    }

    long addGift(int person, int amount) {
        index(person, data.persons.size());
        range(amount, 0, 9999999);
        if (data.gifts.size() == 8) {
            throw new IllegalStateException();
        }
        remember();
        data.gifts.add(new int[] {person, amount});
        return step(person, 6);
    }

    long addDebt(int rank, int amount) {
        range(rank, 1, 5);
        range(amount, 0, 9999999);
        if (data.debts.size() == 8) {
            throw new IllegalStateException();
        }
        remember();
        data.debts.add(new int[] {rank, amount});
        return debt(data.debts.size() - 1, 2);
    }

    long setValue(int asset, int value) {
        index(asset, data.assets.size());
        range(value, 0, 9999999);
        remember();
        data.assets.get(asset)[0] = value;
        return account(0);
    }

    int setAccrue(boolean line) {
        remember();
        data.line = line;
        return heirs();
    }

    int undo() {
        if (history.isEmpty()) {
            return NONE;
        }
        data = history.removeLast();
        return history.size();
    }

    int saveSnapshot(int slot) {
        index(slot, 2);
        boolean before = slots[slot] != null;
        slots[slot] = data.copy();
        return bit(before);
    }

    long restoreSnapshot(int slot) {
        index(slot, 2);
        if (slots[slot] == null) {
            throw new IllegalStateException();
        }
        data = slots[slot].copy();
        history.clear();
        return result().residue;
    }
}
