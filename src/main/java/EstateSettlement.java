/**
 * The settlement of an estate: assets with charges, debts by rank, legacies that abate, a spouse
 * with a share and a life interest, heirs by lines of descent with gifts brought into account.
 *
 * <p>The settlement is found anew after whatever alters the estate, so that questions only read it.
 * Everything that a call needs is made by the constructor; a call itself makes only what it throws.
 */
public final class EstateSettlement {

    public static final int NONE = -1;

    private static final int MAX_TEXT = 700;
    private static final int MAX_PERSONS = 12;
    private static final int MAX_ITEMS = 8;
    private static final int MAX_AMOUNT = 9999999;
    private static final int MAX_AGE = 120;
    private static final int USUAL_AGE = 50;
    private static final int MAX_RANK = 5;
    private static final int MAX_UNDO = 10;
    private static final int SLOTS = 2;

    private final Parser parser = new Parser();
    private final Estate estate = new Estate();
    private final State state = new State();
    private final Settlement settlement = new Settlement();
    private final State trialState = new State();
    private final Settlement trial = new Settlement();
    private final Memory memory = new Memory();
    private int lastErrorPosition = NONE;

    public EstateSettlement() {
        settlement.settle(estate, state);
    }

    // ---- text

    public int append(int a, int b, int c, int d, int e) {
        if (!parser.input.hasRoom()) {
            return NONE;
        }
        parser.input.add(a);
        parser.input.add(b);
        parser.input.add(c);
        parser.input.add(d);
        parser.input.add(e);
        return parser.input.length;
    }

    public int parse(int length) throws IllegalArgumentException {
        if (length < 0 || length > parser.input.length) {
            throw new IllegalArgumentException("length");
        }
        int code = parser.read(length);
        parser.input.clear();
        lastErrorPosition = parser.errorPosition;
        if (code == 0) {
            estate.copy(parser.estate);
            state.copy(parser.state);
            memory.clearUndo();
            memory.clearSlots();
            settlement.settle(estate, state);
        }
        return code;
    }

    public int errorPosition() {
        return lastErrorPosition;
    }

    public int size(int what) throws IllegalArgumentException {
        requireWhat(what, 9);
        switch (what) {
            case 0: return estate.personCount;
            case 1: return estate.assetCount;
            case 2: return state.debtCount();
            case 3: return state.giftCount();
            case 4: return estate.legacyCount;
            case 5: return estate.spouse;
            case 6: return estate.part;
            case 7: return estate.whole;
            case 8: return estate.life;
            default: return asInt(state.accruesInLine());
        }
    }

    public int find() {
        int person = estate.personNamed(parser.input.soleWord());
        parser.input.clear();
        return person;
    }

    public int person(int person, int what) throws IndexOutOfBoundsException, IllegalArgumentException {
        requirePerson(person);
        requireWhat(what, 5);
        switch (what) {
            case 0: return at(estate.parents, person);
            case 1: return state.age(person);
            case 2: return asInt(state.isDead(person));
            case 3: return asInt(state.isRefusing(person));
            case 4: return estate.childrenOf(person);
            default: return state.giftsTo(person);
        }
    }

    // ---- inventory, debts, legacies

    public int asset(int asset, int what) throws IndexOutOfBoundsException, IllegalArgumentException {
        requireAsset(asset);
        requireWhat(what, 1);
        return what == 0 ? state.value(asset) : Inventory.netValue(estate, state, asset);
    }

    public int debt(int debt, int what) throws IndexOutOfBoundsException, IllegalArgumentException {
        if (debt < 0 || debt >= state.debtCount()) {
            throw new IndexOutOfBoundsException("debt");
        }
        requireWhat(what, 2);
        switch (what) {
            case 0: return state.debtRank(debt);
            case 1: return state.debtAmount(debt);
            default: return at(settlement.inventory.debtPaid, debt);
        }
    }

    public int legacy(int legacy, int what) throws IndexOutOfBoundsException, IllegalArgumentException {
        if (legacy < 0 || legacy >= estate.legacyCount) {
            throw new IndexOutOfBoundsException("legacy");
        }
        requireWhat(what, 3);
        switch (what) {
            case 0: return at(estate.legatees, legacy);
            case 1: return at(estate.legacyAmounts, legacy);
            case 2: return at(settlement.inventory.legacyPaid, legacy);
            default: return asInt(!state.takes(at(estate.legatees, legacy)));
        }
    }

    public int account(int what) throws IllegalArgumentException {
        requireWhat(what, 9);
        switch (what) {
            case 0: return settlement.inventory.netEstate;
            case 1: return settlement.inventory.debtsPaid;
            case 2: return settlement.inventory.debtsUnpaid;
            case 3: return settlement.inventory.legaciesPaid;
            case 4: return settlement.inventory.residue;
            case 5: return settlement.spouseShare;
            case 6: return settlement.burdened;
            case 7: return settlement.worth;
            case 8: return settlement.fund;
            default: return settlement.toTheState;
        }
    }

    public int factor(int age) throws IllegalArgumentException {
        requireRange(age, 0, MAX_AGE);
        return Settlement.lifeFactor(age);
    }

    // ---- heirs

    public int heirs() {
        return settlement.lines.heirs;
    }

    public int leftOut() {
        return settlement.portions.leftOut;
    }

    public boolean isEmpty(int person) throws IndexOutOfBoundsException {
        requirePerson(person);
        return !hasBit(settlement.lines.notEmpty, person);
    }

    public int step(int person, int what) throws IndexOutOfBoundsException, IllegalArgumentException {
        requirePerson(person);
        requireWhat(what, 6);
        if (!hasBit(settlement.lines.heirs, person)) {
            return NONE;
        }
        boolean outside = hasBit(settlement.portions.leftOut, person);
        switch (what) {
            case 0: return at(settlement.lines.divisors, person);
            case 1: return at(settlement.lines.weights, person);
            case 2: return at(settlement.portions.gifts, person);
            case 3: return outside ? NONE : settlement.portions.pot;
            case 4: return outside ? NONE : settlement.portions.due(person);
            case 5: return outside ? NONE : settlement.portions.cent(person);
            default: return settlement.portions.fromFund(person);
        }
    }

    public int given(int person) throws IndexOutOfBoundsException {
        requirePerson(person);
        return settlement.givenTo(estate, person);
    }

    public boolean isBalanced() {
        int out = settlement.inventory.debtsPaid + settlement.toTheState;
        for (int person = 0; person < estate.personCount; person++) {
            out += settlement.givenTo(estate, person);
        }
        return out == settlement.inventory.netEstate;
    }

    // ---- what would be

    public int givenIf(int person, int refuser) throws IndexOutOfBoundsException {
        requirePerson(person);
        requirePerson(refuser);
        return givenIfRefused(person, refuser);
    }

    public int helper(int person) throws IndexOutOfBoundsException {
        requirePerson(person);
        int best = NONE;
        int most = settlement.givenTo(estate, person);
        for (int refuser = 0; refuser < estate.personCount; refuser++) {
            int would = givenIfRefused(person, refuser);
            if (would > most) {
                best = refuser;
                most = would;
            }
        }
        return best;
    }

    // An heir's own gift raises its due by less than the gift, and it does not matter in which order
    // heirs are left out; so beyond the smallest gift that is too much, each is, and halving finds it.
    public int tooMuch(int person) throws IndexOutOfBoundsException {
        requirePerson(person);
        boolean inAccount = hasBit(settlement.lines.heirs, person)
                && !hasBit(settlement.portions.leftOut, person);
        if (!inAccount || !isLeftOutWith(person, MAX_AMOUNT)) {
            return NONE;
        }
        int least = 1;
        int most = MAX_AMOUNT;
        for (int halving = 0; halving < 32 && least < most; halving++) {
            int middle = (least + most) / 2;
            if (isLeftOutWith(person, middle)) {
                most = middle;
            } else {
                least = middle + 1;
            }
        }
        return most;
    }

    private int givenIfRefused(int person, int refuser) {
        trialState.copy(state);
        trialState.putRefusing(refuser, true);
        trial.settle(estate, trialState);
        return trial.givenTo(estate, person);
    }

    private boolean isLeftOutWith(int person, int furtherGift) {
        trial.portions.bring(state);
        trial.portions.bringFurther(person, furtherGift);
        trial.portions.divide(settlement.fund, settlement.lines);
        return hasBit(trial.portions.leftOut, person);
    }

    // ---- changes

    public boolean refuse(int person, boolean refuses) throws IndexOutOfBoundsException {
        requirePerson(person);
        boolean before = state.isRefusing(person);
        memory.remember(state);
        state.putRefusing(person, refuses);
        settlement.settle(estate, state);
        return before;
    }

    public int die(int person) throws IndexOutOfBoundsException {
        requirePerson(person);
        memory.remember(state);
        state.putDead(person);
        settlement.settle(estate, state);
        return settlement.lines.heirs;
    }

    public int setAge(int person, int age) throws IndexOutOfBoundsException, IllegalArgumentException {
        requirePerson(person);
        requireRange(age, 0, MAX_AGE);
        int before = state.age(person);
        memory.remember(state);
        state.putAge(person, age);
        settlement.settle(estate, state);
        return before;
    }

    public int addGift(int person, int amount)
            throws IndexOutOfBoundsException, IllegalArgumentException, IllegalStateException {
        requirePerson(person);
        requireRange(amount, 0, MAX_AMOUNT);
        if (state.giftCount() >= MAX_ITEMS) {
            throw new IllegalStateException("gifts");
        }
        memory.remember(state);
        state.putGift(person, amount);
        settlement.settle(estate, state);
        return hasBit(settlement.lines.heirs, person) ? settlement.portions.fromFund(person) : NONE;
    }

    public int addDebt(int rank, int amount) throws IllegalArgumentException, IllegalStateException {
        requireRange(rank, 1, MAX_RANK);
        requireRange(amount, 0, MAX_AMOUNT);
        int debt = state.debtCount();
        if (debt >= MAX_ITEMS) {
            throw new IllegalStateException("debts");
        }
        memory.remember(state);
        state.putDebt(rank, amount);
        settlement.settle(estate, state);
        return at(settlement.inventory.debtPaid, debt);
    }

    public int setValue(int asset, int value) throws IndexOutOfBoundsException, IllegalArgumentException {
        requireAsset(asset);
        requireRange(value, 0, MAX_AMOUNT);
        memory.remember(state);
        state.putValue(asset, value);
        settlement.settle(estate, state);
        return settlement.inventory.netEstate;
    }

    public int setAccrue(boolean line) {
        memory.remember(state);
        state.putAccrual(line);
        settlement.settle(estate, state);
        return settlement.lines.heirs;
    }

    // ---- undo and snapshots

    public int undo() {
        if (memory.undoCount == 0) {
            return NONE;
        }
        memory.takeBack(state);
        settlement.settle(estate, state);
        return memory.undoCount;
    }

    public boolean saveSnapshot(int slot) throws IndexOutOfBoundsException {
        requireSlot(slot);
        boolean before = hasBit(memory.usedSlots, slot);
        memory.store(state, slot);
        return before;
    }

    public int restoreSnapshot(int slot) throws IndexOutOfBoundsException, IllegalStateException {
        requireSlot(slot);
        if (!hasBit(memory.usedSlots, slot)) {
            throw new IllegalStateException("empty slot");
        }
        memory.fetch(state, slot);
        memory.clearUndo();
        settlement.settle(estate, state);
        return settlement.inventory.residue;
    }

    // ---- what the calls of the face ask for first

    private void requirePerson(int person) {
        if (person < 0 || person >= estate.personCount) {
            throw new IndexOutOfBoundsException("person");
        }
    }

    private void requireAsset(int asset) {
        if (asset < 0 || asset >= estate.assetCount) {
            throw new IndexOutOfBoundsException("asset");
        }
    }

    private static void requireSlot(int slot) {
        if (slot < 0 || slot >= SLOTS) {
            throw new IndexOutOfBoundsException("slot");
        }
    }

    private static void requireWhat(int what, int last) {
        if (what < 0 || what > last) {
            throw new IllegalArgumentException("what");
        }
    }

    private static void requireRange(int number, int least, int most) {
        if (number < least || number > most) {
            throw new IllegalArgumentException("out of range");
        }
    }

    // ---- rows and numbers

    // No index reaches a row untested, not even one that the callers keep within it.
    private static int at(int[] row, int index) {
        return index >= 0 && index < row.length ? row[index] : 0;
    }

    private static int asInt(boolean flag) {
        return flag ? 1 : 0;
    }

    private static boolean hasBit(int bits, int place) {
        return (bits >> place & 1) != 0;
    }

    // Products of amounts exceed an int, but never a long.
    private static int portion(int amount, int number, int of) {
        return of > 0 ? (int) ((long) amount * number / of) : 0;
    }

    private static int greatestCommonDivisor(int a, int b) {
        int greater = a;
        int smaller = b;
        for (int round = 0; round < 64 && smaller > 0; round++) {
            int rest = greater % smaller;
            greater = smaller;
            smaller = rest;
        }
        return greater;
    }

    private static int leastCommonMultiple(int a, int b) {
        int common = greatestCommonDivisor(a, b);
        return common > 0 ? a / common * b : 0;
    }

    private static int sumOf(int[] numbers) {
        int sum = 0;
        for (int i = 0; i < numbers.length; i++) {
            sum += numbers[i];
        }
        return sum;
    }

    // Fewer cents are left over than there are numbers greater than 0, so one round hands them out.
    private static void split(int total, int[] numbers, int[] parts) {
        int sum = sumOf(numbers);
        int left = sum > 0 ? total : 0;
        for (int i = 0; i < numbers.length && i < parts.length; i++) {
            parts[i] = portion(total, numbers[i], sum);
            left -= parts[i];
        }
        for (int i = 0; i < numbers.length && i < parts.length; i++) {
            if (left > 0 && numbers[i] > 0) {
                parts[i]++;
                left--;
            }
        }
    }

    /** The input buffer, and the text in it, read token by token. */
    private static final class Input {
        static final int END = 0;
        static final int WORD = 1;
        static final int NUMBER = 2;
        static final int SEMICOLON = 3;
        private static final int BLANK = 4;
        private static final int INVALID = 5;
        static final long NO_WORD = 0;

        private static final int BYTES_OF_A_CALL = 20;
        private static final int MAX_LETTERS = 8;
        private static final int MAX_DIGITS = 7;
        private static final int SPACE = 32;
        private static final int LINE_FEED = 10;

        private final byte[] bytes = new byte[MAX_TEXT];
        int length = 0;
        private int textLength = 0;
        /** The current token: its kind, where it starts, and where it ends. */
        int kind = END;
        int start = 0;
        private int end = 0;

        boolean hasRoom() {
            return length + BYTES_OF_A_CALL <= MAX_TEXT;
        }

        void add(int four) {
            for (int shift = 24; shift >= 0; shift -= 8) {
                if (length >= 0 && length < bytes.length) {
                    bytes[length] = (byte) (four >> shift);
                    length++;
                }
            }
        }

        void clear() {
            length = 0;
        }

        void open(int lengthOfText) {
            textLength = lengthOfText;
            end = 0;
            advance();
        }

        void advance() {
            start = end;
            while (start < textLength && kindAt(start) == BLANK) {
                start++;
            }
            kind = kindAt(start);
            end = start + 1;
            if (kind == WORD || kind == NUMBER) {
                while (end < textLength && kindAt(end) == kind) {
                    end++;
                }
                if (end - start > (kind == WORD ? MAX_LETTERS : MAX_DIGITS)) {
                    kind = INVALID;
                }
            }
        }

        boolean isWord(String wanted) {
            if (kind != WORD || end - start != wanted.length()) {
                return false;
            }
            for (int i = 0; i < wanted.length(); i++) {
                if (byteAt(start + i) != wanted.charAt(i)) {
                    return false;
                }
            }
            return true;
        }

        // Each letter is a digit of base 27, so that different words have different numbers.
        long word() {
            long word = NO_WORD;
            for (int i = start; i < end; i++) {
                word = word * 27 + (byteAt(i) - 'a' + 1);
            }
            return word;
        }

        int number() {
            int number = 0;
            for (int i = start; i < end; i++) {
                number = number * 10 + (byteAt(i) - '0');
            }
            return number;
        }

        /** The word that the buffer begins with, if nothing but spaces stand behind it. */
        long soleWord() {
            open(length);
            boolean sole = kind == WORD && start == 0;
            for (int i = end; i < length; i++) {
                sole = sole && byteAt(i) == SPACE;
            }
            return sole ? word() : NO_WORD;
        }

        private int byteAt(int index) {
            return index >= 0 && index < bytes.length ? bytes[index] : 0;
        }

        private int kindAt(int index) {
            if (index < 0 || index >= textLength || index >= bytes.length) {
                return END;
            }
            int sign = bytes[index];
            if (sign >= 'a' && sign <= 'z') {
                return WORD;
            }
            if (sign >= '0' && sign <= '9') {
                return NUMBER;
            }
            if (sign == SPACE || sign == LINE_FEED) {
                return BLANK;
            }
            return sign == ';' ? SEMICOLON : INVALID;
        }
    }

    /** Reads a text into an estate and a state of its own, so that a faulty text alters no other. */
    private static final class Parser {
        private static final int FINE = 0;
        private static final int NOT_ALLOWED = 1;
        private static final int TWICE = 2;
        private static final int OUT_OF_RANGE = 3;
        private static final int NO_PERSON = 4;
        private static final int TOO_MANY = 5;

        final Input input = new Input();
        final Estate estate = new Estate();
        final State state = new State();
        int errorPosition = NONE;
        private int errorCode = FINE;
        private boolean shareRead = false;
        private boolean lifeRead = false;
        private boolean accrueRead = false;
        private int numberRead = 0;
        private int personRead = NONE;

        int read(int length) {
            estate.clear();
            state.clear();
            errorCode = FINE;
            errorPosition = NONE;
            shareRead = false;
            lifeRead = false;
            accrueRead = false;
            input.open(length);
            boolean fine = true;
            for (int i = 0; i < MAX_TEXT && fine && input.kind != Input.END; i++) {
                fine = readStatement() && readSemicolon();
            }
            return errorCode;
        }

        private boolean fail(int code) {
            errorCode = code;
            errorPosition = input.start;
            return false;
        }

        private boolean readStatement() {
            if (input.isWord("person")) {
                return readPerson();
            }
            if (input.isWord("asset")) {
                return readAsset();
            }
            if (input.isWord("debt")) {
                return readDebt();
            }
            if (input.isWord("gift")) {
                return readGift();
            }
            if (input.isWord("legacy")) {
                return readLegacy();
            }
            if (input.isWord("share")) {
                return readShare();
            }
            if (input.isWord("life")) {
                return readLife();
            }
            if (input.isWord("accrue")) {
                return readAccrue();
            }
            return fail(NOT_ALLOWED);
        }

        private boolean readSemicolon() {
            if (input.kind != Input.SEMICOLON) {
                return fail(NOT_ALLOWED);
            }
            input.advance();
            return true;
        }

        private boolean readPerson() {
            if (estate.personCount >= MAX_PERSONS) {
                return fail(TOO_MANY);
            }
            input.advance();
            if (input.kind != Input.WORD) {
                return fail(NOT_ALLOWED);
            }
            long name = input.word();
            if (estate.personNamed(name) != NONE) {
                return fail(TWICE);
            }
            input.advance();
            int parent = NONE;
            if (input.isWord("under")) {
                input.advance();
                if (!readKnownPerson(estate.spouse)) {
                    return false;
                }
                parent = personRead;
            }
            int age = USUAL_AGE;
            if (input.isWord("age")) {
                input.advance();
                if (!readNumber(0, MAX_AGE)) {
                    return false;
                }
                age = numberRead;
            }
            int person = estate.personCount;
            estate.putPerson(name, parent);
            state.putAge(person, age);
            return readStanding(person, parent);
        }

        private boolean readStanding(int person, int parent) {
            if (input.isWord("dead")) {
                state.putDead(person);
                input.advance();
            } else if (input.isWord("spouse") && parent == NONE) {
                if (estate.spouse != NONE) {
                    return fail(TWICE);
                }
                estate.spouse = person;
                input.advance();
            }
            return true;
        }

        private boolean readAsset() {
            if (estate.assetCount >= MAX_ITEMS) {
                return fail(TOO_MANY);
            }
            input.advance();
            if (!readNumber(0, MAX_AMOUNT)) {
                return false;
            }
            int value = numberRead;
            int charge = 0;
            if (input.isWord("charge")) {
                input.advance();
                if (!readNumber(0, 100)) {
                    return false;
                }
                charge = numberRead;
            }
            state.putValue(estate.assetCount, value);
            estate.putAsset(charge);
            return true;
        }

        private boolean readDebt() {
            if (state.debtCount() >= MAX_ITEMS) {
                return fail(TOO_MANY);
            }
            input.advance();
            if (!readNumber(1, MAX_RANK)) {
                return false;
            }
            int rank = numberRead;
            if (!readNumber(0, MAX_AMOUNT)) {
                return false;
            }
            state.putDebt(rank, numberRead);
            return true;
        }

        private boolean readGift() {
            if (state.giftCount() >= MAX_ITEMS) {
                return fail(TOO_MANY);
            }
            input.advance();
            if (!readKnownPerson(NONE) || !readNumber(0, MAX_AMOUNT)) {
                return false;
            }
            state.putGift(personRead, numberRead);
            return true;
        }

        private boolean readLegacy() {
            if (estate.legacyCount >= MAX_ITEMS) {
                return fail(TOO_MANY);
            }
            input.advance();
            if (!readKnownPerson(NONE) || !readNumber(0, MAX_AMOUNT)) {
                return false;
            }
            estate.putLegacy(personRead, numberRead);
            return true;
        }

        private boolean readShare() {
            if (shareRead) {
                return fail(TWICE);
            }
            shareRead = true;
            input.advance();
            if (!readNumber(1, 99)) {
                return false;
            }
            estate.whole = numberRead;
            if (!readNumber(0, estate.whole)) {
                return false;
            }
            estate.part = numberRead;
            return true;
        }

        private boolean readLife() {
            if (lifeRead) {
                return fail(TWICE);
            }
            lifeRead = true;
            input.advance();
            if (!readNumber(0, 100)) {
                return false;
            }
            estate.life = numberRead;
            return true;
        }

        private boolean readAccrue() {
            if (accrueRead) {
                return fail(TWICE);
            }
            accrueRead = true;
            input.advance();
            boolean line = input.isWord("line");
            if (!line && !input.isWord("others")) {
                return fail(NOT_ALLOWED);
            }
            state.putAccrual(line);
            input.advance();
            return true;
        }

        private boolean readNumber(int least, int most) {
            if (input.kind != Input.NUMBER) {
                return fail(NOT_ALLOWED);
            }
            int number = input.number();
            if (number < least || number > most) {
                return fail(OUT_OF_RANGE);
            }
            numberRead = number;
            input.advance();
            return true;
        }

        private boolean readKnownPerson(int excluded) {
            if (input.kind != Input.WORD) {
                return fail(NOT_ALLOWED);
            }
            int person = estate.personNamed(input.word());
            if (person == NONE || person == excluded) {
                return fail(NO_PERSON);
            }
            personRead = person;
            input.advance();
            return true;
        }
    }

    /** What the text says and no change alters. */
    private static final class Estate {
        int personCount = 0;
        private final long[] names = new long[MAX_PERSONS];
        final int[] parents = new int[MAX_PERSONS];
        int spouse = NONE;
        int assetCount = 0;
        final int[] charges = new int[MAX_ITEMS];
        int legacyCount = 0;
        final int[] legatees = new int[MAX_ITEMS];
        final int[] legacyAmounts = new int[MAX_ITEMS];
        int whole = 4;
        int part = 1;
        int life = 0;

        void clear() {
            personCount = 0;
            spouse = NONE;
            assetCount = 0;
            legacyCount = 0;
            whole = 4;
            part = 1;
            life = 0;
        }

        void copy(Estate other) {
            personCount = other.personCount;
            System.arraycopy(other.names, 0, names, 0, MAX_PERSONS);
            System.arraycopy(other.parents, 0, parents, 0, MAX_PERSONS);
            spouse = other.spouse;
            assetCount = other.assetCount;
            System.arraycopy(other.charges, 0, charges, 0, MAX_ITEMS);
            legacyCount = other.legacyCount;
            System.arraycopy(other.legatees, 0, legatees, 0, MAX_ITEMS);
            System.arraycopy(other.legacyAmounts, 0, legacyAmounts, 0, MAX_ITEMS);
            whole = other.whole;
            part = other.part;
            life = other.life;
        }

        int personNamed(long name) {
            for (int person = 0; person < personCount && person < MAX_PERSONS; person++) {
                if (names[person] == name) {
                    return person;
                }
            }
            return NONE;
        }

        int childrenOf(int parent) {
            int count = 0;
            for (int person = 0; person < personCount && person < MAX_PERSONS; person++) {
                if (parents[person] == parent) {
                    count++;
                }
            }
            return count;
        }

        void putPerson(long name, int parent) {
            if (personCount >= 0 && personCount < MAX_PERSONS) {
                names[personCount] = name;
                parents[personCount] = parent;
                personCount++;
            }
        }

        void putAsset(int charge) {
            if (assetCount >= 0 && assetCount < MAX_ITEMS) {
                charges[assetCount] = charge;
                assetCount++;
            }
        }

        void putLegacy(int person, int amount) {
            if (legacyCount >= 0 && legacyCount < MAX_ITEMS) {
                legatees[legacyCount] = person;
                legacyAmounts[legacyCount] = amount;
                legacyCount++;
            }
        }
    }

    /** Everything that changes can change, in one row, so that undo and snapshots copy it whole. */
    private static final class State {
        private static final int AGES = 0;
        private static final int DEAD = AGES + MAX_PERSONS;
        private static final int REFUSING = DEAD + MAX_PERSONS;
        private static final int VALUES = REFUSING + MAX_PERSONS;
        private static final int GIFT_COUNT = VALUES + MAX_ITEMS;
        private static final int GIFT_PERSONS = GIFT_COUNT + 1;
        private static final int GIFT_AMOUNTS = GIFT_PERSONS + MAX_ITEMS;
        private static final int DEBT_COUNT = GIFT_AMOUNTS + MAX_ITEMS;
        private static final int DEBT_RANKS = DEBT_COUNT + 1;
        private static final int DEBT_AMOUNTS = DEBT_RANKS + MAX_ITEMS;
        private static final int IN_LINE = DEBT_AMOUNTS + MAX_ITEMS;
        static final int CELLS = IN_LINE + 1;

        private final int[] cells = new int[CELLS];

        State() {
            cells[IN_LINE] = 1;
        }

        void clear() {
            for (int i = 0; i < cells.length; i++) {
                cells[i] = 0;
            }
            cells[IN_LINE] = 1;
        }

        void copy(State other) {
            System.arraycopy(other.cells, 0, cells, 0, CELLS);
        }

        void writeTo(int[] rows, int row) {
            if (row >= 0 && row < rows.length / CELLS) {
                System.arraycopy(cells, 0, rows, row * CELLS, CELLS);
            }
        }

        void readFrom(int[] rows, int row) {
            if (row >= 0 && row < rows.length / CELLS) {
                System.arraycopy(rows, row * CELLS, cells, 0, CELLS);
            }
        }

        int age(int person) {
            return cell(AGES, person, MAX_PERSONS);
        }

        boolean isDead(int person) {
            return cell(DEAD, person, MAX_PERSONS) != 0;
        }

        boolean isRefusing(int person) {
            return cell(REFUSING, person, MAX_PERSONS) != 0;
        }

        boolean takes(int person) {
            return cell(DEAD, person, MAX_PERSONS) == 0 && cell(REFUSING, person, MAX_PERSONS) == 0;
        }

        boolean passesOn(int person) {
            return cell(DEAD, person, MAX_PERSONS) != 0
                    || cell(REFUSING, person, MAX_PERSONS) != 0 && cells[IN_LINE] != 0;
        }

        boolean accruesInLine() {
            return cells[IN_LINE] != 0;
        }

        int value(int asset) {
            return cell(VALUES, asset, MAX_ITEMS);
        }

        int giftCount() {
            return cells[GIFT_COUNT];
        }

        int giftsTo(int person) {
            int sum = 0;
            for (int gift = 0; gift < giftCount(); gift++) {
                if (cell(GIFT_PERSONS, gift, MAX_ITEMS) == person) {
                    sum += cell(GIFT_AMOUNTS, gift, MAX_ITEMS);
                }
            }
            return sum;
        }

        int debtCount() {
            return cells[DEBT_COUNT];
        }

        int debtRank(int debt) {
            return cell(DEBT_RANKS, debt, MAX_ITEMS);
        }

        int debtAmount(int debt) {
            return cell(DEBT_AMOUNTS, debt, MAX_ITEMS);
        }

        void putAge(int person, int age) {
            putCell(AGES, person, MAX_PERSONS, age);
        }

        void putDead(int person) {
            putCell(DEAD, person, MAX_PERSONS, 1);
        }

        void putRefusing(int person, boolean refusing) {
            putCell(REFUSING, person, MAX_PERSONS, asInt(refusing));
        }

        void putAccrual(boolean line) {
            cells[IN_LINE] = asInt(line);
        }

        void putValue(int asset, int value) {
            putCell(VALUES, asset, MAX_ITEMS, value);
        }

        void putGift(int person, int amount) {
            int gift = giftCount();
            if (gift < MAX_ITEMS) {
                putCell(GIFT_PERSONS, gift, MAX_ITEMS, person);
                putCell(GIFT_AMOUNTS, gift, MAX_ITEMS, amount);
                cells[GIFT_COUNT] = gift + 1;
            }
        }

        void putDebt(int rank, int amount) {
            int debt = debtCount();
            if (debt < MAX_ITEMS) {
                putCell(DEBT_RANKS, debt, MAX_ITEMS, rank);
                putCell(DEBT_AMOUNTS, debt, MAX_ITEMS, amount);
                cells[DEBT_COUNT] = debt + 1;
            }
        }

        private int cell(int first, int index, int count) {
            int place = first + index;
            boolean known = index >= 0 && index < count && place >= 0 && place < cells.length;
            return known ? cells[place] : 0;
        }

        private void putCell(int first, int index, int count, int number) {
            int place = first + index;
            if (index >= 0 && index < count && place >= 0 && place < cells.length) {
                cells[place] = number;
            }
        }
    }

    /** Earlier states: those that can be undone, the latest last, and those of the snapshot slots. */
    private static final class Memory {
        private final int[] undoRows = new int[MAX_UNDO * State.CELLS];
        private final int[] slotRows = new int[SLOTS * State.CELLS];
        int undoCount = 0;
        int usedSlots = 0;

        void clearUndo() {
            undoCount = 0;
        }

        void clearSlots() {
            usedSlots = 0;
        }

        void remember(State state) {
            if (undoCount >= MAX_UNDO) {
                System.arraycopy(undoRows, State.CELLS, undoRows, 0, (MAX_UNDO - 1) * State.CELLS);
                undoCount = MAX_UNDO - 1;
            }
            state.writeTo(undoRows, undoCount);
            undoCount++;
        }

        void takeBack(State state) {
            if (undoCount > 0) {
                undoCount--;
                state.readFrom(undoRows, undoCount);
            }
        }

        void store(State state, int slot) {
            state.writeTo(slotRows, slot);
            usedSlots |= 1 << slot;
        }

        void fetch(State state, int slot) {
            state.readFrom(slotRows, slot);
        }
    }

    /** What the assets bring, and what of it goes to debts and legacies. */
    private static final class Inventory {
        int netEstate = 0;
        int debtsPaid = 0;
        int debtsUnpaid = 0;
        int legaciesPaid = 0;
        int residue = 0;
        final int[] debtPaid = new int[MAX_ITEMS];
        final int[] legacyPaid = new int[MAX_ITEMS];
        private final int[] claims = new int[MAX_ITEMS];
        private final int[] parts = new int[MAX_ITEMS];

        static int netValue(Estate estate, State state, int asset) {
            int value = state.value(asset);
            return value - portion(value, at(estate.charges, asset), 100);
        }

        void addUpAssets(Estate estate, State state) {
            netEstate = 0;
            for (int asset = 0; asset < estate.assetCount; asset++) {
                netEstate += netValue(estate, state, asset);
            }
        }

        // To split the whole sum of some claims by these claims pays each of them in full.
        void payDebts(State state) {
            for (int debt = 0; debt < MAX_ITEMS; debt++) {
                debtPaid[debt] = 0;
            }
            debtsPaid = 0;
            debtsUnpaid = 0;
            for (int rank = 1; rank <= MAX_RANK; rank++) {
                claimDebts(state, rank);
                int sum = sumOf(claims);
                int paid = Math.min(netEstate - debtsPaid, sum);
                split(paid, claims, parts);
                for (int debt = 0; debt < MAX_ITEMS; debt++) {
                    debtPaid[debt] += parts[debt];
                }
                debtsPaid += paid;
                debtsUnpaid += sum - paid;
            }
        }

        private void claimDebts(State state, int rank) {
            for (int debt = 0; debt < MAX_ITEMS; debt++) {
                boolean due = debt < state.debtCount() && state.debtRank(debt) == rank;
                claims[debt] = due ? state.debtAmount(debt) : 0;
            }
        }

        void payLegacies(Estate estate, State state) {
            for (int legacy = 0; legacy < MAX_ITEMS; legacy++) {
                boolean due = legacy < estate.legacyCount && state.takes(at(estate.legatees, legacy));
                claims[legacy] = due ? at(estate.legacyAmounts, legacy) : 0;
            }
            legaciesPaid = Math.min(netEstate - debtsPaid, sumOf(claims));
            split(legaciesPaid, claims, legacyPaid);
            residue = netEstate - debtsPaid - legaciesPaid;
        }
    }

    /** Who the heirs are, and by what weights they share. */
    private static final class Lines {
        int heirs = 0;
        int notEmpty = 0;
        /** How many lines are not empty: among the deceased's children first, then each person's. */
        private final int[] openLines = new int[MAX_PERSONS + 1];
        final int[] divisors = new int[MAX_PERSONS];
        final int[] weights = new int[MAX_PERSONS];

        // A parent stands before its children, so backwards the lines of all children come first.
        void findOpenLines(Estate estate, State state) {
            notEmpty = 0;
            for (int i = 0; i < openLines.length; i++) {
                openLines[i] = 0;
            }
            for (int person = estate.personCount - 1; person >= 0; person--) {
                boolean open = state.takes(person)
                        || state.passesOn(person) && at(openLines, person + 1) > 0;
                if (open && person != estate.spouse) {
                    notEmpty |= 1 << person;
                    countLine(at(estate.parents, person));
                }
            }
        }

        private void countLine(int parent) {
            int place = parent + 1;
            if (place >= 0 && place < openLines.length) {
                openLines[place]++;
            }
        }

        // The divisor of a person that is not reached is 0, and so are those of all below it.
        void findHeirs(Estate estate, State state) {
            heirs = 0;
            for (int person = 0; person < MAX_PERSONS; person++) {
                divisors[person] = 0;
                if (person < estate.personCount && person != estate.spouse) {
                    int parent = at(estate.parents, person);
                    divisors[person] = divisorBelow(state, parent) * at(openLines, parent + 1);
                    if (divisors[person] > 0 && state.takes(person)) {
                        heirs |= 1 << person;
                    }
                }
            }
        }

        private int divisorBelow(State state, int parent) {
            if (parent == NONE) {
                return 1;
            }
            return state.passesOn(parent) ? at(divisors, parent) : 0;
        }

        void findWeights() {
            int multiple = 1;
            for (int person = 0; person < MAX_PERSONS; person++) {
                if (hasBit(heirs, person)) {
                    multiple = leastCommonMultiple(multiple, divisors[person]);
                }
            }
            for (int person = 0; person < MAX_PERSONS; person++) {
                boolean shares = hasBit(heirs, person) && divisors[person] > 0;
                weights[person] = shares ? multiple / divisors[person] : 0;
            }
        }
    }

    /** How the fund is divided among the heirs when gifts are brought into account. */
    private static final class Portions {
        int leftOut = 0;
        int pot = 0;
        private int weightSum = 0;
        final int[] gifts = new int[MAX_PERSONS];
        /** The weights of the heirs in account; those of all others are 0. */
        private final int[] weights = new int[MAX_PERSONS];
        private final int[] parts = new int[MAX_PERSONS];

        void bring(State state) {
            for (int person = 0; person < MAX_PERSONS; person++) {
                gifts[person] = state.giftsTo(person);
            }
        }

        void bringFurther(int person, int gift) {
            if (person >= 0 && person < MAX_PERSONS) {
                gifts[person] += gift;
            }
        }

        // The last heir in account is never left out, so there are fewer such rounds than persons.
        void divide(int fund, Lines lines) {
            leftOut = 0;
            System.arraycopy(lines.weights, 0, weights, 0, MAX_PERSONS);
            reckon(fund);
            int person = findOverpaid();
            for (int round = 0; round < MAX_PERSONS && person >= 0 && person < MAX_PERSONS; round++) {
                leftOut |= 1 << person;
                weights[person] = 0;
                reckon(fund);
                person = findOverpaid();
            }
            split(pot, weights, parts);
        }

        int due(int person) {
            return isInAccount(person) ? portion(pot, weights[person], weightSum) : 0;
        }

        int cent(int person) {
            return isInAccount(person) ? parts[person] - due(person) : 0;
        }

        int fromFund(int person) {
            return isInAccount(person) ? parts[person] - gifts[person] : 0;
        }

        private boolean isInAccount(int person) {
            return person >= 0 && person < MAX_PERSONS && weights[person] > 0;
        }

        private void reckon(int fund) {
            pot = fund;
            weightSum = sumOf(weights);
            for (int person = 0; person < MAX_PERSONS; person++) {
                if (isInAccount(person)) {
                    pot += gifts[person];
                }
            }
        }

        private int findOverpaid() {
            int found = NONE;
            int greatest = 0;
            for (int person = 0; person < MAX_PERSONS; person++) {
                if (isInAccount(person) && gifts[person] - due(person) > greatest) {
                    found = person;
                    greatest = gifts[person] - due(person);
                }
            }
            return found;
        }
    }

    /** The whole settlement of an estate in a state. */
    private static final class Settlement {
        final Inventory inventory = new Inventory();
        final Lines lines = new Lines();
        final Portions portions = new Portions();
        int spouseShare = 0;
        int burdened = 0;
        int worth = 0;
        int fund = 0;
        int toTheState = 0;

        static int lifeFactor(int age) {
            return Math.max(10, Math.min(90, 100 - age / 10 * 10));
        }

        void settle(Estate estate, State state) {
            inventory.addUpAssets(estate, state);
            inventory.payDebts(state);
            inventory.payLegacies(estate, state);
            lines.findOpenLines(estate, state);
            lines.findHeirs(estate, state);
            lines.findWeights();
            divideResidue(estate, state);
            portions.bring(state);
            portions.divide(fund, lines);
        }

        int givenTo(Estate estate, int person) {
            int sum = portions.fromFund(person);
            for (int legacy = 0; legacy < estate.legacyCount; legacy++) {
                if (at(estate.legatees, legacy) == person) {
                    sum += at(inventory.legacyPaid, legacy);
                }
            }
            return person == estate.spouse ? sum + spouseShare + worth : sum;
        }

        private void divideResidue(Estate estate, State state) {
            boolean spouseTakes = estate.spouse != NONE && state.takes(estate.spouse);
            int residue = inventory.residue;
            spouseShare = 0;
            burdened = 0;
            worth = 0;
            fund = 0;
            toTheState = 0;
            if (lines.heirs == 0) {
                spouseShare = spouseTakes ? residue : 0;
                toTheState = residue - spouseShare;
                return;
            }
            if (spouseTakes) {
                spouseShare = portion(residue, estate.part, estate.whole);
                burdened = portion(residue - spouseShare, estate.life, 100);
                worth = portion(burdened, lifeFactor(state.age(estate.spouse)), 100);
            }
            fund = residue - spouseShare - worth;
        }
    }
}
