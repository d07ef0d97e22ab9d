import java.util.List;
import java.util.function.ToIntFunction;

/** Promises 1 to 6: each sentence of the document that names a boundary, at it and one beyond. */
public final class EdgesOfTextTest {
    private static final int NONE = EstateSettlement.NONE;
    private static final int MOST = 9999999;
    private static final String FAR = " ~";

    public static void main(String[] args) {
        emptyEstate();
        emptyBuffer();
        appendPlaces();
        appendUntilFull();
        parseLength();
        parseEmptiesTheBuffer();
        parseErrorChangesNothing();
        parseSuccessReplaces();
        longestText();
        separators();
        adjacentTokens();
        lengthsOfWords();
        lengthsOfNumbers();
        ranges();
        rangeOfPart();
        defaults();
        grammar();
        wordsOfTheGrammar();
        personParts();
        numbersOfEachSort();
        onlyOnce();
        namesAndPersons();
        severalCodes();
        endOfText();
        errorPosition();
        size();
        find();
        Kit.finish();
    }

    // ---- promise 1

    private static void emptyEstate() {
        Kit.about("promise 1: Creates the estate of the empty text");
        EstateSettlement x = new EstateSettlement();
        EstateSettlement y = new EstateSettlement();
        Kit.same("parse(0)", y.parse(0), 0);
        Kit.sameInside("a new object and one that parsed the empty text", x, y);
        Kit.same("NONE", EstateSettlement.NONE, -1);
        EstateSettlement z = new EstateSettlement();
        int[] sizes = {0, 0, 0, 0, 0, NONE, 1, 4, 0, 1};
        for (int what = 0; what <= 9; what++) {
            Kit.same("size " + what, z.size(what), sizes[what]);
            Kit.same("account " + what, z.account(what), 0);
        }
        Kit.same("heirs", z.heirs(), 0);
        Kit.same("leftOut", z.leftOut(), 0);
        Kit.yes("isBalanced", z.isBalanced());
        Kit.same("undo", z.undo(), NONE);
        Kit.same("errorPosition", z.errorPosition(), NONE);
        Kit.same("setAccrue", z.setAccrue(false), 0);
        Kit.same("addDebt", z.addDebt(1, MOST), 0);
    }

    private static void emptyBuffer() {
        Kit.about("promise 1: with an empty input buffer");
        Kit.same("find", new EstateSettlement().find(), NONE);
        Kit.raisesOutside("parse", Kit.ARGUMENT, 1, length -> new EstateSettlement().parse(length));
        Kit.same("append", new EstateSettlement().append(0, 0, 0, 0, 0), 20);
    }

    // ---- promise 2

    private static void appendPlaces() {
        Kit.about("promise 2: the four bytes of each argument, the most significant byte first");
        for (int place = 0; place < 20; place++) {
            int[] fours = {0x20202020, 0x20202020, 0x20202020, 0x20202020, 0x20202020};
            fours[place / 4] ^= 1 << 24 - place % 4 * 8;
            EstateSettlement x = new EstateSettlement();
            x.append(fours[0], fours[1], fours[2], fours[3], fours[4]);
            Kit.same("byte 33 at " + place, x.parse(20), 1);
            Kit.same("its position", x.errorPosition(), place);
        }
        EstateSettlement y = new EstateSettlement();
        y.append(-1, -1, -1, -1, -1);
        Kit.same("bytes 255", y.parse(20), 1);
        Kit.same("their position", y.errorPosition(), 0);
    }

    private static void appendUntilFull() {
        Kit.about("promise 2: NONE, with nothing appended, if it would exceed 700");
        EstateSettlement x = new EstateSettlement();
        Kit.type(x, "life 7;");
        for (int length = 40; length <= 700; length += 20) {
            Kit.same("append", x.append(0x20202020, 0x20202020, 0x20202020, 0x20202020, 0x20202020), length);
        }
        Kit.same("append to 720", x.append(-1, -1, -1, -1, -1), NONE);
        Kit.same("append to 720 once more", x.append(0, 0, 0, 0, 0), NONE);
        Kit.raises("the length is still 700", Kit.ARGUMENT, () -> x.parse(701));
        Kit.same("the text is as it was", x.parse(700), 0);
        Kit.same("life", x.size(8), 7);
        Kit.same("append to the emptied buffer", x.append(0, 0, 0, 0, 0), 20);
    }

    // ---- promise 3

    private static void parseLength() {
        Kit.about("promise 3: length: 0 to the length of the buffer");
        for (int calls = 0; calls <= 35; calls += 5) {
            String text = " ".repeat(calls * 20);
            int most = text.length();
            EstateSettlement x = new EstateSettlement();
            Kit.type(x, text);
            Kit.raisesOutside("parse of " + most + " bytes", Kit.ARGUMENT, most + 1, x::parse);
            Kit.same("parse(" + most + ")", x.parse(most), 0);
            Kit.type(x, text);
            Kit.same("parse(0)", x.parse(0), 0);
        }
        Kit.about("promise 3: Parses the first length bytes of the input buffer as a text");
        EstateSettlement y = new EstateSettlement();
        Kit.type(y, "life 12;!");
        Kit.same("what stands behind the length is no text", y.parse(8), 0);
        Kit.same("life", y.size(8), 12);
        Kit.type(y, "life 12;!");
        Kit.same("the byte at the length is the first one behind", y.parse(9), 1);
        Kit.same("its position", y.errorPosition(), 8);
        Kit.type(y, "life 1;;");
        Kit.same("a length within the text", y.parse(7), 0);
        Kit.type(y, "life 12;");
        Kit.same("the length cuts off the semicolon", y.parse(7), 1);
        Kit.same("the text ends there", y.errorPosition(), 7);
        Kit.type(y, "life 12;");
        Kit.same("the length cuts a word", y.parse(3), 1);
        Kit.same("lif is no statement", y.errorPosition(), 0);
        Kit.type(y, "person abcdefghi;");
        Kit.same("the length cuts a name", y.parse(15), 1);
        Kit.same("8 letters are left of it", y.errorPosition(), 15);
    }

    private static void parseEmptiesTheBuffer() {
        Kit.about("promise 3: the buffer is emptied; it is also empty after a success");
        EstateSettlement x = new EstateSettlement();
        String[] texts = {"life 5;", "life x;", ""};
        for (String text : texts) {
            Kit.type(x, text + " ".repeat(41));
            x.parse(text.length());
            Kit.raises("nothing is left behind \"" + text + "\"", Kit.ARGUMENT, () -> x.parse(1));
            Kit.same("append then", x.append(0x20202020, 0, 0, 0, 0), 20);
            Kit.same("parse of that", x.parse(4), 0);
        }
        Kit.about("promise 3: Throws IllegalArgumentException if length is out of range");
        Kit.refuses("parse(-1)", Kit.ARGUMENT, EdgesOfTextTest::usedEstate, y -> y.parse(-1));
        Kit.refuses("parse(21)", Kit.ARGUMENT, EdgesOfTextTest::usedEstate, y -> y.parse(21));
    }

    /** An estate with a history, a slot in use, an earlier parse error, and a name in the buffer. */
    private static EstateSettlement usedEstate() {
        EstateSettlement x = Kit.estate("person a;person s age 7 spouse;asset 900 charge 2;debt 1 20;gift a 5;legacy s 7;share 9 2;"
                + "life 8;accrue others;");
        Kit.same("an error", Kit.parse(x, "life 1; x;"), 1);
        x.refuse(0, true);
        x.saveSnapshot(1);
        x.setValue(0, 800);
        Kit.type(x, "s");
        return x;
    }

    private static void parseErrorChangesNothing() {
        Kit.about("promise 3: On a parse error nothing changes except that the buffer is emptied");
        EstateSettlement x = usedEstate();
        EstateSettlement y = usedEstate();
        x.find();
        y.find();
        Kit.same("an error at the very end", Kit.parse(x, "person b dead;person t age 3 spouse;person s under b;asset 4 "
                + "charge 5;debt 2 3;gift s 8;legacy b 9;share 9 8;life 7;accrue others"), 1);
        Kit.sameInside("after a parse error", x, y);
    }

    private static void parseSuccessReplaces() {
        Kit.about("promise 3: On success the described estate replaces the current one; "
                + "A successful parse clears the undo history and empties both slots");
        String[] texts = {"", "person b;", "person c;person a;person s;asset 1;debt 5 1;gift a 1;legacy a 1;",
            "person s spouse;person a;share 5 1;life 3;accrue line;asset 60;", "life 0;", "accrue others;share 1 0;"};
        for (String text : texts) {
            EstateSettlement x = usedEstate();
            x.find();
            x.saveSnapshot(0);
            x.die(1);
            x.setAge(0, 7);
            Kit.same(text, Kit.parse(x, text), 0);
            Kit.sameInside("after " + text, x, Kit.estate(text));
            EstateSettlement y = Kit.estate(text);
            Kit.same(text + " once more", Kit.parse(y, text), 0);
            Kit.sameInside("after " + text + " twice", y, Kit.estate(text));
            EstateSettlement z = new EstateSettlement();
            Kit.same("a text with an error at its end", Kit.parse(z, "person b dead;person t age 3 spouse;asset 4 charge 5;debt 2 3;"
                    + "gift b 8;legacy t 9;share 9 8;life 7;accrue others"), 1);
            Kit.same(text + " behind it", Kit.parse(z, text), 0);
            Kit.sameInside("after an error and " + text, z, Kit.estate(text));
        }
    }

    // ---- promise 3: TEXT

    private static void longestText() {
        Kit.about("promise 3: An estate is described by a text of at most 700 bytes");
        EstateSettlement x = Kit.estate(" ".repeat(692) + "life 77;");
        Kit.same("the last byte counts", x.size(8), 77);
        Kit.fails(1, " ".repeat(693) + "life 77^");
        Kit.fails(1, "life 7;" + "\n".repeat(692) + "^~");
        Kit.fails(1, "life 7" + " ".repeat(694) + "^");
        Kit.fails(1, " ".repeat(695) + "^;;;;;");
        EstateSettlement y = Kit.estate("\n".repeat(700));
        Kit.same("a text of nothing", y.size(8), 0);
    }

    private static void separators() {
        Kit.about("promise 3: Spaces (byte 32) and line feeds (byte 10) separate tokens; any other byte is an invalid token");
        for (int sign = 0; sign < 256; sign++) {
            String what = "byte " + sign;
            EstateSettlement x = new EstateSettlement();
            int code = Kit.parse(x, "life" + (char) sign + "5;");
            boolean letter = sign >= 'a' && sign <= 'z';
            boolean digit = sign >= '0' && sign <= '9';
            boolean blank = sign == 32 || sign == 10;
            Kit.same(what + " behind a word", code, digit || blank ? 0 : 1);
            Kit.same(what + ": position", x.errorPosition(), digit || blank ? NONE : letter ? 0 : 4);
            Kit.same(what + ": life", x.size(8), digit ? (sign - '0') * 10 + 5 : blank ? 5 : 0);
            EstateSettlement y = new EstateSettlement();
            code = Kit.parse(y, "asset 7" + (char) sign + ";");
            Kit.same(what + " behind a number", code, digit || blank ? 0 : 1);
            Kit.same(what + ": position", y.errorPosition(), digit || blank ? NONE : sign == ';' ? 8 : 7);
            EstateSettlement z = new EstateSettlement();
            code = Kit.parse(z, (char) sign + "life 7;");
            Kit.same(what + " at the start", code, blank ? 0 : 1);
            Kit.same(what + ": position", z.errorPosition(), blank ? NONE : 0);
        }
        Kit.about("promise 3: Spaces and line feeds are otherwise ignored");
        EstateSettlement x = Kit.estate("  \n\n share \n 9\n\n\n5  ;\n \nlife\n7\n;   \n");
        Kit.same("whole", x.size(7), 9);
        Kit.same("part", x.size(6), 5);
        Kit.same("life", x.size(8), 7);
    }

    private static void adjacentTokens() {
        Kit.about("promise 3: A token is a maximal run of letters, a maximal run of digits, or a semicolon");
        EstateSettlement x = Kit.estate("person a age5dead;asset7charge50;debt1 2;gift a3;legacy a4;share9 5;life6;");
        Kit.same("age", x.person(0, 1), 5);
        Kit.same("dead", x.person(0, 2), 1);
        Kit.same("net value", x.asset(0, 1), 4);
        Kit.same("amount", x.debt(0, 1), 2);
        Kit.same("gift", x.person(0, 5), 3);
        Kit.same("legacy", x.legacy(0, 1), 4);
        Kit.same("part", x.size(6), 5);
        Kit.fails(1, "^accrueline;");
        Kit.fails(1, "person ^adeadmanx;");
        Kit.fails(3, "debt ^12 5;");
        Kit.fails(1, "^lifelife;");
        Kit.fails(1, "person a^1;");
        Kit.fails(1, "person ^1a;");
    }

    private static void lengthsOfWords() {
        Kit.about("promise 3: A word is a maximal run of letters a to z, 1 to 8 letters; a longer run is an invalid token");
        String[] names = {"a", "z", "az", "azazaza", "abcdefgh", "zzzzzzzz", "aaaaaaaa"};
        for (String name : names) {
            EstateSettlement x = Kit.estate("person " + name + ";gift " + name + " 5;person b under " + name + ";");
            Kit.same("gift to " + name, x.person(0, 5), 5);
            Kit.same("find " + name, Kit.find(x, name), 0);
        }
        Kit.fails(1, "person ^abcdefghi;");
        Kit.fails(1, "person ^abcdefghijklmnopqrstuvwxyz;");
        Kit.fails(1, "person a;gift ^abcdefghi 5;");
        Kit.fails(1, "person a;legacy ^abcdefghi 5;");
        Kit.fails(1, "person a;person b under ^abcdefghi;");
        Kit.fails(1, "accrue ^abcdefghi;");
        Kit.fails(1, "person abcdefgh;person ^abcdefghi;");
        Kit.fails(4, "person a;gift ^abcdefgh 5;");
        Kit.fails(4, "person a;person b under ^abcdefgh;");
        Kit.fails(1, "person ^" + "a".repeat(693));
        Kit.fails(1, "^" + "p".repeat(700));
    }

    private static void lengthsOfNumbers() {
        Kit.about("promise 3: A number is a maximal run of digits, 1 to 7 digits; a longer run is an invalid token");
        for (Range range : RANGES) {
            String least = String.valueOf(range.least);
            for (int digits = 1; digits <= 7; digits++) {
                String number = "0".repeat(digits - 1) + range.least;
                Kit.same(range.before + number, range.answer.applyAsInt(Kit.estate(range.text(number))), range.least);
            }
            Kit.fails(1, range.before + "^" + "0".repeat(7) + least + range.after);
            Kit.fails(1, range.before + "^" + "0".repeat(100) + least + range.after);
            Kit.fails(1, range.before + "^4294967297" + range.after);
        }
        Kit.fails(1, "life ^" + "0".repeat(695));
    }

    private record Range(String before, String after, int least, int greatest, ToIntFunction<EstateSettlement> answer) {
        String text(Object number) {
            return before + number + after;
        }
    }

    private static final List<Range> RANGES = List.of(
            new Range("person a age ", ";", 0, 120, x -> x.person(0, 1)),
            new Range("asset ", ";", 0, MOST, x -> x.asset(0, 0)),
            new Range("asset 100 charge ", ";", 0, 100, x -> 100 - x.asset(0, 1)),
            new Range("debt ", " 5;", 1, 5, x -> x.debt(0, 0)),
            new Range("debt 1 ", ";", 0, MOST, x -> x.debt(0, 1)),
            new Range("person a;gift a ", ";", 0, MOST, x -> x.person(0, 5)),
            new Range("person a;legacy a ", ";", 0, MOST, x -> x.legacy(0, 1)),
            new Range("share ", " 0;", 1, 99, x -> x.size(7)),
            new Range("share 99 ", ";", 0, 99, x -> x.size(6)),
            new Range("life ", ";", 0, 100, x -> x.size(8)));

    private static void ranges() {
        Kit.about("promise 3: Ranges: years 0 to 120; value, amount 0 to 9999999; percent 0 to 100; rank 1 to 5; "
                + "whole 1 to 99, part 0 to whole; 3: a number out of its range");
        for (Range range : RANGES) {
            int[] within = {range.least, range.least + 1, range.greatest - 1, range.greatest};
            for (int number : within) {
                EstateSettlement x = Kit.estate(range.text(number));
                Kit.same(range.text(number), range.answer.applyAsInt(x), number);
            }
            if (range.least > 0) {
                Kit.fails(3, range.before + "^" + (range.least - 1) + range.after);
            }
            if (range.greatest < MOST) {
                Kit.fails(3, range.before + "^" + (range.greatest + 1) + range.after);
                Kit.fails(3, range.before + "^" + MOST + range.after);
                Kit.fails(3, range.before + "^" + (range.greatest + 1));
            } else {
                Kit.fails(1, range.before + "^" + (range.greatest + 1) + range.after);
            }
            Kit.fails(1, range.before + "^-1" + range.after);
        }
    }

    private static void rangeOfPart() {
        Kit.about("promise 3: part 0 to whole");
        for (int whole = 1; whole <= 99; whole += 7) {
            int[] within = {0, 1, whole - 1, whole};
            for (int part : within) {
                EstateSettlement x = Kit.estate("share " + whole + " " + part + ";");
                Kit.same("whole", x.size(7), whole);
                Kit.same("part", x.size(6), part);
            }
            Kit.fails(3, "share " + whole + " ^" + (whole + 1) + ";");
        }
    }

    private static void defaults() {
        Kit.about("promise 3: in parentheses what applies without the part or statement");
        EstateSettlement x = Kit.estate("person a;asset 1000;");
        Kit.same("years", x.person(0, 1), 50);
        Kit.same("charge", x.asset(0, 1), 1000);
        Kit.same("whole", x.size(7), 4);
        Kit.same("part", x.size(6), 1);
        Kit.same("life", x.size(8), 0);
        Kit.same("accrue", x.size(9), 1);
        EstateSettlement y = Kit.estate("person a age 0;asset 1000 charge 1;share 1 0;life 1;accrue others;");
        Kit.same("years", y.person(0, 1), 0);
        Kit.same("charge", y.asset(0, 1), 990);
        Kit.same("whole", y.size(7), 1);
        Kit.same("part", y.size(6), 0);
        Kit.same("life", y.size(8), 1);
        Kit.same("accrue", y.size(9), 0);
        Kit.same("the next asset has no charge", Kit.estate("asset 5 charge 100;asset 5;").asset(1, 1), 5);
        Kit.same("the next person is 50", Kit.estate("person a age 7;person b;").person(1, 1), 50);
        Kit.same("the next person is alive", Kit.estate("person a dead;person b;").person(1, 2), 0);
        Kit.same("the next person is nobody's child", Kit.estate("person a;person b under a;person c;").person(2, 0), NONE);
    }

    // ---- promise 3: the grammar

    private static final String STARTS = "person asset debt gift legacy share life accrue";
    private static final String[] TOKENS = {"person", "under", "age", "dead", "spouse", "asset", "charge", "debt", "gift",
        "legacy", "share", "life", "accrue", "line", "others", "a", "x", "5", ";", "abcdefghi", "00000005", "~", "\0"};

    /** At the end of the text, the tokens that may stand there; "number", "name" and "known" are sorts of them. */
    private record Place(String text, String allowed) {
        boolean allows(String token) {
            String word = token.matches("[a-z]{1,8}") ? "name" : token.matches("[0-9]{1,7}") ? "number" : "no token";
            List<String> words = List.of(allowed.split(" "));
            return words.contains(word) || words.contains(token) || words.contains("known") && token.equals("a");
        }
    }

    private static final List<Place> PLACES = List.of(
            new Place("", STARTS + " end"),
            new Place("person b;", STARTS + " end"),
            new Place("debt 5 5;", STARTS + " end"),
            new Place("person ", "name"),
            new Place("person b ", "under age dead spouse ;"),
            new Place("person a;person b under ", "known"),
            new Place("person a;person b under a ", "age dead ;"),
            new Place("person b age ", "number"),
            new Place("person b age 5 ", "dead spouse ;"),
            new Place("person a;person b under a age 5 ", "dead ;"),
            new Place("person b dead ", ";"),
            new Place("person b age 5 dead ", ";"),
            new Place("person b spouse ", ";"),
            new Place("person b age 5 spouse ", ";"),
            new Place("person s spouse;person b dead ", ";"),
            new Place("asset ", "number"),
            new Place("asset 5 ", "charge ;"),
            new Place("asset 5 charge ", "number"),
            new Place("asset 5 charge 5 ", ";"),
            new Place("debt ", "number"),
            new Place("debt 5 ", "number"),
            new Place("debt 5 5 ", ";"),
            new Place("person a;gift ", "known"),
            new Place("person a;gift a ", "number"),
            new Place("person a;gift a 5 ", ";"),
            new Place("person a;legacy ", "known"),
            new Place("person a;legacy a ", "number"),
            new Place("person a;legacy a 5 ", ";"),
            new Place("share ", "number"),
            new Place("share 5 ", "number"),
            new Place("share 5 5 ", ";"),
            new Place("life ", "number"),
            new Place("life 5 ", ";"),
            new Place("accrue ", "line others"),
            new Place("accrue line ", ";"),
            new Place("accrue others ", ";"));

    /** Behind a token that is allowed, the error is found at an invalid byte that follows it. */
    private static void grammar() {
        Kit.about("promise 3: 1: an invalid token, a token that the grammar does not allow at this place, "
                + "or a text that ends too early");
        for (Place place : PLACES) {
            for (String token : TOKENS) {
                boolean unknown = place.allowed.equals("known") && token.matches("[a-z]{1,8}") && !token.equals("a");
                if (place.allows(token)) {
                    Kit.fails(1, place.text + token + " ^~");
                } else {
                    Kit.fails(unknown ? 4 : 1, place.text + "^" + token + FAR);
                    Kit.fails(unknown ? 4 : 1, place.text + "^" + token);
                }
            }
            if (place.allowed.endsWith(" end")) {
                Kit.estate(place.text);
            } else {
                Kit.fails(1, place.text + "^");
                Kit.fails(1, place.text + "\n ^");
            }
        }
    }

    /** Each word of the grammar with a letter changed, less or more is no such word, but may be a name. */
    private static void wordsOfTheGrammar() {
        Kit.about("promise 3: 1: a token that the grammar does not allow at this place: a word that is nearly the one that is");
        for (Place place : PLACES) {
            for (String word : TOKENS) {
                if (word.length() > 1 && word.matches("[a-z]{1,8}") && place.allowed.contains(word)) {
                    for (int at = 0; at < word.length(); at++) {
                        char other = word.charAt(at) == 'q' ? 'v' : 'q';
                        Kit.fails(1, place.text + "^" + word.substring(0, at) + other + word.substring(at + 1) + FAR);
                    }
                    Kit.fails(1, place.text + "^" + word.substring(1) + FAR);
                    Kit.fails(1, place.text + "^" + word.substring(0, word.length() - 1) + FAR);
                    Kit.fails(1, place.text + "^" + word + "s" + FAR);
                }
            }
        }
        for (String word : TOKENS) {
            if (word.matches("[a-z]{1,8}")) {
                EstateSettlement x = Kit.estate("person " + word + ";person b under " + word + ";gift " + word + " 5;legacy "
                        + word + " 6;person c under " + word + " age 7 dead;");
                Kit.same("children of one named " + word, x.person(0, 4), 2);
                Kit.same("find " + word, Kit.find(x, word), 0);
                Kit.same("a spouse named " + word, Kit.estate("person " + word + " spouse;legacy " + word + " 1;").size(5), 0);
            }
        }
    }

    private static void personParts() {
        Kit.about("promise 3: \"person\" name [ \"under\" person ] [ \"age\" years ] [ \"dead\" | \"spouse\" ]");
        String[] unders = {"", " under p"};
        String[] ages = {"", " age 7"};
        String[] ends = {"", " dead", " spouse"};
        for (int bits = 0; bits < 12; bits++) {
            int under = bits & 1;
            int age = bits >> 1 & 1;
            int end = bits >> 2;
            String text = "person p;person q" + unders[under] + ages[age];
            if (under == 1 && end == 2) {
                Kit.fails(1, text + " ^spouse;");
            } else {
                EstateSettlement x = Kit.estate(text + ends[end] + ";");
                Kit.same("parent", x.person(1, 0), under == 1 ? 0 : NONE);
                Kit.same("age", x.person(1, 1), age == 1 ? 7 : 50);
                Kit.same("dead", x.person(1, 2), end == 1 ? 1 : 0);
                Kit.same("spouse", x.size(5), end == 2 ? 1 : NONE);
            }
        }
        Kit.about("promise 3: A person without under is a child of the deceased, unless it is the spouse");
        Kit.same("heirs", Kit.estate("person a;person s spouse;person b under a;person c;").heirs(), 0b1001);
    }

    private static String persons(int count, String rest) {
        StringBuilder text = new StringBuilder();
        for (int person = 0; person < count; person++) {
            text.append("person ").append((char) ('a' + person)).append(rest).append(';');
        }
        return text.toString();
    }

    private static void numbersOfEachSort() {
        Kit.about("promise 3: There are at most 12 persons, 8 assets, 8 debts, 8 gifts and 8 legacies; "
                + "5: the word of the 13th person, or of the 9th asset, debt, gift or legacy");
        Kit.same("12 persons", Kit.estate(persons(12, " age 5 dead")).size(0), 12);
        String[] thirteenth = {"person m;", "person a;", "person", "person m under a;", "person m spouse;", "person 5", "person ~"};
        for (String person : thirteenth) {
            Kit.fails(5, persons(12, "") + "^" + person);
        }
        Kit.fails(5, "person s spouse;" + persons(11, "") + "^person t;");
        String[] items = {"asset 5;", "debt 5 5;", "gift a 5;", "legacy a 5;"};
        String[] endings = {"", " 10000000", " ~", " 5 5 5;"};
        for (int sort = 0; sort < 4; sort++) {
            String text = "person a;" + items[sort].repeat(8);
            EstateSettlement x = Kit.estate(text);
            for (int what = 1; what <= 4; what++) {
                Kit.same("8 times " + items[sort] + " size " + what, x.size(what), what == sort + 1 ? 8 : 0);
            }
            Kit.fails(5, text + "^" + items[sort]);
            for (String ending : endings) {
                Kit.fails(5, text + "^" + items[sort].split(" ")[0] + ending);
            }
            for (String other : items) {
                if (!other.equals(items[sort])) {
                    Kit.estate(text + other);
                }
            }
        }
        Kit.about("promise 3: each sort numbered from 0 in the order of the text");
        EstateSettlement x = Kit.estate("debt 3 30;asset 10;person b;legacy b 70;asset 20;person a;gift a 1;debt 1 50;legacy a 60;");
        Kit.same("person b", Kit.find(x, "b"), 0);
        Kit.same("person a", Kit.find(x, "a"), 1);
        Kit.same("asset 0", x.asset(0, 0), 10);
        Kit.same("asset 1", x.asset(1, 0), 20);
        Kit.same("debt 0", x.debt(0, 1), 30);
        Kit.same("debt 1", x.debt(1, 1), 50);
        Kit.same("legacy 0", x.legacy(0, 1), 70);
        Kit.same("legacy 1", x.legacy(1, 1), 60);
    }

    private static void onlyOnce() {
        Kit.about("promise 3: at most one spouse; share, life and accrue can each occur once; "
                + "2: the word spouse of a second spouse; the word of a second share, life or accrue");
        String[] once = {"share 9 9;", "life 9;", "accrue line;"};
        for (String first : once) {
            for (String second : once) {
                if (first.equals(second)) {
                    Kit.fails(2, first + "^" + second);
                    Kit.fails(2, first + "person a;asset 5;^" + second);
                    Kit.fails(2, first + "^" + second.split(" ")[0]);
                    Kit.fails(2, first + "^" + second.split(" ")[0] + FAR);
                } else {
                    Kit.estate(first + second);
                    Kit.fails(2, first + second + "^" + first);
                    Kit.fails(2, first + second + "^" + second);
                }
            }
        }
        Kit.fails(2, "accrue line;^accrue others;");
        Kit.fails(2, "accrue others;^accrue line;");
        Kit.fails(2, "person s spouse;person t ^spouse;");
        Kit.fails(2, "person s spouse;person a;person t age 120 ^spouse;");
        Kit.fails(2, "person s spouse;person t ^spouse");
        Kit.fails(2, "person s spouse;person t ^spouse~");
        Kit.estate("person s spouse;person t;person u dead;person v under t;");
    }

    private static void namesAndPersons() {
        Kit.about("promise 3: 2: a name that an earlier person has");
        Kit.fails(2, "person a;person ^a;");
        Kit.fails(2, persons(11, "") + "person ^k;");
        Kit.fails(2, persons(11, "") + "person ^a;");
        Kit.fails(2, "person a;person ^a");
        Kit.fails(2, "person a;person ^a~");
        Kit.fails(2, "person a;person ^a under x;");
        Kit.fails(2, "person abcdefgh;person abcdefgx;person ^abcdefgh;");
        Kit.fails(2, "person s spouse;person ^s spouse;");
        Kit.estate("person a;person aa;person aaa;person b;person ab;person ba;");
        Kit.about("promise 3: 4: a person that is no earlier one, or, behind under, the spouse");
        Kit.fails(4, "person a under ^a;");
        Kit.fails(4, "person a;person b under ^b;");
        Kit.fails(4, "person a;person b under ^c;person c;");
        Kit.fails(4, "gift ^a 5;person a;");
        Kit.fails(4, "legacy ^a 5;person a;");
        Kit.fails(4, "person a;gift ^b 5;");
        Kit.fails(4, "person a;legacy ^b 5;");
        Kit.fails(4, "person s spouse;person b under ^s;");
        Kit.fails(4, "person a;person s spouse;person b under ^s age 5;");
        Kit.fails(4, "person a;person b under ^x");
        Kit.fails(4, "gift ^x");
        Kit.fails(4, "gift ^x~");
        EstateSettlement x = Kit.estate("person s spouse;gift s 5;legacy s 6;person a;person b under a;person c under b;");
        Kit.same("a gift to the spouse", x.person(0, 5), 5);
        Kit.same("a legacy to the spouse", x.legacy(0, 0), 0);
        Kit.same("under the latest one", x.person(3, 0), 2);
    }

    private static void severalCodes() {
        Kit.about("promise 3: If several codes apply at one position, the smallest is reported");
        Kit.fails(1, "person s spouse;person a;person b under a ^spouse;");
        Kit.fails(1, "person s spouse;person b dead ^spouse;");
        Kit.fails(1, "person s spouse ^spouse;");
        Kit.fails(1, "life 5 ^life 5;");
        Kit.fails(1, "share 5 ^share 5 5;");
        Kit.fails(1, "accrue ^accrue line;");
        Kit.fails(1, "life 5;share 5 5 ^life 5;");
        Kit.fails(1, persons(12, " ").substring(0, persons(12, " ").length() - 1) + "^person m;");
        Kit.fails(1, "asset 5;".repeat(7) + "asset 5 ^asset 5;");
        Kit.fails(1, "debt 5 5;".repeat(7) + "debt 5 5 ^debt 5 5;");
        Kit.fails(1, "person a;" + "gift a 5;".repeat(7) + "gift a 5 ^gift a 5;");
        Kit.fails(1, "person a;" + "legacy a 5;".repeat(7) + "legacy a 5 ^legacy a 5;");
        Kit.fails(1, "person a age ^99999999;");
        Kit.fails(1, "gift ^5 5;");
        Kit.about("promise 3: The error with the smallest position is reported");
        Kit.fails(2, "person a;person ^a age 121;gift b 5;~");
        Kit.fails(3, "life ^101;life 5;~");
        Kit.fails(4, "gift ^b 99999999;~");
        Kit.fails(5, "asset 5;".repeat(8) + "^asset 99999999;~");
        Kit.fails(3, "person a age ^121;person a;");
        Kit.fails(1, "person a ^~;person a;");
    }

    private static void endOfText() {
        Kit.about("promise 4: if the text ends too early, it is the length of the text");
        String text = "person a age 5 dead;person b under a age 6 dead;asset 5 charge 6;debt 1 2;gift a 3;legacy b 4;"
                + "share 6 5;life 7;accrue others;";
        for (int length = 0; length <= text.length(); length++) {
            String cut = text.substring(0, length);
            boolean whole = cut.isEmpty() || cut.endsWith(";");
            boolean within = length < text.length() && Character.isLetter(text.charAt(length))
                    && Character.isLetter(cut.isEmpty() ? ' ' : cut.charAt(length - 1));
            EstateSettlement x = new EstateSettlement();
            Kit.type(x, text);
            int code = x.parse(length);
            if (whole) {
                Kit.same("code of " + cut, code, 0);
                Kit.same("position of " + cut, x.errorPosition(), NONE);
            } else if (within) {
                Kit.same("code of " + cut, code, 1);
                Kit.same("position of " + cut, x.errorPosition(), cut.replaceAll("[a-z]*$", "").length());
            } else {
                Kit.same("code of " + cut, code, 1);
                Kit.same("position of " + cut, x.errorPosition(), length);
            }
        }
    }

    // ---- promise 4

    private static void errorPosition() {
        Kit.about("promise 4: The position of an error is the index of the first byte of its token");
        Kit.fails(1, "^~");
        Kit.fails(1, "life 5;  \n\n  ^lives 5;");
        Kit.fails(3, "life    ^0000101;");
        Kit.fails(2, "person abcdefgh;person\n^abcdefgh;");
        Kit.about("promise 4: the last call of parse that did not throw an exception; NONE if that call succeeded or there was none");
        EstateSettlement x = new EstateSettlement();
        Kit.same("none", x.errorPosition(), NONE);
        Kit.raises("parse(1)", Kit.ARGUMENT, () -> x.parse(1));
        Kit.same("none that did not throw", x.errorPosition(), NONE);
        Kit.parse(x, "life x;");
        Kit.same("an error", x.errorPosition(), 5);
        Kit.raises("parse(1)", Kit.ARGUMENT, () -> x.parse(1));
        Kit.same("the one before the call that threw", x.errorPosition(), 5);
        Kit.parse(x, ";");
        Kit.same("another error", x.errorPosition(), 0);
        x.append(0, 0, 0, 0, 0);
        x.find();
        x.setAccrue(true);
        x.undo();
        Kit.same("no call but parse alters it", x.errorPosition(), 0);
        Kit.parse(x, "life 5;");
        Kit.same("a success", x.errorPosition(), NONE);
        Kit.raises("parse(1)", Kit.ARGUMENT, () -> x.parse(1));
        Kit.same("the success before the call that threw", x.errorPosition(), NONE);
    }

    // ---- promise 5

    private static void size() {
        Kit.about("promise 5: Throws IllegalArgumentException if what is out of range");
        EstateSettlement empty = new EstateSettlement();
        Kit.raisesOutside("size", Kit.ARGUMENT, 10, empty::size);
        EstateSettlement x = Kit.estate(persons(12, "") + "asset 1;".repeat(8) + "debt 1 1;".repeat(8) + "gift a 1;".repeat(8)
                + "legacy a 1;".repeat(8) + "share 99 99;life 100;accrue others;");
        Kit.raisesOutside("size", Kit.ARGUMENT, 10, x::size);
        Kit.about("promise 5: Returns a count or a setting");
        int[] due = {12, 8, 8, 8, 8, NONE, 99, 99, 100, 0};
        for (int what = 0; what <= 9; what++) {
            Kit.same("size " + what, x.size(what), due[what]);
        }
        Kit.same("5 the spouse (NONE without one): the first person", Kit.estate("person s spouse;").size(5), 0);
        Kit.same("5 the spouse: the last person", Kit.estate(persons(11, "") + "person s spouse;").size(5), 11);
    }

    // ---- promise 6

    private static void find() {
        Kit.about("promise 6: the person whose name the input buffer contains, behind which bytes 32 may stand");
        EstateSettlement x = Kit.estate("person abcdefgh;" + persons(11, ""));
        Kit.same("the first person", Kit.find(x, "abcdefgh"), 0);
        Kit.same("the last person", Kit.find(x, "k"), 11);
        Kit.same("one letter less", Kit.find(x, "abcdefg"), NONE);
        Kit.same("one letter more", Kit.find(x, "abcdefghi"), NONE);
        Kit.same("a letter behind a space", Kit.find(x, "a b"), NONE);
        Kit.same("the last byte is another one", Kit.find(x, "a" + " ".repeat(18) + "\n"), NONE);
        Kit.same("20 bytes", Kit.find(x, "a" + " ".repeat(19)), 1);
        Kit.same("700 bytes", Kit.find(x, "a" + " ".repeat(699)), 1);
        Kit.same("700 bytes with another at the end", Kit.find(x, "a" + " ".repeat(698) + "~"), NONE);
        Kit.same("a space before it", Kit.find(x, " a"), NONE);
        Kit.same("a line feed before it", Kit.find(x, "\na"), NONE);
        Kit.same("20 letters", Kit.find(x, "a".repeat(20)), NONE);
        Kit.about("promise 6: Returns the person; NONE if there is none");
        Kit.same("spaces alone", Kit.find(x, " ".repeat(20)), NONE);
        Kit.same("zeros alone", Kit.find(x, "\0".repeat(20)), NONE);
        Kit.same("without persons", Kit.find(new EstateSettlement(), "a"), NONE);
        Kit.about("promise 6: The buffer is empty afterwards");
        Kit.same("found", Kit.find(x, "b"), 2);
        Kit.raises("parse(1)", Kit.ARGUMENT, () -> x.parse(1));
        Kit.same("find once more", x.find(), NONE);
        Kit.same("not found", Kit.find(x, "z" + " ".repeat(40)), NONE);
        Kit.raises("parse(1)", Kit.ARGUMENT, () -> x.parse(1));
        Kit.same("append", x.append(0, 0, 0, 0, 0), 20);
    }
}
