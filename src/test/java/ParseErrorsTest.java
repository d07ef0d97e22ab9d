/** The parse errors of promises 3 and 4: their codes and positions. */
public final class ParseErrorsTest {
    public static void main(String[] args) {
        invalidTokens();
        notAllowed();
        tooEarly();
        twice();
        outOfRange();
        noPerson();
        tooMany();
        firstError();
        Kit.finish();
    }

    private static void invalidTokens() {
        Kit.about("promises 3 and 4: code 1");
        Kit.fails(1, "person ^abcdefghi;");
        Kit.fails(1, "^personperson a;");
        Kit.fails(1, "life ^00000005;");
        Kit.fails(1, "asset ^10000000;");
        Kit.fails(1, "^Person a;");
        Kit.fails(1, "person ^A;");
        Kit.fails(1, "person a^B;");
        Kit.fails(1, "person a^_b;");
        Kit.fails(1, "life ^-1;");
        Kit.fails(1, "^\tlife 1;");
        Kit.fails(1, "life 1;^\r");
        Kit.fails(1, "life 1;^\0");
        Kit.fails(1, "life 1;^\u00ff");
        Kit.fails(1, "life 1^\u00b2;");
        Kit.fails(1, "life 1;^\u00e9");
        Kit.fails(1, "person a^`;");
        Kit.fails(1, "person a^{;");
        Kit.fails(1, "life 1^/;");
        Kit.fails(1, "life 1^:;");
        Kit.fails(1, "life 1;  \n ^longlonglong");
    }

    private static void notAllowed() {
        Kit.about("promises 3 and 4: code 1");
        Kit.fails(1, "^;");
        Kit.fails(1, "life 1;^;");
        Kit.fails(1, "^5;");
        Kit.fails(1, "^spouse;");
        Kit.fails(1, "^under a;");
        Kit.fails(1, "^persons a;");
        Kit.fails(1, "^perso a;");
        Kit.fails(1, "person ^;");
        Kit.fails(1, "person ^5;");
        Kit.fails(1, "person a ^b;");
        Kit.fails(1, "person a ^5;");
        Kit.fails(1, "person a;person b under ^;");
        Kit.fails(1, "person a;person b under ^3;");
        Kit.fails(1, "person a;person b age 5 ^under a;");
        Kit.fails(1, "person a age ^;");
        Kit.fails(1, "person a age ^b;");
        Kit.fails(1, "person a dead ^age 5;");
        Kit.fails(1, "person a dead ^dead;");
        Kit.fails(1, "person a dead ^spouse;");
        Kit.fails(1, "person a spouse ^dead;");
        Kit.fails(1, "person a spouse ^spouse;");
        Kit.fails(1, "person a;person b under a ^spouse;");
        Kit.fails(1, "person a;person b under a age 5 ^spouse;");
        Kit.fails(1, "person s spouse;person a;person b under a ^spouse;");
        Kit.fails(1, "asset ^;");
        Kit.fails(1, "asset ^five;");
        Kit.fails(1, "asset 5 ^5;");
        Kit.fails(1, "asset 5 ^age 5;");
        Kit.fails(1, "asset 5 charge ^;");
        Kit.fails(1, "asset 5 charge ^x;");
        Kit.fails(1, "asset 5 charge 5 ^charge 5;");
        Kit.fails(1, "debt ^;");
        Kit.fails(1, "debt ^x 5;");
        Kit.fails(1, "debt 1 ^;");
        Kit.fails(1, "debt 1 ^x;");
        Kit.fails(1, "debt 1 2 ^3;");
        Kit.fails(1, "gift ^;");
        Kit.fails(1, "gift ^5 5;");
        Kit.fails(1, "person a;gift a ^;");
        Kit.fails(1, "person a;gift a ^a;");
        Kit.fails(1, "person a;gift a 1 ^1;");
        Kit.fails(1, "legacy ^;");
        Kit.fails(1, "legacy ^5 5;");
        Kit.fails(1, "person a;legacy a ^;");
        Kit.fails(1, "person a;legacy a ^a;");
        Kit.fails(1, "person a;legacy a 1 ^a;");
        Kit.fails(1, "share ^;");
        Kit.fails(1, "share ^x;");
        Kit.fails(1, "share 4 ^;");
        Kit.fails(1, "share 4 ^x;");
        Kit.fails(1, "share 4 1 ^1;");
        Kit.fails(1, "life ^;");
        Kit.fails(1, "life ^x;");
        Kit.fails(1, "life 5 ^5;");
        Kit.fails(1, "accrue ^;");
        Kit.fails(1, "accrue ^5;");
        Kit.fails(1, "accrue ^lines;");
        Kit.fails(1, "accrue ^other;");
        Kit.fails(1, "accrue line ^others;");
        Kit.fails(1, "life 5 ^life 5;");
    }

    private static void tooEarly() {
        Kit.about("promises 3 and 4: code 1");
        Kit.fails(1, "person^");
        Kit.fails(1, "person ^");
        Kit.fails(1, "person a^");
        Kit.fails(1, "person a \n^");
        Kit.fails(1, "person a;person b under^");
        Kit.fails(1, "person a age^");
        Kit.fails(1, "person a age 5^");
        Kit.fails(1, "person a dead^");
        Kit.fails(1, "asset^");
        Kit.fails(1, "asset 5  ^");
        Kit.fails(1, "asset 5 charge^");
        Kit.fails(1, "debt^");
        Kit.fails(1, "debt 1^");
        Kit.fails(1, "debt 1 1^");
        Kit.fails(1, "gift^");
        Kit.fails(1, "legacy^");
        Kit.fails(1, "share^");
        Kit.fails(1, "share 1^");
        Kit.fails(1, "share 1 1^");
        Kit.fails(1, "life^");
        Kit.fails(1, "life 1^");
        Kit.fails(1, "accrue^");
        Kit.fails(1, "accrue line^");
        EstateSettlement x = new EstateSettlement();
        Kit.type(x, "life 1;");
        Kit.same("the length cuts the text", x.parse(6), 1);
        Kit.same("the position is the length", x.errorPosition(), 6);
        Kit.type(x, "life 100;");
        Kit.same("the length cuts a number", x.parse(7), 1);
        Kit.same("the position is the length", x.errorPosition(), 7);
    }

    private static void twice() {
        Kit.about("promises 3 and 4: code 2");
        Kit.fails(2, "person a;person ^a;");
        Kit.fails(2, "person a;person b;person ^a under b;");
        Kit.fails(2, "person s spouse;person ^s;");
        Kit.fails(2, "person s spouse;person t ^spouse;");
        Kit.fails(2, "person s spouse;person t age 5 ^spouse;");
        Kit.fails(2, "share 4 1;^share 4 1;");
        Kit.fails(2, "share 4 1;life 5;^share 0 9;");
        Kit.fails(2, "life 5;^life 5;");
        Kit.fails(2, "life 5;^life 101;");
        Kit.fails(2, "accrue line;^accrue line;");
        Kit.fails(2, "accrue others;^accrue x;");
        Kit.fails(2, "life 5;^life");
    }

    private static void outOfRange() {
        Kit.about("promises 3 and 4: code 3");
        Kit.fails(3, "person a age ^121;");
        Kit.fails(3, "person a age ^9999999;");
        Kit.fails(3, "asset 5 charge ^101;");
        Kit.fails(3, "debt ^0 5;");
        Kit.fails(3, "debt ^6 5;");
        Kit.fails(3, "share ^0 0;");
        Kit.fails(3, "share ^100 1;");
        Kit.fails(3, "share 4 ^5;");
        Kit.fails(3, "share 99 ^100;");
        Kit.fails(3, "life ^101;");
        Kit.fails(3, "life ^101");
    }

    private static void noPerson() {
        Kit.about("promises 3 and 4: code 4");
        Kit.fails(4, "gift ^a 5;");
        Kit.fails(4, "gift ^a 5;person a;");
        Kit.fails(4, "legacy ^a 5;");
        Kit.fails(4, "person a under ^a;");
        Kit.fails(4, "person a under ^b;person b;");
        Kit.fails(4, "person a;person b under ^c;");
        Kit.fails(4, "person s spouse;person b under ^s;");
        Kit.fails(4, "person s spouse;person b under ^s spouse;");
        Kit.fails(4, "person ab;gift ^a 5;");
        Kit.fails(4, "person ab;gift ^abc 5;");
        Kit.fails(4, "gift ^dead 5;");
    }

    private static void tooMany() {
        Kit.about("promises 3 and 4: code 5");
        Kit.fails(5, "person a;person b;person c;person d;person e;person f;person g;person h;person i;"
                + "person j;person k;person l;^person a;");
        Kit.fails(5, "asset 1;asset 1;asset 1;asset 1;asset 1;asset 1;asset 1;asset 1;^asset x;");
        Kit.fails(5, "debt 1 1;debt 1 1;debt 1 1;debt 1 1;debt 1 1;debt 1 1;debt 1 1;debt 1 1;^debt");
        Kit.fails(5, "person a;gift a 1;gift a 1;gift a 1;gift a 1;gift a 1;gift a 1;gift a 1;gift a 1;^gift b 1;");
        Kit.fails(5, "person a;legacy a 1;legacy a 1;legacy a 1;legacy a 1;legacy a 1;legacy a 1;"
                + "legacy a 1;legacy a 1;^legacy a 1;");
    }

    private static void firstError() {
        Kit.about("promises 3 and 4: the smallest position");
        Kit.fails(1, "life 1 ^x;life 101;");
        Kit.fails(3, "life ^101;LIFE");
        Kit.fails(4, "gift ^a 12345678;");
        Kit.fails(2, "person a;person ^a under b;");
    }
}
