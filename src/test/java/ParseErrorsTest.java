/** The parse errors of promises 3 and 4: their codes and positions. */
public final class ParseErrorsTest {
    public static void main(String[] args) {
        invalidTokens();
        notAllowed();
        tooEarly();
        twice();
        outOfRange();
        noPerson();
        tooMany();
        firstError();
        Kit.finish();
    }

    /** The error is due at the first sign ^ of the text, which is no part of it. */
    private static void fails(int code, String marked) {
        int position = marked.indexOf('^');
        String text = marked.substring(0, position) + marked.substring(position + 1);
        EstateSettlement x = new EstateSettlement();
        Kit.same("code of " + marked, Kit.parse(x, text), code);
        Kit.same("position of " + marked, x.errorPosition(), position);
        Kit.same("persons after " + marked, x.size(0), 0);
        Kit.same("assets after " + marked, x.size(1), 0);
    }

    private static void invalidTokens() {
        fails(1, "person ^abcdefghi;");
        fails(1, "^personperson a;");
        fails(1, "life ^00000005;");
        fails(1, "asset ^10000000;");
        fails(1, "^Person a;");
        fails(1, "person ^A;");
        fails(1, "person a^B;");
        fails(1, "person a^_b;");
        fails(1, "life ^-1;");
        fails(1, "^\tlife 1;");
        fails(1, "life 1;^\r");
        fails(1, "life 1;^\0");
        fails(1, "life 1;^\u00ff");
        fails(1, "life 1^\u00b2;");
        fails(1, "life 1;^\u00e9");
        fails(1, "person a^`;");
        fails(1, "person a^{;");
        fails(1, "life 1^/;");
        fails(1, "life 1^:;");
        fails(1, "life 1;  \n ^longlonglong");
    }

    private static void notAllowed() {
        fails(1, "^;");
        fails(1, "life 1;^;");
        fails(1, "^5;");
        fails(1, "^spouse;");
        fails(1, "^under a;");
        fails(1, "^persons a;");
        fails(1, "^perso a;");
        fails(1, "person ^;");
        fails(1, "person ^5;");
        fails(1, "person a ^b;");
        fails(1, "person a ^5;");
        fails(1, "person a;person b under ^;");
        fails(1, "person a;person b under ^3;");
        fails(1, "person a;person b age 5 ^under a;");
        fails(1, "person a age ^;");
        fails(1, "person a age ^b;");
        fails(1, "person a dead ^age 5;");
        fails(1, "person a dead ^dead;");
        fails(1, "person a dead ^spouse;");
        fails(1, "person a spouse ^dead;");
        fails(1, "person a spouse ^spouse;");
        fails(1, "person a;person b under a ^spouse;");
        fails(1, "person a;person b under a age 5 ^spouse;");
        fails(1, "person s spouse;person a;person b under a ^spouse;");
        fails(1, "asset ^;");
        fails(1, "asset ^five;");
        fails(1, "asset 5 ^5;");
        fails(1, "asset 5 ^age 5;");
        fails(1, "asset 5 charge ^;");
        fails(1, "asset 5 charge ^x;");
        fails(1, "asset 5 charge 5 ^charge 5;");
        fails(1, "debt ^;");
        fails(1, "debt ^x 5;");
        fails(1, "debt 1 ^;");
        fails(1, "debt 1 ^x;");
        fails(1, "debt 1 2 ^3;");
        fails(1, "gift ^;");
        fails(1, "gift ^5 5;");
        fails(1, "person a;gift a ^;");
        fails(1, "person a;gift a ^a;");
        fails(1, "person a;gift a 1 ^1;");
        fails(1, "legacy ^;");
        fails(1, "legacy ^5 5;");
        fails(1, "person a;legacy a ^;");
        fails(1, "person a;legacy a ^a;");
        fails(1, "person a;legacy a 1 ^a;");
        fails(1, "share ^;");
        fails(1, "share ^x;");
        fails(1, "share 4 ^;");
        fails(1, "share 4 ^x;");
        fails(1, "share 4 1 ^1;");
        fails(1, "life ^;");
        fails(1, "life ^x;");
        fails(1, "life 5 ^5;");
        fails(1, "accrue ^;");
        fails(1, "accrue ^5;");
        fails(1, "accrue ^lines;");
        fails(1, "accrue ^other;");
        fails(1, "accrue line ^others;");
        fails(1, "life 5 ^life 5;");
    }

    private static void tooEarly() {
        fails(1, "person^");
        fails(1, "person ^");
        fails(1, "person a^");
        fails(1, "person a \n^");
        fails(1, "person a;person b under^");
        fails(1, "person a age^");
        fails(1, "person a age 5^");
        fails(1, "person a dead^");
        fails(1, "asset^");
        fails(1, "asset 5  ^");
        fails(1, "asset 5 charge^");
        fails(1, "debt^");
        fails(1, "debt 1^");
        fails(1, "debt 1 1^");
        fails(1, "gift^");
        fails(1, "legacy^");
        fails(1, "share^");
        fails(1, "share 1^");
        fails(1, "share 1 1^");
        fails(1, "life^");
        fails(1, "life 1^");
        fails(1, "accrue^");
        fails(1, "accrue line^");
        EstateSettlement x = new EstateSettlement();
        Kit.type(x, "life 1;");
        Kit.same("the length cuts the text", x.parse(6), 1);
        Kit.same("the position is the length", x.errorPosition(), 6);
        Kit.type(x, "life 100;");
        Kit.same("the length cuts a number", x.parse(7), 1);
        Kit.same("the position is the length", x.errorPosition(), 7);
    }

    private static void twice() {
        fails(2, "person a;person ^a;");
        fails(2, "person a;person b;person ^a under b;");
        fails(2, "person s spouse;person ^s;");
        fails(2, "person s spouse;person t ^spouse;");
        fails(2, "person s spouse;person t age 5 ^spouse;");
        fails(2, "share 4 1;^share 4 1;");
        fails(2, "share 4 1;life 5;^share 0 9;");
        fails(2, "life 5;^life 5;");
        fails(2, "life 5;^life 101;");
        fails(2, "accrue line;^accrue line;");
        fails(2, "accrue others;^accrue x;");
        fails(2, "life 5;^life");
    }

    private static void outOfRange() {
        fails(3, "person a age ^121;");
        fails(3, "person a age ^9999999;");
        fails(3, "asset 5 charge ^101;");
        fails(3, "debt ^0 5;");
        fails(3, "debt ^6 5;");
        fails(3, "share ^0 0;");
        fails(3, "share ^100 1;");
        fails(3, "share 4 ^5;");
        fails(3, "share 99 ^100;");
        fails(3, "life ^101;");
        fails(3, "life ^101");
    }

    private static void noPerson() {
        fails(4, "gift ^a 5;");
        fails(4, "gift ^a 5;person a;");
        fails(4, "legacy ^a 5;");
        fails(4, "person a under ^a;");
        fails(4, "person a under ^b;person b;");
        fails(4, "person a;person b under ^c;");
        fails(4, "person s spouse;person b under ^s;");
        fails(4, "person s spouse;person b under ^s spouse;");
        fails(4, "person ab;gift ^a 5;");
        fails(4, "person ab;gift ^abc 5;");
        fails(4, "gift ^dead 5;");
    }

    private static void tooMany() {
        fails(5, "person a;person b;person c;person d;person e;person f;person g;person h;person i;"
                + "person j;person k;person l;^person a;");
        fails(5, "asset 1;asset 1;asset 1;asset 1;asset 1;asset 1;asset 1;asset 1;^asset x;");
        fails(5, "debt 1 1;debt 1 1;debt 1 1;debt 1 1;debt 1 1;debt 1 1;debt 1 1;debt 1 1;^debt");
        fails(5, "person a;gift a 1;gift a 1;gift a 1;gift a 1;gift a 1;gift a 1;gift a 1;gift a 1;^gift b 1;");
        fails(5, "person a;legacy a 1;legacy a 1;legacy a 1;legacy a 1;legacy a 1;legacy a 1;"
                + "legacy a 1;legacy a 1;^legacy a 1;");
    }

    private static void firstError() {
        fails(1, "life 1 ^x;life 101;");
        fails(3, "life ^101;LIFE");
        fails(4, "gift ^a 12345678;");
        fails(2, "person a;person ^a under b;");
    }
}
