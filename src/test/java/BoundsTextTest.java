/** The sentences of "Terms" that bound a text, each on its bound and on the nearest input beyond it. */
public final class BoundsTextTest {
    private static final String[] PARTS = {"F1=2>3;", "B1=2,3>4;", "R1=2>3;", "G1=2>3,4;", "S1=2;"};

    private final Due due = new Due();

    public static void main(String[] args) {
        BoundsTextTest test = new BoundsTextTest();
        test.atMostThreeHundredCharacters();
        test.theCharacterWithoutRoomIsNotThere();
        test.faultsInAFullText();
        test.allTheRoomAgainBehindRead();
        test.oneOrMoreParts();
        test.eachWithASemicolon();
        test.atMostTwentyFourParts();
        test.theTwentyFifthPartsLetter();
        test.nothingElseInAText();
        test.theTextsEnd();
        test.due.end();
    }

    /** "A TEXT has at most 300 characters": 299, 300, 301. */
    private void atMostThreeHundredCharacters() {
        MachineText x = new MachineText();
        String text = Due.fullText();
        due.that("299 characters", Due.signAll(x, text.substring(0, 299)), true);
        due.that("the 300th", x.sign(text.charAt(299)), true);
        due.that("the 301st", x.sign('S'), false);
        due.that("read() of 300", x.read(), 15);
        String oneLess = text.replace("S29", "S9");
        due.that("length", oneLess.length(), 299);
        due.reads(oneLess, 15);
    }

    private void theCharacterWithoutRoomIsNotThere() {
        MachineText x = new MachineText();
        // It lacks its last ; alone, but there is no room for that.
        String text = Due.fullText().substring(0, 294) + "S29=12";
        due.that("300 characters", Due.signAll(x, text), true);
        due.that("the last ;", x.sign(';'), false);
        due.that("read()", x.read(), -1 - 300);
        due.that("check()", x.check(), MachineText.NONE);
        due.that("read() again", x.read(), -1);
    }

    /** The last places that a fault may have: 298, 299, and the end of 300 characters. */
    private void faultsInAFullText() {
        String parts = Due.fullText().substring(0, 294);
        due.faultAt(300, parts + "S29=12");
        due.faultAt(299, parts + "S29=1?");
        due.faultAt(299, parts + "S9=1;?");
        due.faultAt(299, parts + "S9=1;;");
        due.faultAt(300, parts + "S9=1;S");
        due.faultAt(298, parts + "S29=?;");
        due.faultAt(298, parts + "S29=0;");
        due.faultAt(298, parts + "S29==;");
        due.faultAt(299, parts + "S029=0");
        due.faultAt(300, parts + "S0029=");
        due.faultAt(293, parts.substring(0, 293) + "?S29=1");
    }

    /** "(and empty then)": behind a fault and behind a good text there is room for 300, not for 301. */
    private void allTheRoomAgainBehindRead() {
        for (String before : new String[] {"S0=1;", "S0=1;S0=1;", ""}) {
            MachineText x = new MachineText();
            Due.read(x, before);
            due.that("300 behind " + before, Due.signAll(x, Due.fullText()), true);
            due.that("the 301st behind " + before, x.sign('S'), false);
            due.that("read() behind " + before, x.read(), 15);
            due.that("a character behind it", x.sign('S'), true);
            due.that("read() of it", x.read(), -2);
        }
    }

    /** "is one or more PARTS": none, one, two. */
    private void oneOrMoreParts() {
        due.reads("", -1);
        due.reads("S0=1;", 1);
        due.reads("S0=1;S1=1;", 2);
        for (String part : PARTS) {
            due.reads(part, 1);
            due.reads(part + "S0=1;", 2);
            due.reads("S0=1;" + part, 2);
        }
    }

    /** "each with a ; behind it": none, one, two; of the first part and of the last one. */
    private void eachWithASemicolon() {
        due.faultAt(0, ";");
        due.faultAt(0, ";S0=1;");
        for (String part : PARTS) {
            int end = part.length();
            String bare = part.substring(0, end - 1);
            due.faultAt(end - 1, bare);
            due.faultAt(end - 1, bare + "S0=1;");
            due.faultAt(end - 1, bare + ",");
            due.faultAt(end, part + ";");
            due.faultAt(end, part + ";S0=1;");
            due.faultAt(5 + end - 1, "S0=1;" + bare);
            due.faultAt(5 + end, "S0=1;" + part + ";");
        }
    }

    /** "at most 24 parts": 23, 24, 25, of each kind. */
    private void atMostTwentyFourParts() {
        for (int kind = 0; kind < 5; kind++) {
            due.reads(Due.parts(kind, 23), 23);
            due.reads(Due.parts(kind, 24), 24);
            due.faultAt(Due.parts(kind, 24).length(), Due.parts(kind, 25));
            due.faultAt(Due.parts(kind, 24).length(), Due.parts(kind, 26));
        }
    }

    /** "the first character that can't be there (the 25th part's letter, too)": whatever follows it. */
    private void theTwentyFifthPartsLetter() {
        String full = Due.parts(4, 24);
        int end = full.length();
        for (int kind = 0; kind < 5; kind++) {
            due.faultAt(end, full + Due.part(kind, "24"));
            due.faultAt(end, full + Due.part(kind, "0"));
            due.faultAt(end, full + Due.part(kind, "30"));
            due.faultAt(end, full + "FBRGS".charAt(kind));
        }
        // The 24th part is still a part like any other.
        String most = Due.parts(4, 23);
        due.faultAt(most.length(), most + "?");
        due.faultAt(most.length() + 1, most + "S");
        due.faultAt(most.length() + 1, most + "S22=1;");
        due.faultAt(most.length() + 1, most + "S30=1;");
        MachineText x = Due.machine("S7=8;");
        due.that("25 parts", Due.read(x, Due.parts(4, 25)), -1 - end);
        due.that("the machine stays", Due.printed(x), "S7=8;");
    }

    /** "Nothing else stands in a text": no other character before, between and behind. */
    private void nothingElseInAText() {
        for (String part : PARTS) {
            for (int place = 0; place <= part.length(); place++) {
                for (char c = 32; c <= 126; c++) {
                    if (!mayStand(c, part, place)) {
                        due.faultAt(place, part.substring(0, place) + c + part.substring(place));
                    }
                }
            }
        }
    }

    private static boolean mayStand(char c, String part, int place) {
        if (place == 0 || place == part.length()) {
            return "FBRGS".indexOf(c) >= 0;
        }
        return c == part.charAt(place) || c >= '0' && c <= '9';
    }

    /** "or the text's end": of a text that ends before its last ;. */
    private void theTextsEnd() {
        for (String part : new String[] {"F1=2>3;", "F12=3456>19;", "B1=2,3>4;", "B11=2222,3333>14;",
            "R1=2>3;", "R0001=0002>0003;", "G1=2>3,4;", "G0001=0002>0003,0004;", "S1=2;", "S0011=999;"}) {
            for (int end = 1; end < part.length(); end++) {
                due.faultAt(end, part.substring(0, end));
                due.faultAt(6 + end, "S28=1;" + part.substring(0, end));
            }
        }
        due.faultAt(0, "");
    }
}
