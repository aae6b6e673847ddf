/** The sentences of part 4 of the terms: the tape, texts, their faults and what they give. */
public final class Terms4SentencesTest {
    private static final String PART = "Terms 4";

    public static void main(String[] args) {
        Sentence.holds(PART, "TEXTS, 14 at most, numbered from 0", Terms4SentencesTest::fourteenTexts);
        Sentence.holds(PART, "THE TAPE (96 bytes at most", Terms4SentencesTest::tapeOf96Bytes);
        Sentence.holds(PART, "an act that reads it uses it up, whatever it answers)", Terms4SentencesTest::readIsUsedUp);
        grammar();
        names();
        words();
        faults();
        values();
        Sentence.holds(PART, "Of a KEY that TEXT counts that was told last.", Terms4SentencesTest::toldLastCounts);
        Sentence.end("Terms4SentencesTest");
    }

    private static void grammar() {
        Sentence.holds(PART, "KEY E. KEY: lean | move | toll.", Terms4SentencesTest::keys);
        Sentence.holds(PART, "E, the loosest first: OR: AND { | AND }", Terms4SentencesTest::orIsLoosest);
        Sentence.holds(PART, "AND: TEST { & TEST }", Terms4SentencesTest::andOfTests);
        Sentence.holds(PART, "TEST: SUM [ (< | = | >) SUM ]", Terms4SentencesTest::oneComparison);
        Sentence.holds(PART, "SUM: TERM { (+ | -) TERM }", Terms4SentencesTest::sums);
        Sentence.holds(PART, "TERM: PIECE { (* | /) PIECE }", Terms4SentencesTest::terms);
        Sentence.holds(PART, "PIECE: NUMBER (1 to 4 digits)", Terms4SentencesTest::numbers);
        Sentence.holds(PART, "NAME | ! PIECE | ( E )", Terms4SentencesTest::pieces);
    }

    private static void names() {
        Sentence.holds(PART, "NAMES, each one letter", Terms4SentencesTest::namesAreOneLetter);
        Sentence.holds(PART, "of lean h how much higher, p how far their PLACES are apart", Terms4SentencesTest::namesOfLean);
        Sentence.holds(PART, "of move s STRENGTH, l LENGTH, d THE DAY", Terms4SentencesTest::namesOfMove);
        Sentence.holds(PART, "of toll m MINUTES, n how many LADDERS (the fewest of all WAYS that take these MINUTES)",
            Terms4SentencesTest::namesOfToll);
    }

    private static void words() {
        Sentence.holds(PART, "A word is a row of letters a .. z, or of digits, as long as it goes",
            Terms4SentencesTest::wordsAsLongAsTheyGo);
        Sentence.holds(PART, "any other byte is a sign by itself", Terms4SentencesTest::otherBytesAreSigns);
        Sentence.holds(PART, "Between words and signs, and at the ends, there may be blanks (byte 32)",
            Terms4SentencesTest::blanks);
        Sentence.holds(PART, "a word right behind another one needs one", Terms4SentencesTest::wordBehindWord);
    }

    private static void faults() {
        Sentence.holds(PART, "FAULT: the first byte of the first word or sign with which no TEXT goes on",
            Terms4SentencesTest::faultOfFirstWord);
        Sentence.holds(PART, "(a word that needs a blank ahead of it", Terms4SentencesTest::faultOfMissingBlank);
        Sentence.holds(PART, "a NUMBER of more than 4 digits", Terms4SentencesTest::faultOfFifthDigit);
        Sentence.holds(PART, "the ninth ( that would be open within others", Terms4SentencesTest::faultOfNinthBracket);
        Sentence.holds(PART, "the ninth ! likewise", Terms4SentencesTest::faultOfNinthNot);
        Sentence.holds(PART, "each by itself)", Terms4SentencesTest::bracketsAndNotsByThemselves);
        Sentence.holds(PART, "the end (the place behind the last byte), if it comes too soon",
            Terms4SentencesTest::faultOfTheEnd);
    }

    private static void values() {
        Sentence.holds(PART, "Ints wrap", Terms4SentencesTest::intsWrap);
        Sentence.holds(PART, "/ is 0 by 0", Terms4SentencesTest::by0Is0);
        Sentence.holds(PART, "tests, & | ! give 1 or 0 (what is not 0 is true", Terms4SentencesTest::oneOr0);
        Sentence.holds(PART, "both sides are worked out)", Terms4SentencesTest::bothSides);
    }

    private static void fault(String text, int place) {
        LadderTown x = Due.town(0, 10);
        Due.is("\"" + text + "\"", Due.text(x, text), -100 - place);
        Due.is("no text of \"" + text + "\"", x.count(6), 0);
        Due.is("the tape of \"" + text + "\" is used up", x.count(8), 0);
    }

    private static void good(String text, int operands) {
        LadderTown x = new LadderTown();
        Due.is("\"" + text + "\"", Due.text(x, text), 0);
        Due.is("numbers and names of \"" + text + "\"", x.textTold(0, 1), operands);
    }

    private static void gives(String law, int due) {
        LadderTown x = Due.town(0);
        Due.is("\"toll " + law + "\"", Due.text(x, "toll " + law), 0);
        Due.is("what " + law + " gives", x.way(0, 0, 2), due);
    }

    private static void fourteenTexts() {
        LadderTown x = Due.town(0, 10);
        for (int i = 0; i < 14; i++) Due.is("text " + i, Due.text(x, "lean " + i), i);
        Due.is("the fifteenth", Due.text(x, "lean 99"), Due.FULL);
        Due.is("of another key, too", Due.text(x, "toll 99"), Due.FULL);
        Due.is("how many", x.count(6), 14);
        Due.is("the fourteenth counts", x.why(0), 13);
        Due.is("and gives", x.needs(0, 1), 13);
        Due.is("no text 14", x.textTold(14, 0), Due.BAD);
        LadderTown y = new LadderTown();
        for (int i = 0; i < 13; i++) Due.text(y, "toll m");
        fault("lean", 4);
        Due.is("a fault takes no number", Due.text(y, "toll"), -104);
        Due.is("the fourteenth", Due.text(y, "toll m"), 13);
    }

    private static void tapeOf96Bytes() {
        LadderTown x = new LadderTown();
        for (int i = 1; i <= 8; i++) Due.is("feed " + i, x.feed(i, i, i), 12 * i);
        Due.is("the ninth", x.feed(9, 9, 9), Due.FULL);
        Due.is("how many", x.count(8), 96);
        good("lean h" + "+p".repeat(45), 46);
        good("lean" + " ".repeat(91) + "h", 1);
        good("toll m" + " ".repeat(90), 1);
    }

    private static void readIsUsedUp() {
        LadderTown x = new LadderTown();
        Due.tape(x, "lean h");
        Due.is("a text", x.text(), 0);
        Due.is("used up", x.count(8), 0);
        Due.is("nothing is left", x.text(), -100);
        Due.tape(x, "lean h h h");
        Due.is("a fault", x.text(), -107);
        Due.is("used up, what is behind the fault, too", x.count(8), 0);
        for (int i = 1; i < 14; i++) Due.text(x, "lean p");
        Due.tape(x, "lean h");
        Due.is("full", x.text(), Due.FULL);
        Due.is("used up", x.count(8), 0);
        Due.is("from its first byte on", x.feed(0, 0, 0), 12);
        LadderTown y = Due.town(0);
        String[] cut = {"toll ((((((((1", "toll !!!!!!!!", "toll 1+2*3<(4-", "toll 1", "toll 9 9"};
        for (int i = 0; i < cut.length; i++) {
            Due.is(cut[i], Due.text(y, cut[i]) < 0 ? 1 : 0, i == 3 ? 0 : 1);
            Due.text(y, "toll ((((((((!!!!!!!!0))))))))+7*3");
            Due.is("nothing is left behind " + cut[i], y.way(0, 0, 2), 21);
        }
    }

    private static void keys() {
        String[] keys = {"lean", "move", "toll"};
        LadderTown x = new LadderTown();
        for (int i = 0; i < 3; i++) {
            Due.is(keys[i], Due.text(x, keys[i] + " 1"), i);
            Due.is("its key", x.textTold(i, 0), i);
            fault(keys[i], 4);
            fault(keys[i].substring(0, 3), 0);
            fault("b" + keys[i].substring(1) + " 1", 0);
            fault(keys[i] + "s 1", 0);
            fault(keys[i].toUpperCase() + " 1", 0);
            fault(keys[i] + " " + keys[i] + " 1", 5);
        }
        fault("1", 0);
        fault("h", 0);
        fault("help 1", 0);
        fault("(lean 1)", 0);
        fault("!lean 1", 0);
    }

    private static void orIsLoosest() {
        gives("1|0&0", 1);
        gives("0&0|1", 1);
        gives("0|0|0", 0);
        gives("0|0|3", 1);
        gives("1|1=0", 1);
        gives("0|1+1", 1);
        fault("toll 1||1", 7);
        fault("toll |1", 5);
        fault("toll 1|", 7);
    }

    private static void andOfTests() {
        gives("2&1=1", 1);
        gives("1=1&2", 1);
        gives("1&1&0", 0);
        gives("5&6&7", 1);
        gives("1+0&0+1", 1);
        fault("toll 1&&1", 7);
        fault("toll &1", 5);
        fault("toll 1&", 7);
    }

    private static void oneComparison() {
        gives("1+1=2", 1);
        gives("2=1+1", 1);
        gives("3>1+1", 1);
        gives("1<2*2", 1);
        gives("(1<2)=1", 1);
        gives("1=(2>1)", 1);
        gives("1<2&2<3|3<1", 1);
        String signs = "<=>";
        for (int i = 0; i < 9; i++) {
            fault("toll 1" + signs.charAt(i / 3) + "2" + signs.charAt(i % 3) + "3", 8);
            fault("toll 1" + signs.charAt(i / 3) + signs.charAt(i % 3) + "3", 7);
        }
        fault("toll (1<2+1=3)", 11);
        fault("toll 1<2&1<2<3", 12);
        for (int open = 1; open <= 8; open++) {
            gives("(".repeat(open) + "1<2" + ")<3".repeat(open), 1);
            fault("toll " + "(".repeat(open) + "1<2<3", 8 + open);
            fault("toll " + "(1<".repeat(open) + "2=3", 6 + 3 * open);
        }
        fault("toll =1", 5);
        fault("toll 1>", 7);
    }

    private static void sums() {
        gives("9-4-3", 2);
        gives("9-4+3", 8);
        gives("2-3", -1);
        gives("2+3*4-6/2", 11);
        fault("toll +1", 5);
        fault("toll -1", 5);
        fault("toll 1+-1", 7);
        fault("toll 1--1", 7);
    }

    private static void terms() {
        gives("100/7/2", 7);
        gives("7/2*2", 6);
        gives("7*3/2", 10);
        gives("7/3*3", 6);
        gives("2*!0*3", 6);
        gives("!2*3", 0);
        fault("toll *1", 5);
        fault("toll 2**3", 7);
        fault("toll 2/*3", 7);
    }

    private static void numbers() {
        int[] values = {0, 9, 10, 99, 100, 999, 1000, 9999};
        for (int v : values) gives(Integer.toString(v), v);
        gives("0000", 0);
        gives("0009", 9);
        gives("0123", 123);
        fault("toll 00000", 5);
        fault("toll 12345", 5);
    }

    private static void pieces() {
        gives("m", 0);
        gives("!m", 1);
        gives("!!m", 0);
        gives("(m)", 0);
        gives("!(1)", 0);
        gives("(!1)", 0);
        gives("((2)+(3))*2", 10);
        fault("toll ()", 6);
        fault("toll (1", 7);
        fault("toll 1)", 6);
        fault("toll (1))", 8);
        fault("toll !", 6);
        fault("toll !+1", 6);
        fault("toll 1!", 6);
        fault("toll 1!1", 6);
        fault("toll 1(2)", 6);
        fault("toll (1)2", 8);
        fault("toll (1)(2)", 8);
    }

    private static void namesAreOneLetter() {
        fault("lean hh", 5);
        fault("lean hp", 5);
        fault("lean h+hp", 7);
        fault("lean H", 5);
        String[] keys = {"lean", "move", "toll"};
        String[] names = {"hp", "sld", "mn"};
        for (int key = 0; key < 3; key++) {
            for (char name = 'a'; name <= 'z'; name++) {
                if (names[key].indexOf(name) >= 0) good(keys[key] + " " + name, 1);
                else fault(keys[key] + " " + name, 5);
            }
        }
    }

    private static void namesOfLean() {
        LadderTown x = new LadderTown();
        x.ledge(10, 29);
        x.ledge(99, 0);
        x.ledge(10, 20);
        Due.text(x, "lean h");
        Due.is("h", x.needs(0, 1), 89);
        Due.is("h, the higher first", x.needs(1, 0), 89);
        Due.is("h of as high ones", x.needs(0, 2), 0);
        Due.text(x, "lean p");
        Due.is("p", x.needs(0, 1), 29);
        Due.is("p, the other one first", x.needs(1, 0), 29);
        Due.is("p of as high ones", x.needs(2, 0), 9);
    }

    private static void namesOfMove() {
        LadderTown x = Due.town(0, 10);
        x.ladder(0, 31, 0, 1);
        x.person(0, 17);
        x.thieves(0);
        Due.text(x, "move s=17 & l=31 & d=0");
        Due.is("on day 0", x.may(0, 0), 1);
        x.nights(5);
        Due.is("on day 5", x.may(0, 0), 0);
        Due.text(x, "move s=17 & l=31 & d=5");
        Due.is("on day 5, by another text", x.may(0, 0), 1);
        x.set(0, 1, 18);
        Due.is("another strength", x.may(0, 0), 0);
        x.set(0, 1, 17);
        x.cut(0, 32);
        Due.is("another length", x.may(0, 0), 0);
    }

    private static void namesOfToll() {
        // Three ladders of 1 minute each, or one of 3 minutes: the fewest of those that take 3.
        LadderTown x = Due.town(0, 4, 8, 12);
        Due.text(x, "toll m*10+n");
        for (int i = 0; i < 3; i++) x.ladder(0, 99, i, i + 1);
        Due.is("three ladders", x.way(0, 3, 2), 33);
        x.ladder(0, 99, 0, 3);
        Due.is("one ladder that takes as long", x.way(0, 3, 2), 31);
        x.turns(3, 2);
        Due.is("one ladder that takes longer", x.way(3, 0, 2), 33);
        Due.is("none", x.way(2, 2, 2), 0);
    }

    private static void wordsAsLongAsTheyGo() {
        fault("leanh", 0);
        fault("leana 1", 0);
        fault("leanz 1", 0);
        fault("lean hz", 5);
        fault("lean ha", 5);
        fault("lean z1", 5);
        fault("leanlean 1", 0);
        fault("leant 1", 0);
        fault("lean hpp", 5);
        fault("toll m+mn", 7);
        fault("toll 1+12345678", 7);
        gives("1+234", 235);
    }

    private static void otherBytesAreSigns() {
        String signs = "\u0000\u0001\t\n\r\u001f\"#$%',.:;?@AZ[\\]^_`{}~\u007f\u0080\u00a0\u00e9\u00ff";
        for (int i = 0; i < signs.length(); i++) {
            fault("lean h" + signs.charAt(i), 6);
            fault("lean" + signs.charAt(i) + "h", 4);
            fault("lean " + signs.charAt(i), 5);
            fault(signs.charAt(i) + "lean h", 0);
        }
        gives("((1))", 1);
        gives("!!1", 1);
        fault("toll 1<=2", 7);
        fault("toll 1&&2", 7);
    }

    private static void blanks() {
        good("lean(h)", 1);
        good("lean!h", 1);
        good("   lean   (   h   +   p   )   *   3   ", 3);
        good("lean ! ! h", 1);
        good("lean h ", 1);
        good(" lean h", 1);
        gives(" 1 + 2 * ( 3 - 1 ) ", 5);
        fault("le an h", 0);
        fault("lean 1 2", 7);
        fault("lean h p", 7);
        fault("lean\th", 4);
        fault("lean h\n", 6);
    }

    private static void wordBehindWord() {
        good("lean 5", 1);
        good("lean h", 1);
        fault("lean5", 4);
        fault("lean5+h", 4);
        fault("lean h5", 6);
        fault("lean 5h", 6);
        fault("lean 5 h", 7);
    }

    private static void faultOfFirstWord() {
        fault("lean h+", 7);
        fault("lean h++p+", 7);
        fault("lean x+y", 5);
        fault("lean h+x)", 7);
        fault("lean (h+p))+(", 10);
        fault("lean h 12345 ((", 7);
        fault("  lean  h  $", 11);
        fault("lean hlean h", 5);
        fault("lean h lean h", 7);
        fault(" ".repeat(95) + "h", 95);
        fault("lean " + "h+".repeat(45) + "s", 95);
    }

    private static void faultOfMissingBlank() {
        fault("lean1", 4);
        fault("move1234", 4);
        fault("toll0", 4);
        fault("  lean9", 6);
        fault("lean12345", 4);
    }

    private static void faultOfFifthDigit() {
        good("lean 1234", 1);
        good("lean 0000+0000", 2);
        fault("lean 12345", 5);
        fault("lean h+00001", 7);
        fault("lean (99999)", 6);
        fault("lean !10000", 6);
        fault("lean " + "9".repeat(91), 5);
        good("lean 1234+1234", 2);
    }

    private static void faultOfNinthBracket() {
        good("lean " + "(".repeat(8) + "h" + ")".repeat(8), 1);
        fault("lean " + "(".repeat(9) + "h" + ")".repeat(9), 13);
        fault("lean " + "(".repeat(20), 13);
        fault("lean (((((((( (", 14);
        good("lean ((((((((h)+(p))))))))", 2);
        fault("lean ((((((((h+(p)))))))))", 15);
        good("lean (h)" + "+(h)".repeat(9), 10);
        good("lean ((((((((h)))))))) + ((((((((p))))))))", 2);
        fault("lean ((((((((h)))))))) + (((((((((p)))))))))", 33);
    }

    private static void faultOfNinthNot() {
        good("lean " + "!".repeat(8) + "h", 1);
        fault("lean " + "!".repeat(9) + "h", 13);
        fault("lean ! ! ! ! ! ! ! ! ! h", 21);
        good("lean !!!!!!!!h+!!!!!!!!p", 2);
        good("lean !!!!!!!(!h+!p)", 2);
        fault("lean !!!!!!!!(h+!p)", 16);
        fault("lean !!!!!!!!(!h)", 14);
        good("lean !!!!!!!!(h)+!p", 2);
        good("lean (!!!!!!!!h+!!!!!!!!p)", 2);
        // A bracket that is closed within others does not close the ! ahead of these.
        fault("lean !!!!!!!!((((((((h)+!p", 24);
        fault("lean !!!!!!!!((h)+!p)", 18);
        good("lean !!!!!!!!(((h)))*((p+!h))", 3);
    }

    private static void bracketsAndNotsByThemselves() {
        good("lean " + "!(".repeat(8) + "h" + ")".repeat(8), 1);
        good("lean " + "(".repeat(8) + "!".repeat(8) + "h" + ")".repeat(8), 1);
        good("lean " + "!".repeat(8) + "(".repeat(8) + "h" + ")".repeat(8), 1);
        fault("lean " + "!(".repeat(9), 21);
        fault("lean " + "(!".repeat(9), 21);
        fault("lean " + "(!".repeat(8) + "!", 21);
        fault("lean " + "!".repeat(8) + "(".repeat(9), 21);
        fault("lean " + "(".repeat(8) + "!".repeat(9), 21);
    }

    private static void faultOfTheEnd() {
        fault("", 0);
        fault(" ", 1);
        fault(" ".repeat(96), 96);
        fault("lean", 4);
        fault("lean  ", 6);
        fault("lean h+", 7);
        fault("lean h+  ", 9);
        fault("lean (h", 7);
        fault("lean (h ", 8);
        fault("lean !", 6);
        fault("lean " + "(".repeat(8), 13);
        fault(" ".repeat(92) + "toll", 96);
        fault("lean h" + "+p".repeat(44) + "+ ", 96);
        LadderTown x = new LadderTown();
        x.feed(0x6c65616e, 0x20682b70, 0x2b702b70);
        x.trim(9);
        Due.is("behind the last byte that the tape kept", x.text(), -109);
    }

    private static void intsWrap() {
        gives("9999*9999*9999", 9999 * 9999 * 9999);
        gives("2048*1024*1024", Due.MIN);
        gives("2048*1024*1024-1", Due.MAX);
        gives("2048*1024*1024-1+1", Due.MIN);
        gives("0-2048*1024*1024", Due.MIN);
        gives("2048*1024*1024*2", 0);
        gives("2048*1024*1024<0", 1);
        gives("2048*1024*1024/(0-1)", Due.MIN);
    }

    private static void by0Is0() {
        gives("5/0", 0);
        gives("0/0", 0);
        gives("(0-5)/0", 0);
        gives("2048*1024*1024/0", 0);
        gives("7+5/0", 7);
        gives("5/(3-3)+1", 1);
        gives("5/m*9", 0);
        gives("6/0/0", 0);
        gives("0/5", 0);
    }

    private static void oneOr0() {
        int[] values = {0, 1, 2, 9999};
        for (int a : values) {
            gives("!" + a, a == 0 ? 1 : 0);
            gives("!(0-" + a + ")", a == 0 ? 1 : 0);
            for (int b : values) {
                gives(a + "&" + b, a != 0 && b != 0 ? 1 : 0);
                gives(a + "|" + b, a != 0 || b != 0 ? 1 : 0);
                gives(a + "<" + b, a < b ? 1 : 0);
                gives(a + "=" + b, a == b ? 1 : 0);
                gives(a + ">" + b, a > b ? 1 : 0);
            }
        }
        gives("(0-1)&(0-2)", 1);
        gives("(0-1)|0", 1);
        gives("0-1<0", 1);
        gives("0-2=0-2", 1);
    }

    private static void bothSides() {
        gives("0&1/0", 0);
        gives("1|1/0", 1);
        gives("1/0|1", 1);
        gives("0&9999*9999*9999", 0);
        gives("(1|0)+(0&1)*5", 1);
        gives("(0&1)+7", 7);
        gives("(1|1)+7", 8);
    }

    private static void toldLastCounts() {
        LadderTown x = Due.town(0, 10);
        x.ladder(0, 50, 0, 1);
        x.person(0, 0);
        Due.text(x, "lean 1");
        Due.text(x, "move 1");
        Due.text(x, "toll 1");
        Due.text(x, "lean 2");
        Due.is("lean", x.needs(0, 1), 2);
        Due.is("lean, the last one", x.why(0), 3);
        Due.is("move", x.may(0, 0), 1);
        Due.is("toll", x.way(0, 0, 2), 1);
        Due.text(x, "move 0");
        Due.text(x, "toll 7");
        Due.is("move", x.may(0, 0), 0);
        Due.is("toll", x.way(0, 0, 2), 7);
        Due.is("lean as before", x.needs(0, 1), 2);
        Due.text(x, "lean 3 3");
        Due.is("a fault does not count", x.needs(0, 1), 2);
        x.keep();
        Due.text(x, "lean 4");
        x.back();
        Due.is("one that the image has not does not count", x.needs(0, 1), 2);
        for (int i = 6; i < 14; i++) Due.text(x, "lean 9");
        Due.is("full", Due.text(x, "lean 10"), Due.FULL);
        Due.is("one for which there is no room does not count", x.needs(0, 1), 9);
    }
}
