import java.math.BigInteger;

/**
 * The document read sentence by sentence: each one that names a least, a greatest, an empty, a full or a wrapping case
 * has a test of its own here, on both sides of its edge. (The calls that are refused stand in RefusalsTest.)
 */
public final class EdgesTest {
    private static final int MAX = Integer.MAX_VALUE;
    private static final int MIN = Integer.MIN_VALUE;
    private static final String KINDS = "doysbt";
    /** A town as full as it can be; it is told in 64 letters. */
    private static final String FULL = "l00;l90;l99;l09;l50;l59;dd00;dd10;dd20;dd30;dd40;dd50;do09;ds59;";
    private static final Due due = new Due();

    public static void main(String[] args) {
        terms();
        theTownsText();
        theTownsFaults();
        kinds();
        theDusk();
        purses();
        payments();
        nearness();
        looksAhead();
        rows();
        seeds();
        images();
        due.end();
    }

    private static CoinsAreDoves townOf(String... texts) {
        return Due.townOf(texts);
    }

    private static void dusks(CoinsAreDoves x, int many) {
        for (int i = 0; i < many; i++) {
            x.dusk();
        }
    }

    private static void tellRow(CoinsAreDoves x, int... lofts) {
        for (int loft : lofts) {
            x.row(loft);
        }
    }

    // ---- Terms: LOFTS, DOVES, OPEN, HAWK, DUSK

    private static void terms() {
        noLoftsAtFirst();
        sixLoftsAtMost();
        pointsFromZeroToNine();
        eightDovesAtMost();
        agesFromZeroToNine();
        atFirst();
    }

    private static void noLoftsAtFirst() {
        due.about("No LOFTS");
        CoinsAreDoves x = new CoinsAreDoves();
        due.is(0, x.count(0), "count(0)");
        due.is(0, x.count(1), "count(1)");
        due.is(0, x.count(6), "count(6)");
        due.is(0, x.count(7), "count(7)");
        due.is(0, x.count(8), "count(8)");
        due.is(-1, x.way(0, 0), "way(0, 0)");
        due.is(0, x.near(18, 0), "near(18, 0)");
        due.is(0, x.dusk(), "dusk()");
    }

    private static void sixLoftsAtMost() {
        due.about("LOFTS 0 .. 5 (6 at most)");
        CoinsAreDoves x = new CoinsAreDoves();
        due.is(6, Due.tell(x, "l01;l02;l03;l04;l05;l06;"), "six at once");
        due.is(6, x.loft(5, 1), "loft(5, 1)");
        due.is(-1, x.loft(6, 1), "loft(6, 1)");
        due.is(-2000, Due.tell(x, "l07;"), "a seventh");
        due.is(6, x.count(0), "count(0)");
        due.is(-2024, Due.tell(new CoinsAreDoves(), "l01;l02;l03;l04;l05;l06;l07;"), "seven at once");
        x = townOf("l01;l02;l03;l04;l05;");
        due.is(-2004, Due.tell(x, "l06;l07;"), "a sixth and a seventh");
        due.is(5, x.count(0), "count(0)");
        due.is(1, Due.tell(x, "l06;"), "a sixth");
        due.is(6, x.count(0), "count(0)");
    }

    private static void pointsFromZeroToNine() {
        due.about("a point x, y (0 .. 9)");
        for (int v = 0; v <= 9; v++) {
            CoinsAreDoves x = townOf("l" + v + (9 - v) + ";");
            due.is(v, x.loft(0, 0), "x " + v);
            due.is(9 - v, x.loft(0, 1), "y " + (9 - v));
        }
        due.is(-1001, Due.tell(new CoinsAreDoves(), "l/0;"), "the sign below 0");
        due.is(-1002, Due.tell(new CoinsAreDoves(), "l0:;"), "the sign above 9");
        due.is(-1003, Due.tell(new CoinsAreDoves(), "l100;"), "a number of two digits");
        due.is(-1001, Due.tell(new CoinsAreDoves(), "l-10;"), "a number below 0");
    }

    private static void eightDovesAtMost() {
        due.about("DOVES 0 .. 7 (8 at most)");
        CoinsAreDoves x = townOf("l00;");
        due.is(8, Due.tell(x, "dd00;dd01;dd02;dd03;dd04;dd05;dd06;dd07;"), "eight at once");
        due.is(7, x.dove(7, 2), "dove(7, 2)");
        due.is(-1, x.dove(8, 2), "dove(8, 2)");
        due.is(-2000, Due.tell(x, "dd00;"), "a ninth");
        due.is(8, x.count(1), "count(1)");
        due.is(-2040, Due.tell(townOf("l00;"), "dd00;dd01;dd02;dd03;dd04;dd05;dd06;dd07;dd08;"), "nine at once");
        x = townOf("l00;", "dd00;dd00;dd00;dd00;dd00;dd00;dd00;");
        due.is(-2005, Due.tell(x, "dd00;dd00;"), "an eighth and a ninth");
        due.is(7, x.count(1), "count(1)");
    }

    private static void agesFromZeroToNine() {
        due.about("AGE (0 .. 9)");
        for (int age = 0; age <= 9; age++) {
            due.is(age, townOf("l00;dd0" + age + ";").dove(0, 2), "age " + age);
        }
        due.is(-1004, Due.tell(townOf("l00;"), "dd010;"), "age 10");
        due.is(-1003, Due.tell(townOf("l00;"), "dd0/;"), "the sign below 0");
        due.is(-1003, Due.tell(townOf("l00;"), "dd0:;"), "the sign above 9");
    }

    private static void atFirst() {
        due.about("at first");
        CoinsAreDoves x = new CoinsAreDoves();
        due.is(20, x.count(4), "HAWK: 20 at first");
        due.is(0, x.count(2), "DUSK: 0 at first");
        due.is(0, x.count(5), "OPEN: none at first");
        for (int home = 0; home <= 5; home++) {
            x = townOf("l00;l10;l20;l30;l40;l50;ds" + home + "3;");
            due.is(home, x.dove(0, 3), "where it is: at first HOME " + home);
            due.is(0, x.dove(0, 4), "CLIPPED: 0 at first");
            due.is(0, x.count(5), "OPEN: none at first, with lofts");
        }
    }

    // ---- A TOWN

    private static void theTownsText() {
        lettersFromZeroTo255();
        sixtyFourLettersAtMost();
        atLeastOneStatement();
        aHawkOfOneOrTwoDigits();
        hawksFromZeroToTwenty();
        openToldAgain();
        lettersAreNoMore();
    }

    private static void lettersFromZeroTo255() {
        due.about("A letter (0 .. 255)");
        CoinsAreDoves x = new CoinsAreDoves();
        due.is(-4, x.letter(-1), "letter(-1)");
        due.is(1, x.letter(0), "letter(0)");
        due.is(2, x.letter(255), "letter(255)");
        due.is(-6, x.letter(256), "letter(256)");
        due.is(-6, x.letter(MAX), "letter(MAX)");
        due.is(-4, x.letter(MIN), "letter(MIN)");
        due.is(-1000, x.town(), "town() of letter 0");
        // Signs that are a fitting one's number and 256 or 65536 are not that sign.
        due.is(-6, x.letter('l' + 256), "letter('l' + 256)");
        due.is(-6, x.letter('l' + 65536), "letter('l' + 65536)");
        for (int c = 0; c <= 255; c++) {
            x = new CoinsAreDoves();
            x.letter(c);
            due.is(c == 'l' || c == 'd' || c == 'o' || c == 'h' ? -1001 : -1000, x.town(), "town() of letter " + c);
        }
        for (int c = 0; c <= 255; c++) {
            x = townOf("l00;");
            x.letter('d');
            x.letter(c);
            due.is(KINDS.indexOf(c) >= 0 ? -1002 : -1001, x.town(), "town() of d and letter " + c);
        }
    }

    private static void sixtyFourLettersAtMost() {
        due.about("64 letters at most");
        CoinsAreDoves x = new CoinsAreDoves();
        for (int i = 1; i <= 64; i++) {
            due.is(i, x.letter(FULL.charAt(i - 1)), "letter no. " + i);
        }
        due.is(-6, x.letter('h'), "letter no. 65");
        due.is(64, x.count(8), "count(8)");
        due.is(14, x.town(), "town() of 64 letters");
        due.is(6, x.count(0), "lofts");
        due.is(8, x.count(1), "doves");
        due.is(9, x.dove(7, 2), "the last letters came");
        due.is(0, x.count(8), "count(8) behind it");
        due.is(1, x.letter('h'), "there is room again");
        x = townOf("l00;");
        due.is(-1064, Due.tell(x, "o0;".repeat(20) + "dd00"), "a 64th letter, the end lacking");
        due.is(-1063, Due.tell(x, "o0;".repeat(20) + "h12x"), "a 64th letter that does not fit");
        due.is(-2060, Due.tell(x, "o0;".repeat(20) + "h21;"), "a last statement that can not be");
        due.is(-1063, Due.tell(x, "o0;".repeat(21) + "?"), "a 64th letter that begins nothing");
        due.is(-1064, Due.tell(x, "o0;".repeat(21) + "h"), "a 64th letter that begins a statement");
        due.is(21, Due.tell(x, "o0;".repeat(21)), "63 letters");
    }

    private static void atLeastOneStatement() {
        due.about("At least one STATEMENT");
        CoinsAreDoves x = new CoinsAreDoves();
        due.is(-1000, x.town(), "town() of no letters");
        due.is(-1000, x.town(), "and again");
        due.is(-1000, Due.tell(x, ";"), "town() of ;");
        due.is(1, Due.tell(x, "h0;"), "town() of one statement");
        due.is(-1000, x.town(), "town() of no letters behind a town");
        due.is(0, x.count(4), "it changed nothing");
        due.is(0, x.count(14) + x.count(16), "nothing is counted");
    }

    private static void aHawkOfOneOrTwoDigits() {
        due.about("\"h\" HAWK (1 or 2 digits), Numbers may begin with 0");
        CoinsAreDoves x = new CoinsAreDoves();
        due.is(-1001, Due.tell(x, "h;"), "h;");
        due.is(-1001, Due.tell(x, "h"), "h");
        due.is(1, Due.tell(x, "h9;"), "h9;");
        due.is(9, x.count(4), "h9;");
        due.is(1, Due.tell(x, "h07;"), "h07;");
        due.is(7, x.count(4), "h07;");
        due.is(1, Due.tell(x, "h00;"), "h00;");
        due.is(0, x.count(4), "h00;");
        due.is(1, Due.tell(x, "h10;"), "h10;");
        due.is(10, x.count(4), "h10;");
        due.is(-1003, Due.tell(x, "h000;"), "h000;");
        due.is(-1003, Due.tell(x, "h010;"), "h010;");
        due.is(-1002, Due.tell(x, "h1"), "h1");
        due.is(-1003, Due.tell(x, "h10"), "h10");
        due.is(-1002, Due.tell(x, "h1/;"), "the sign below 0");
        due.is(-1002, Due.tell(x, "h1:;"), "the sign above 9");
        due.is(10, x.count(4), "none of these changed it");
    }

    private static void hawksFromZeroToTwenty() {
        due.about("HAWK (0 .. 20)");
        for (int v = 0; v <= 99; v++) {
            CoinsAreDoves x = new CoinsAreDoves();
            due.is(v <= 20 ? 1 : -2000, Due.tell(x, "h" + v + ";"), "town() of h" + v + ";");
            due.is(v <= 20 ? v : 20, x.count(4), "count(4) behind h" + v + ";");
        }
        CoinsAreDoves x = new CoinsAreDoves();
        for (int v = -2; v <= 22; v++) {
            int was = x.count(4);
            int answer = v < 0 ? -4 : v > 20 ? -6 : was;
            due.is(answer, x.hawk(v), "hawk(" + v + ")");
            due.is(answer < 0 ? was : v, x.count(4), "count(4) behind hawk(" + v + ")");
        }
    }

    private static void openToldAgain() {
        due.about("\"o\" a LOFT: OPEN (told again: not)");
        CoinsAreDoves x = townOf(FULL);
        for (int loft = 0; loft <= 5; loft++) {
            due.is(1, Due.tell(x, "o" + loft + ";"), "o" + loft + ";");
            due.is((2 << loft) - 1, x.count(5), "count(5) behind o" + loft + ";");
        }
        for (int loft = 0; loft <= 5; loft++) {
            due.is(1, Due.tell(x, "o" + loft + ";"), "o" + loft + "; again");
            due.is(64 - (2 << loft), x.count(5), "count(5) behind o" + loft + "; again");
        }
        due.is(4, Due.tell(x, "o3;o3;o3;o4;"), "three times in one text");
        due.is(24, x.count(5), "count(5)");
        for (int loft = 6; loft <= 9; loft++) {
            due.is(-2000, Due.tell(x, "o" + loft + ";"), "o" + loft + ";");
        }
        due.is(24, x.count(5), "count(5) behind lofts that are not there");
    }

    private static void lettersAreNoMore() {
        due.about("The letters are no more (with a FAULT neither)");
        for (String text : new String[] {"h1;", "h1;?", "h21;", "?", "l"}) {
            CoinsAreDoves x = new CoinsAreDoves();
            Due.tell(x, text);
            due.is(0, x.count(8), "count(8) behind " + text);
            due.is(1, Due.tell(x, "h5;"), "a town behind " + text);
            due.is(5, x.count(4), "a town behind " + text);
        }
    }

    private static void theTownsFaults() {
        theEndIfSomethingLacks();
        theFirstLetterThatMisfits();
        noSuchLoftAheadOfIt();
        oneStatementAfterTheOther();
        formAheadOfSense();
        withAFaultNothingComes();
    }

    /** Every text that is the beginning of a town lacks something, unless it ends behind a ";". */
    private static void theEndIfSomethingLacks() {
        due.about("the end, if something lacks");
        String text = "l00;dd00;o0;h1;h20;dt05;";
        for (int length = 0; length <= text.length(); length++) {
            String told = text.substring(0, length);
            boolean whole = told.endsWith(";");
            int statements = told.split(";").length;
            due.is(whole ? statements : -1000 - length, Due.tell(new CoinsAreDoves(), told), "town() of " + told);
        }
    }

    /** A sign that is nowhere in a town is the first that does not fit, wherever it stands. */
    private static void theFirstLetterThatMisfits() {
        due.about("the first letter with which no TOWN can go on");
        String text = "l00;dd00;o0;h1;h20;dt05;";
        for (int place = 0; place <= text.length(); place++) {
            for (char c : new char[] {0, 'x', '/', ':', 'D', ' ', 255}) {
                String told = text.substring(0, place) + c + text.substring(place);
                due.is(-1000 - place, Due.tell(new CoinsAreDoves(), told), "town() with sign " + (int) c + " at " + place);
            }
        }
        due.is(-1000, Due.tell(new CoinsAreDoves(), "0"), "a digit begins nothing");
        due.is(-1000, Due.tell(new CoinsAreDoves(), "s00;"), "a kind's letter begins nothing");
        due.is(-1001, Due.tell(townOf("l00;"), "dh00;"), "h is no kind");
        due.is(-1001, Due.tell(townOf("l00;"), "dl00;"), "l is no kind");
        due.is(-1004, Due.tell(new CoinsAreDoves(), "l00;;"), "an empty statement");
    }

    private static void noSuchLoftAheadOfIt() {
        due.about("no such LOFT ahead of it");
        due.is(-2000, Due.tell(new CoinsAreDoves(), "dd00;l00;"), "a dove ahead of its loft");
        due.is(-2000, Due.tell(new CoinsAreDoves(), "o0;l00;"), "open ahead of its loft");
        due.is(2, Due.tell(new CoinsAreDoves(), "l00;dd00;"), "a dove behind its loft");
        due.is(2, Due.tell(new CoinsAreDoves(), "l00;o0;"), "open behind its loft");
        due.is(-2004, Due.tell(new CoinsAreDoves(), "l00;dd10;l11;"), "a dove between two lofts");
        due.is(-2004, Due.tell(new CoinsAreDoves(), "l00;o1;l11;"), "open between two lofts");
        CoinsAreDoves x = townOf("l00;");
        due.is(1, Due.tell(x, "dd00;"), "a loft of an earlier town");
        due.is(1, Due.tell(x, "o0;"), "a loft of an earlier town");
        due.is(-2000, Due.tell(x, "dd10;"), "the next loft");
        due.is(-2000, Due.tell(x, "dd90;"), "loft 9");
        x = townOf("l00;l00;l00;l00;l00;l00;");
        due.is(2, Due.tell(x, "dd50;o5;"), "the sixth loft");
        due.is(-2000, Due.tell(x, "dd60;"), "a seventh loft");
        due.is(-2000, Due.tell(x, "o6;"), "a seventh loft");
    }

    private static void oneStatementAfterTheOther() {
        due.about("the first STATEMENT that, behind all ahead of it, is not as it must be");
        due.is(-2000, Due.tell(new CoinsAreDoves(), "h21;h22;"), "two faults");
        due.is(-2003, Due.tell(new CoinsAreDoves(), "h1;o0;h99;"), "two faults behind a statement");
        due.is(-2004, Due.tell(new CoinsAreDoves(), "h20;h21;"), "a number of two digits ahead");
        due.is(-2016, Due.tell(townOf("l00;l00;"), "l00;l00;l00;l00;l00;dd90;"), "no room, then no loft");
        due.is(-2009, Due.tell(new CoinsAreDoves(), "l00;dd00;dd10;l10;"), "the place is its first letter's");
        CoinsAreDoves x = townOf("l00;", "dd00;dd00;dd00;dd00;dd00;dd00;dd00;dd00;");
        due.is(-2004, Due.tell(x, "l10;dd10;"), "no room, though there is such a loft");
    }

    private static void formAheadOfSense() {
        due.about("FAULT: kind 1 .. else kind 2");
        due.is(-1004, Due.tell(new CoinsAreDoves(), "h21;"  + "?"), "sense ahead of form");
        due.is(-1006, Due.tell(new CoinsAreDoves(), "h21;h1"), "sense, then something lacks");
        due.is(-1003, Due.tell(new CoinsAreDoves(), "o0;?" + "h21;"), "sense on both sides of form");
        due.is(-1030, Due.tell(new CoinsAreDoves(), "l00;".repeat(7) + "dd"), "no room, then something lacks");
        due.is(-2000, Due.tell(new CoinsAreDoves(), "h21;h1;"), "sense alone");
    }

    private static void withAFaultNothingComes() {
        due.about("Without FAULT all of it comes, with one nothing");
        for (String fault : new String[] {"?", "l", "h21;", "o9;", "dd90;"}) {
            CoinsAreDoves x = townOf("l12;h7;");
            int answer = Due.tell(x, "l34;dd12;o0;o1;h3;" + fault);
            due.is((fault.endsWith(";") ? -2018 : -1018) - (fault.equals("l") ? 1 : 0), answer, "the fault " + fault);
            due.is(1, x.count(0), "lofts");
            due.is(0, x.count(1), "doves");
            due.is(7, x.count(4), "hawk");
            due.is(0, x.count(5), "open");
            due.is(-1, x.loft(1, 0), "loft(1, 0)");
            for (int what = 11; what <= 16; what++) {
                due.is(what == 11 ? 1 : 0, x.count(what), "nothing is counted: count(" + what + ")");
            }
            due.is(5, Due.tell(x, "l34;dd12;o0;o1;h3;"), "without the fault");
            due.is(2, x.count(0), "lofts");
            due.is(1, x.dove(0, 1), "home");
            due.is(3, x.count(5), "open");
            due.is(3, x.count(4), "hawk");
        }
    }

    // ---- KINDS

    private static void kinds() {
        oldOnes();
        youngOnes();
        strays();
        tameOnes();
        lostOnesFlyNowhere();
    }

    /** Where one of a kind and an age, that is at home in loft 0, flies from a loft so far away. */
    private static int flight(char kind, int age, int way) {
        CoinsAreDoves x = townOf("l00;l" + Math.min(way, 9) + Math.max(way - 9, 0) + ";d" + kind + "0" + age + ";");
        x.carry(0, 1);
        return x.dove(0, 6);
    }

    private static void oldOnes() {
        due.about("o OLD: AGE 5 or more: nowhere; less AGE, 1 at least");
        for (int age = 0; age <= 9; age++) {
            due.is(age < 5 ? 0 : 9, flight('o', age, 7), "where it flies of age " + age);
            CoinsAreDoves x = townOf("l00;do0" + age + ";");
            due.is(age < 5 ? 0 : 9, x.dove(0, 6), "where it flies from home, of age " + age);
            due.is(Math.max(5 - age, 1), x.dove(0, 5), "VALUE of age " + age);
        }
    }

    private static void youngOnes() {
        due.about("y YOUNG: the WAY no more than twice AGE");
        for (int age = 0; age <= 9; age++) {
            for (int way = 0; way <= 18; way++) {
                due.is(way <= 2 * age ? 0 : 9, flight('y', age, way), "where it flies of age " + age + ", way " + way);
            }
        }
    }

    private static void strays() {
        due.about("s STRAY: the nearest other LOFT (of several the least number); there is none: nowhere");
        CoinsAreDoves x = townOf("l55;ds00;");
        due.is(9, x.dove(0, 6), "one loft");
        due.is(0, x.go(0), "let go it stays");
        x.open(0, 1);
        due.is(0, x.dusk(), "at dusk, too");
        due.is(0, x.dove(0, 3), "at dusk, too");
        due.is(2, x.purse(0, 40), "in mind, too");
        due.is(1, Due.tell(x, "l99;"), "another loft");
        due.is(1, x.dove(0, 6), "two lofts");
        due.is(0, townOf("l00;l99;ds10;").dove(0, 6), "the farthest there can be");
        x = townOf("l55;l54;l56;l45;l65;l55;ds00;");
        due.is(5, x.dove(0, 6), "a way of 0 to the last");
        x = townOf("l55;l53;l54;l56;l45;l65;ds00;");
        due.is(2, x.dove(0, 6), "of several the least number");
        x.carry(0, 5);
        due.is(0, x.dove(0, 6), "from the last");
    }

    private static void tameOnes() {
        due.about("t TAME: as a YOUNG, but nowhere from a LOFT of less WAY to HOME than 3");
        for (int age = 0; age <= 9; age++) {
            for (int way = 0; way <= 18; way++) {
                due.is(way >= 3 && way <= 2 * age ? 0 : 9, flight('t', age, way), "of age " + age + ", way " + way);
            }
        }
    }

    private static void lostOnesFlyNowhere() {
        due.about("where it FLIES from there (9 nowhere, lost)");
        for (int i = 0; i < KINDS.length(); i++) {
            CoinsAreDoves x = townOf("l00;l90;d" + KINDS.charAt(i) + "03;o0;o1;h0;");
            x.carry(0, 1);
            int aim = x.dove(0, 6);
            due.is("yt".indexOf(KINDS.charAt(i)) < 0 ? 0 : 9, aim, "ahead of a hawk, of kind " + KINDS.charAt(i));
            due.is(aim == 9 ? 0 : 1, x.dusk(), "dusk() of kind " + KINDS.charAt(i));
            due.is(aim == 9 ? 1 : 9, x.dove(0, 3), "where it is, of kind " + KINDS.charAt(i));
            due.is(9, x.dove(0, 6), "lost or too far, of kind " + KINDS.charAt(i));
        }
    }

    // ---- A DUSK

    private static void theDusk() {
        aWayLongerThanTheHawk();
        clippedDusks();
        breedersAges();
        everyThirdDusk();
        roomForEggs();
        everyFifthDusk();
        nineYearsAtMost();
        theLastDusk();
        clipsFromZeroToNine();
    }

    private static void aWayLongerThanTheHawk() {
        due.about("who flies a WAY longer than HAWK is lost");
        for (int hawk = 0; hawk <= 20; hawk++) {
            for (int way = 0; way <= 18; way++) {
                CoinsAreDoves x = townOf("l00;l" + Math.min(way, 9) + Math.max(way - 9, 0) + ";dd00;o1;h" + hawk + ";");
                x.carry(0, 1);
                due.is(way > hawk ? 1 : 0, x.dusk(), "dusk() with hawk " + hawk + ", way " + way);
                due.is(way > hawk ? 9 : 0, x.dove(0, 3), "where it is, with hawk " + hawk + ", way " + way);
                due.is(way > hawk ? 1 : 0, x.count(3), "lost ones, with hawk " + hawk + ", way " + way);
            }
        }
        CoinsAreDoves x = townOf("l00;l99;" + "dd00;".repeat(8) + "o1;h17;");
        for (int dove = 0; dove < 8; dove++) {
            x.carry(dove, 1);
        }
        due.is(8, x.dusk(), "all are lost");
        due.is(8, x.count(3), "all are lost");
        due.is(0, x.count(6), "all are lost");
        due.is(0, x.dusk(), "none is there to be lost");
    }

    private static void clippedDusks() {
        due.about("CLIPPED of all above 0 is 1 less");
        for (int clipped = 0; clipped <= 9; clipped++) {
            CoinsAreDoves x = townOf("l00;l10;dd00;o1;");
            x.carry(0, 1);
            x.clip(0, clipped);
            for (int gone = 0; gone <= 10; gone++) {
                due.is(Math.max(clipped - gone, 0), x.dove(0, 4), "clipped " + clipped + " behind dusks " + gone);
                due.is(gone > clipped ? 0 : 1, x.dove(0, 3), "where it is, clipped " + clipped + " behind dusks " + gone);
                x.dusk();
            }
        }
    }

    private static void breedersAges() {
        due.about("each BREEDER of AGE 1 to 6 lays an egg");
        for (int age = 0; age <= 9; age++) {
            CoinsAreDoves x = townOf("l00;l10;db1" + age + ";");
            x.dusk();
            due.is(age >= 1 && age <= 6 ? 2 : 1, x.count(1), "doves behind dusk 0, of age " + age);
        }
        for (int i = 0; i < KINDS.length(); i++) {
            CoinsAreDoves x = townOf("l00;d" + KINDS.charAt(i) + "03;");
            x.dusk();
            due.is(KINDS.charAt(i) == 'b' ? 2 : 1, x.count(1), "doves behind dusk 0, of kind " + KINDS.charAt(i));
        }
        CoinsAreDoves x = townOf("l00;l10;db03;");
        x.carry(0, 1);
        x.dusk();
        due.is(1, x.count(1), "not at home it lays none");
    }

    private static void everyThirdDusk() {
        due.about("lays, if DUSK can be divided by 3");
        for (int dusk = 0; dusk <= 12; dusk++) {
            CoinsAreDoves x = townOf("l00;");
            dusks(x, dusk);
            Due.tell(x, "db02;");
            x.dusk();
            due.is(dusk % 3 == 0 ? 2 : 1, x.count(1), "doves behind dusk " + dusk);
        }
    }

    private static void roomForEggs() {
        due.about("and there is room: a DOVE more, KIND d, HOME there, AGE 0");
        CoinsAreDoves x = townOf("l00;l10;", "db13;db03;dd00;dd00;dd00;dd00;dd00;");
        x.dusk();
        due.is(8, x.count(1), "seven, two would lay");
        due.is(1, x.dove(7, 1), "the egg is the first breeder's");
        due.is(1, x.dove(7, 3), "where the egg is");
        due.is(0, x.dove(7, 0), "its kind");
        due.is(0, x.dove(7, 2), "its age, behind a dusk that can be divided by 5");
        due.is(0, x.dove(7, 4), "it is not clipped");
        dusks(x, 3);
        due.is(8, x.count(1), "eight, there is no room");
        x = townOf("l00;", "db03;dd00;dd00;dd00;dd00;dd00;dd00;dd00;");
        x.dusk();
        due.is(8, x.count(1), "eight at first");
        x = townOf("l00;l10;", "db03;dd00;dd00;dd00;dd00;dd00;dd00;dd00;o1;h0;");
        x.carry(7, 1);
        due.is(1, x.dusk(), "one is lost");
        due.is(8, x.count(1), "a lost one makes no room");
        x = townOf("l00;", "db01;db01;db01;db01;db01;db01;");
        x.dusk();
        due.is(8, x.count(1), "six would lay, two can");
        due.is(6 * 8 + 2 * 5, x.count(6), "all VALUES");
        x = townOf("l00;db01;");
        due.is(8, x.purse(0, 0), "in mind, no dusk");
        due.is(13, x.purse(0, 1), "in mind, an egg");
        due.is(8 + 7 * 5, townOf("l00;db01;db01;").purse(0, 40) - 3, "in mind, no more than eight");
    }

    private static void everyFifthDusk() {
        due.about("all that were there ahead of the DUSK are a year older, if DUSK can be divided by 5");
        CoinsAreDoves x = townOf("l00;db01;");
        for (int dusk = 0; dusk <= 30; dusk++) {
            due.is(Math.min(1 + (dusk + 4) / 5, 9), x.dove(0, 2), "age ahead of dusk " + dusk);
            x.dusk();
        }
        // Eggs of dusks 0, 3, .., 27: the breeder is of age 1 to 6 at dusks 0, 3, .., 24, and room ends at 8 doves.
        due.is(8, x.count(1), "doves");
        due.is(6, x.dove(1, 2), "the egg of dusk 0 is older by dusks 5, 10, .., 30");
        due.is(6, x.dove(2, 2), "that of dusk 3, too");
        due.is(5, x.dove(3, 2), "that of dusk 6");
        due.is(3, x.dove(6, 2), "that of dusk 15 not by its own dusk");
        x = townOf("l00;");
        dusks(x, 15);
        Due.tell(x, "db03;");
        x.dusk();
        due.is(0, x.dove(1, 2), "an egg of dusk 15");
        due.is(4, x.dove(0, 2), "its breeder");
    }

    private static void nineYearsAtMost() {
        due.about("a year older (9 at most)");
        CoinsAreDoves x = townOf("l00;dd08;dd09;");
        x.dusk();
        due.is(9, x.dove(0, 2), "of age 8");
        due.is(9, x.dove(1, 2), "of age 9");
        dusks(x, 5);
        due.is(9, x.dove(0, 2), "of age 9 then");
        due.is(9, x.dove(1, 2), "of age 9 still");
    }

    private static void theLastDusk() {
        due.about("-6 DUSK is 999");
        CoinsAreDoves x = townOf("l00;l10;dd00;");
        dusks(x, 998);
        due.is(998, x.count(2), "count(2)");
        due.is(0, x.dusk(), "dusk() at 998");
        due.is(999, x.count(2), "count(2)");
        x.carry(0, 1);
        x.open(1, 1);
        due.is(-6, x.dusk(), "dusk() at 999");
        due.is(1, x.dove(0, 3), "none flies then");
        due.is(1, x.count(16), "count(16)");
        due.is(999, x.image(), "image()");
        due.is(999, x.on(), "on()");
        due.is(-6, x.dusk(), "dusk() behind on()");
    }

    private static void clipsFromZeroToNine() {
        due.about("CLIPPED becomes so (0 .. 9)");
        CoinsAreDoves x = townOf("l00;dd00;");
        for (int v = -1; v <= 10; v++) {
            int was = x.dove(0, 4);
            int answer = v < 0 ? -4 : v > 9 ? -6 : was;
            due.is(answer, x.clip(0, v), "clip(0, " + v + ")");
            due.is(answer < 0 ? was : v, x.dove(0, 4), "dove(0, 4) behind clip(0, " + v + ")");
        }
        due.is(-3, x.go(0), "go(0), clipped");
        x.clip(0, 1);
        due.is(-3, x.go(0), "go(0), clipped for one dusk");
        x.clip(0, 0);
        due.is(0, x.go(0), "go(0), not clipped");
    }

    // ---- PURSE, OWN, LETTING

    private static void purses() {
        emptyPurses();
        behindNoneToFortyDusks();
        lettingBelowZero();
    }

    private static void emptyPurses() {
        due.about("PURSE, OWN of a LOFT without doves");
        CoinsAreDoves x = townOf("l00;l90;dd00;o1;h8;");
        due.is(0, x.loft(1, 3), "PURSE");
        due.is(0, x.loft(1, 4), "OWN");
        x.carry(0, 1);
        due.is(0, x.loft(0, 3), "PURSE, carried away");
        due.is(5, x.loft(0, 4), "OWN, wherever");
        due.is(5, x.loft(1, 3), "PURSE, carried there");
        due.is(0, x.loft(1, 4), "OWN, carried there");
        x.dusk();
        due.is(0, x.loft(0, 4), "OWN (not lost)");
        due.is(0, x.loft(1, 3), "PURSE, lost");
        CoinsAreDoves full = townOf("l00;", "db00;db00;db00;db00;db00;db00;db00;db00;");
        due.is(64, full.loft(0, 3), "the greatest PURSE");
        due.is(64, full.loft(0, 4), "the greatest OWN");
    }

    private static void behindNoneToFortyDusks() {
        due.about("PURSE behind n DUSKS (0 .. 40)");
        CoinsAreDoves x = youngOneThatFliesAt(40);
        due.is(3, x.purse(1, 0), "purse(1, 0)");
        due.is(3, x.purse(1, 39), "purse(1, 39)");
        due.is(0, x.purse(1, 40), "purse(1, 40)");
        due.is(3, x.purse(0, 40), "purse(0, 40)");
        due.is(-6, x.purse(0, 41), "purse(0, 41)");
        due.is(-4, x.purse(0, -1), "purse(0, -1)");
        x = youngOneThatFliesAt(41);
        due.is(3, x.purse(1, 40), "purse(1, 40), the 41st dusk is not looked at");
    }

    /**
     * A young one in loft 1, 17 from its home 0, that flies in so many dusks, 40 or more: of age 9 it is behind
     * dusk 40 (ages come at dusks 0, 5, ..).
     */
    private static CoinsAreDoves youngOneThatFliesAt(int dusks) {
        CoinsAreDoves x = townOf("l00;l98;dy00;o1;");
        dusks(x, 42 - dusks);
        x.carry(0, 1);
        return x;
    }

    private static void lettingBelowZero() {
        due.about("LETTING (may be below 0)");
        CoinsAreDoves x = townOf("l00;l90;", "db00;db00;db00;db00;db00;db00;db00;db00;");
        due.is(0, x.letting(0), "all at home");
        due.is(0, x.letting(1), "none there");
        for (int dove = 0; dove < 8; dove++) {
            x.carry(dove, 1);
        }
        due.is(64, x.letting(0), "all come");
        due.is(-64, x.letting(1), "all go");
        for (int dove = 0; dove < 8; dove++) {
            x.clip(dove, 9);
        }
        x.hawk(0);
        due.is(64, x.letting(0), "no HAWK, nobody CLIPPED");
        due.is(1000000001, x.letting(2), "no such loft");
        // An egg would be laid at dusk 0, a year be gone, but no DUSK goes by.
        due.is(0, townOf("l00;db01;").letting(0), "no DUSK goes by");
        x = townOf("l00;l99;do04;");
        x.carry(0, 1);
        due.is(1, x.letting(0), "an old one of age 4");
    }

    // ---- PAY

    private static void payments() {
        staysOfSets();
        staysBehindDusks();
        cheapestSums();
        cheapestIsNothing();
        leastOfSeveral();
    }

    private static void staysOfSets() {
        due.about("STAYS of a set (bits)");
        CoinsAreDoves x = townOf("l00;l90;", "dd00;dd00;dd00;dd00;dd00;dd00;dd00;dd00;");
        due.is(0, x.stays(0, 1, 0), "the empty set");
        due.is(0, x.stays(0, 1, 40), "the empty set, 40 dusks");
        for (int dove = 0; dove < 8; dove++) {
            due.is(5, x.stays(1 << dove, 1, 0), "dove " + dove);
        }
        due.is(40, x.stays(255, 1, 0), "all");
        due.is(-1, x.stays(256, 1, 0), "a ninth");
        due.is(-1, x.stays(MIN, 1, 0), "the sign's bit");
        due.is(-1, x.stays(-256, 1, 0), "all but those that are there");
        due.is(0, x.count(3), "nothing is changed");
        due.is(-1, townOf("l00;l10;").stays(1, 0, 0), "no doves");
        due.is(0, townOf("l00;l10;").stays(0, 0, 0), "no doves, the empty set");
        due.is(5, townOf("l00;dd00;").stays(1, 0, 0), "one loft");
    }

    private static void staysBehindDusks() {
        due.about("STAYS behind n DUSKS; -4; -6 40");
        CoinsAreDoves x = youngOneThatFliesAt(40);
        x.carry(0, 0);
        due.is(3, x.stays(1, 1, 0), "stays(1, 1, 0)");
        due.is(3, x.stays(1, 1, 39), "stays(1, 1, 39)");
        due.is(0, x.stays(1, 1, 40), "stays(1, 1, 40)");
        due.is(-4, x.stays(1, 1, -1), "stays(1, 1, -1)");
        due.is(-6, x.stays(1, 1, 41), "stays(1, 1, 41)");
        x = townOf("l00;l99;dd00;o1;h17;");
        due.is(0, x.stays(1, 1, 1), "one that would be lost");
        due.is(0, x.dove(0, 3), "nothing is changed");
    }

    private static void cheapestSums() {
        due.about("CHEAPEST: worth that sum at least; -4 (sum, n); -6 (999; 40)");
        CoinsAreDoves x = townOf("l00;l90;", "db00;db00;db00;db00;db00;db00;db00;db00;");
        due.is(0, x.cheapest(0, 1, 0, 0), "sum 0: the empty set");
        due.is(1, x.cheapest(0, 1, 1, 0), "sum 1");
        due.is(1, x.cheapest(0, 1, 8, 0), "sum 8");
        due.is(3, x.cheapest(0, 1, 9, 0), "sum 9");
        due.is(127, x.cheapest(0, 1, 56, 0), "sum 56");
        due.is(255, x.cheapest(0, 1, 57, 0), "sum 57");
        due.is(255, x.cheapest(0, 1, 64, 0), "sum 64");
        due.is(-9, x.cheapest(0, 1, 65, 0), "sum 65");
        due.is(-9, x.cheapest(0, 1, 999, 40), "sum 999, n 40");
        due.is(-6, x.cheapest(0, 1, 1000, 40), "sum 1000");
        due.is(-6, x.cheapest(0, 1, 999, 41), "n 41");
        due.is(-4, x.cheapest(0, 1, -1, 0), "sum -1");
        due.is(-4, x.cheapest(0, 1, 0, -1), "n -1");
        x = youngOneThatFliesAt(40);
        x.carry(0, 0);
        due.is(1, x.cheapest(0, 1, 3, 39), "n 39");
        due.is(-9, x.cheapest(0, 1, 3, 40), "n 40");
        due.is(0, x.cheapest(0, 1, 0, 40), "n 40, sum 0");
    }

    private static void cheapestIsNothing() {
        due.about("CHEAPEST: the set of DOVES there; -9");
        CoinsAreDoves x = townOf("l00;l90;dd00;dd10;");
        due.is(0, x.cheapest(0, 1, 0, 0), "sum 0");
        due.is(-9, x.cheapest(0, 1, 6, 0), "one that is in the other loft already is not of the set");
        due.is(2, x.cheapest(1, 0, 5, 0), "from the other loft");
        x.carry(0, 1);
        due.is(0, x.cheapest(0, 1, 0, 0), "no doves there, sum 0");
        due.is(-9, x.cheapest(0, 1, 1, 0), "no doves there, sum 1");
        due.is(0, townOf("l00;l90;").cheapest(0, 1, 0, 40), "no doves at all, sum 0");
        due.is(-9, townOf("l00;l90;").cheapest(0, 1, 1, 40), "no doves at all, sum 1");
        x = townOf("l00;l90;dd00;dd00;o1;h8;");
        x.carry(0, 1);
        x.dusk();
        due.is(2, x.cheapest(0, 1, 5, 0), "a lost one is not of the set");
        due.is(-9, x.cheapest(0, 1, 6, 0), "a lost one is not of the set");
        due.is(-1, x.cheapest(0, 0, 0, 0), "one twice");
    }

    private static void leastOfSeveral() {
        due.about("CHEAPEST: the VALUES now together are least, of several the least bits");
        CoinsAreDoves x = townOf("l00;l90;", "ds00;dy00;dd00;ds00;dy00;dd00;");
        // 2, 3, 5, 2, 3, 5: of worth 5 are 3 (2 + 3), 4, 10, 17, 24, 32 with none cheaper.
        due.is(3, x.cheapest(0, 1, 5, 0), "of worth 5 the least bits");
        due.is(5, x.cheapest(0, 1, 7, 0), "of worth 7 the least bits");
        due.is(9, x.cheapest(0, 1, 4, 0), "of worth 4 the cheapest, though of more bits");
        due.is(2, x.cheapest(0, 1, 3, 0), "of worth 3 the least bits");
        // 1 now and 1 then, though of more bits than one that is 5 now and 1 then.
        due.is(2, townOf("l00;l90;do00;do04;").cheapest(0, 1, 1, 40), "VALUES now");
    }

    // ---- NEAR

    private static void nearness() {
        waysFromZeroToEighteen();
        noMoreThanD();
        oneByAnother();
        richest();
    }

    private static void waysFromZeroToEighteen() {
        due.about("WAY: how far they are apart in x and in y, together");
        CoinsAreDoves x = townOf("l00;l99;l09;l90;l00;");
        due.is(0, x.way(0, 0), "one and itself");
        due.is(0, x.way(0, 4), "two at one point");
        due.is(18, x.way(0, 1), "the farthest");
        due.is(18, x.way(1, 0), "the farthest, back");
        due.is(18, x.way(2, 3), "the other farthest");
        due.is(9, x.way(2, 0), "in y alone");
        due.is(9, x.way(3, 0), "in x alone");
    }

    private static void noMoreThanD() {
        due.about("NEAR: WAY is no more than d (0 .. 18)");
        for (int way = 0; way <= 18; way++) {
            CoinsAreDoves x = townOf("l00;l" + Math.min(way, 9) + Math.max(way - 9, 0) + ";");
            for (int d = 0; d <= 18; d++) {
                due.is(way <= d ? 1 : 2, x.near(d, 0), "near(" + d + ", 0), way " + way);
                due.is(way <= d ? 0 : 1, x.whose(1, d), "whose(1, " + d + "), way " + way);
                due.is(0, x.whose(0, d), "whose(0, " + d + "), way " + way);
            }
            due.is(-4, x.near(-1, 0), "near(-1, 0)");
            due.is(-6, x.near(19, 0), "near(19, 0)");
            due.is(-4, x.whose(0, -1), "whose(0, -1)");
            due.is(-6, x.whose(0, 19), "whose(0, 19)");
        }
    }

    private static void oneByAnother() {
        due.about("NEAR: one by another");
        // A chain of six in steps of 3, told in an order in which each link must be gone back for.
        CoinsAreDoves x = townOf("l00;l96;l30;l93;l60;l90;");
        due.is(1, x.near(3, 0), "near(3, 0)");
        due.is(6, x.near(2, 0), "near(2, 0)");
        for (int loft = 0; loft < 6; loft++) {
            due.is(0, x.whose(loft, 3), "whose(" + loft + ", 3)");
            due.is(loft, x.whose(loft, 2), "whose(" + loft + ", 2)");
        }
        x = townOf("l96;l00;l93;l30;l90;l60;");
        due.is(1, x.near(3, 0), "near(3, 0), told otherwise");
        x = townOf("l99;l00;l95;l30;l94;l60;");
        due.is(2, x.near(4, 0), "near(4, 0) of two purses");
        due.is(3, x.near(3, 0), "near(3, 0) of three purses");
        due.is(0, x.whose(4, 4), "whose(4, 4)");
        due.is(1, x.whose(5, 3), "whose(5, 3)");
        due.is(2, x.whose(4, 1), "whose(4, 1)");
    }

    private static void richest() {
        due.about("RICHEST: the greatest PURSES together, of several that of the least LOFT; -9");
        due.is(-9, new CoinsAreDoves().near(0, 1), "no lofts");
        due.is(-9, new CoinsAreDoves().near(18, 1), "no lofts, d 18");
        due.is(0, townOf("l00;").near(0, 1), "one loft, no doves");
        due.is(0, townOf("l00;l90;l99;").near(0, 1), "no doves: all have 0");
        due.is(0, townOf("l00;l90;dy00;ds10;").near(0, 1), "the first by its own");
        due.is(0, townOf("l00;l01;l90;ds00;ds10;dy20;").near(1, 1), "the first two together");
        due.is(2, townOf("l00;l90;l99;ds20;").near(0, 1), "the last");
        CoinsAreDoves full = townOf(FULL);
        // 6, 5, 5, 5, 5, 7 (the old one with a dove, the stray with another): 1 and 4, 2 and 5 are one by ways of 4.
        due.is(5, full.near(3, 1), "the last of six by its own");
        due.is(2, full.near(4, 1), "with the last of six");
        due.is(0, full.near(18, 1), "all six");
        due.is(1, townOf("l00;l90;l99;ds20;ds10;").near(0, 1), "of two as rich the least");
        due.is(0, townOf("l00;l90;l99;ds20;ds10;").near(18, 1), "all are one");
        due.is(0, townOf("l00;l90;l01;l91;ds20;ds30;").near(1, 1), "two purses of two, as rich");
        due.is(1, townOf("l00;l90;l01;l91;ds20;dy30;").near(1, 1), "two purses of two");
    }

    // ---- RUN, BEST OPEN, HOMING, SPARE

    private static void looksAhead() {
        runs();
        runsOnSums();
        bestOpenOfSeveral();
        bestOpenBehindDusks();
        homings();
        spares();
        sparesBehindDusks();
    }

    private static void runs() {
        due.about("RUN: the least n (0 .. 40); -9");
        due.is(0, townOf("l00;l98;dd00;").run(1, 1), "it is so now");
        due.is(1, duskThatCarriesHome().run(1, 1), "behind one dusk");
        due.is(40, youngOneThatFliesAt(40).run(1, 1), "behind 40 dusks");
        due.is(-9, youngOneThatFliesAt(41).run(1, 1), "behind 41 dusks");
        CoinsAreDoves x = townOf("l00;l10;ds00;o0;o1;");
        due.is(1, x.run(0, 2), "the least of several");
    }

    private static CoinsAreDoves duskThatCarriesHome() {
        CoinsAreDoves x = townOf("l00;l98;dd00;o1;");
        x.carry(0, 1);
        return x;
    }

    private static void runsOnSums() {
        due.about("RUN: below a told sum; -4; -6 999");
        CoinsAreDoves x = townOf("l00;l10;dd00;");
        due.is(-9, x.run(0, 0), "sum 0: nothing is below 0");
        due.is(-9, x.run(1, 0), "sum 0, an empty loft");
        due.is(-9, x.run(0, 4), "sum 4");
        due.is(-9, x.run(0, 5), "sum 5 is not above 5");
        due.is(0, x.run(0, 6), "sum 6");
        due.is(0, x.run(0, 999), "sum 999");
        due.is(-6, x.run(0, 1000), "sum 1000");
        due.is(-4, x.run(0, -1), "sum -1");
    }

    private static void bestOpenOfSeveral() {
        due.about("BEST OPEN: greatest, of several the least bits");
        CoinsAreDoves x = townOf("l00;l01;l02;l03;l04;l05;", "dd00;dd00;dd00;dd00;dd00;");
        due.is(0, x.bestOpen(0, 40), "whatever is open");
        for (int dove = 0; dove < 5; dove++) {
            x.carry(dove, dove + 1);
        }
        due.is(62, x.bestOpen(0, 1), "all that have one");
        due.is(0, x.bestOpen(1, 1), "one that loses by it");
        Due.tell(x, "ds00;");
        x.carry(5, 1);
        due.is(62, x.bestOpen(0, 1), "the stray comes, too");
        x.open(0, 1);
        due.is(62, x.bestOpen(0, 1), "what is open now is shut in mind");
        due.is(1, x.count(5), "nothing is changed");
        x = townOf("l50;l51;l52;l53;l54;l55;ds50;");
        due.is(32, x.bestOpen(4, 1), "the last alone");
        x = townOf("l00;l01;l02;l03;l04;l05;", "dd50;dd50;dd50;dd50;dd50;");
        for (int dove = 0; dove < 5; dove++) {
            x.carry(dove, dove);
        }
        due.is(31, x.bestOpen(5, 1), "all but the last");
        due.is(0, townOf("l00;").bestOpen(0, 40), "one loft, no doves: none open");
    }

    private static void bestOpenBehindDusks() {
        due.about("BEST OPEN behind n DUSKS; -4; -6 40");
        CoinsAreDoves x = youngOneThatFliesAt(40);
        due.is(0, x.bestOpen(0, 0), "n 0");
        due.is(0, x.bestOpen(0, 39), "n 39");
        due.is(2, x.bestOpen(0, 40), "n 40");
        due.is(-6, x.bestOpen(0, 41), "n 41");
        due.is(-4, x.bestOpen(0, -1), "n -1");
        due.is(0, youngOneThatFliesAt(41).bestOpen(0, 40), "the 41st dusk is not looked at");
    }

    private static void homings() {
        due.about("HOMING: the least n (0 .. 40) behind which it is at HOME; -9");
        due.is(0, townOf("l00;dd00;").homing(0), "at home");
        due.is(1, duskThatCarriesHome().homing(0), "behind one dusk");
        due.is(40, youngOneThatFliesAt(40).homing(0), "behind 40 dusks");
        due.is(-9, youngOneThatFliesAt(41).homing(0), "behind 41 dusks");
        CoinsAreDoves x = townOf("l00;l10;ds00;o0;o1;");
        due.is(0, x.homing(0), "it is at home now, though it leaves");
        x.dusk();
        due.is(1, x.homing(0), "it comes back");
        x = duskThatCarriesHome();
        x.hawk(16);
        due.is(-9, x.homing(0), "one that will be lost");
        x.dusk();
        due.is(9, x.dove(0, 3), "it is lost");
        due.is(-9, x.homing(0), "a lost one");
        x = townOf("l00;", "dd00;dd00;dd00;dd00;dd00;dd00;dd00;dd00;");
        due.is(0, x.homing(7), "the last dove");
        due.is(-1, x.homing(8), "a ninth");
    }

    private static void spares() {
        due.about("SPARE: the least HAWK (0 .. 20) by which none more is lost");
        for (int way = 0; way <= 18; way++) {
            CoinsAreDoves x = townOf("l00;l" + Math.min(way, 9) + Math.max(way - 9, 0) + ";dd00;o1;h0;");
            x.carry(0, 1);
            due.is(way, x.spare(1), "spare(1), way " + way);
            due.is(way, x.spare(40), "spare(40), way " + way);
            due.is(0, x.spare(0), "spare(0), way " + way);
            due.is(0, x.count(4), "nothing is changed");
            due.is(way == 0 ? 0 : 1, x.dusk(), "dusk()");
            due.is(0, x.spare(40), "spare(40) behind it, way " + way);
        }
        due.is(0, new CoinsAreDoves().spare(40), "no doves");
        due.is(0, townOf(FULL).spare(40), "all shut");
    }

    private static void sparesBehindDusks() {
        due.about("SPARE in n DUSKS; -4; -6 40");
        CoinsAreDoves x = youngOneThatFliesAt(40);
        due.is(0, x.spare(39), "n 39");
        due.is(17, x.spare(40), "n 40");
        due.is(-6, x.spare(41), "n 41");
        due.is(-4, x.spare(-1), "n -1");
        due.is(0, youngOneThatFliesAt(41).spare(40), "the 41st dusk is not looked at");
    }

    // ---- ROW, PAID, JUDGED

    private static void rows() {
        numbersOfARow();
        paidOrNot();
        paidWithFewAndWithMost();
        judged();
    }

    private static void numbersOfARow() {
        due.about("A ROW of numbers (0 .. 9; 8 at most)");
        CoinsAreDoves x = new CoinsAreDoves();
        due.is(-4, x.row(-1), "row(-1)");
        due.is(1, x.row(0), "row(0)");
        due.is(2, x.row(9), "row(9)");
        due.is(-6, x.row(10), "row(10)");
        due.is(2, x.count(7), "count(7)");
        for (int i = 3; i <= 8; i++) {
            due.is(i, x.row(i), "row no. " + i);
        }
        due.is(-6, x.row(0), "row no. 9");
        due.is(8, x.count(7), "count(7)");
        x.judge();
        due.is(1, x.row(0), "row(0) behind judge()");
    }

    private static void paidOrNot() {
        due.about("PAID: how many such there are; the first (-9)");
        CoinsAreDoves x = townOf("l00;l90;dd00;dd10;");
        tellRow(x, 0, 1);
        due.is(0, x.paid(0), "as it is, none carried");
        due.is(-9, x.paid(1), "as it is, none carried");
        x.judge();
        tellRow(x, 1, 0);
        due.is(0, x.paid(0), "two had to be carried");
        due.is(-9, x.paid(1), "two had to be carried");
        x.judge();
        tellRow(x, 9, 1);
        due.is(-9, x.paid(1), "none can be carried to be lost");
        x.judge();
        tellRow(x, 0, 0);
        due.is(1, x.paid(0), "one");
        due.is(10, x.paid(1), "one");
        x.judge();
        for (int loft = 2; loft <= 8; loft++) {
            tellRow(x, 0, loft);
            due.is(0, x.paid(0), "loft " + loft + ", that is not there");
            due.is(-9, x.paid(1), "loft " + loft + ", that is not there");
            x.judge();
        }
        x = townOf("l00;dd00;");
        tellRow(x, 0);
        due.is(0, x.paid(0), "no other LOFT");
        due.is(-9, x.paid(1), "no other LOFT");
    }

    private static void paidWithFewAndWithMost() {
        due.about("PAID: -3 it is not as long as there are DOVES");
        due.is(0, new CoinsAreDoves().paid(0), "no doves, no row");
        due.is(-9, new CoinsAreDoves().paid(1), "no doves, no row");
        due.is(0, townOf("l00;l90;").paid(0), "no doves, no row, lofts");
        CoinsAreDoves x = new CoinsAreDoves();
        x.row(0);
        due.is(-3, x.paid(0), "no doves, a row");
        x = townOf(FULL);
        // All as they are but the last dove, the stray at home in 5, that shall be in 4.
        tellRow(x, 0, 1, 2, 3, 4, 5, 0);
        due.is(-3, x.paid(0), "seven for eight doves");
        tellRow(x, 4);
        due.is(1, x.paid(0), "eight for eight doves");
        due.is(74, x.paid(1), "eight for eight doves");
        x.judge();
        tellRow(x, 0, 1, 2, 3, 4, 5, 5, 5);
        due.is(1, x.paid(0), "the old one to the last loft");
        due.is(65, x.paid(1), "the old one to the last loft");
        due.is(8, x.count(7), "the ROW stays");
        x.judge();
        tellRow(x, 3, 1, 2, 3, 4, 5, 0, 5);
        due.is(3, x.paid(1), "the first dove");
        x.judge();
        // All windows open: each of the six doves may be carried to each other loft, and flies home; the stray to 2.
        Due.tell(x, "o0;o1;o2;o3;o4;o5;");
        tellRow(x, 0, 1, 2, 3, 4, 5, 0, 2);
        due.is(6 * 5, x.paid(0), "all such");
        due.is(1, x.paid(1), "the first of them");
    }

    private static void judged() {
        due.about("JUDGED: where it ends, if too short; how many DOVES, if too long; else -9");
        due.is(-9, new CoinsAreDoves().judge(), "no doves, no row");
        CoinsAreDoves x = new CoinsAreDoves();
        x.row(9);
        due.is(0, x.judge(), "no doves, a row");
        due.is(-9, x.judge(), "the ROW has none then");
        x = townOf(FULL);
        int[] is = {0, 1, 2, 3, 4, 5, 0, 5};
        for (int length = 0; length <= 8; length++) {
            for (int i = 0; i < length; i++) {
                x.row(is[i]);
            }
            due.is(length == 8 ? -9 : length, x.judge(), "a row of " + length);
            due.is(0, x.count(7), "the ROW has none then");
        }
        for (int wrong = 0; wrong < 8; wrong++) {
            for (int i = 0; i < 8; i++) {
                x.row(i == wrong ? 9 : is[i]);
            }
            due.is(wrong, x.judge(), "not so at " + wrong);
        }
        x = townOf("l00;l10;dd10;dd00;");
        for (int length = 0; length <= 8; length++) {
            for (int i = 0; i < length; i++) {
                x.row(i == 0 ? 1 : 0);
            }
            due.is(length == 2 ? -9 : Math.min(length, 2), x.judge(), "a row of " + length + " for two doves");
        }
        // What an earlier row had behind its end is not of the next.
        tellRow(x, 1, 0, 0);
        x.judge();
        tellRow(x, 1);
        due.is(1, x.judge(), "a shorter row behind a longer one");
    }

    // ---- SEEDS

    private static void seeds() {
        oneToThirtyDusks();
        seedsThatWrapAround();
        seedsAreInMind();
    }

    /** Six lofts; the dove in each is at home in the next one, to which it flies as soon as its window is open. */
    private static CoinsAreDoves ring() {
        CoinsAreDoves x = townOf("l00;l50;l90;l99;l59;l09;", "dd10;dd20;dd30;dd40;dd50;dd00;");
        for (int dove = 0; dove < 6; dove++) {
            x.carry(dove, dove);
        }
        return x;
    }

    /** Which windows of six were open in one of so many dusks. */
    private static int openOnce(int n, int seed) {
        int open = 0;
        for (int i = 1; i <= n; i++) {
            open |= openIn(i, seed, 64);
        }
        return open;
    }

    /** The n-th DRAW, reckoned without ints. */
    private static int openIn(int n, int seed, int below) {
        BigInteger word = BigInteger.ONE.shiftLeft(32);
        BigInteger z = BigInteger.valueOf(seed);
        for (int i = 0; i < n; i++) {
            z = z.multiply(BigInteger.valueOf(1664525)).add(BigInteger.valueOf(1013904223)).mod(word);
        }
        return z.clearBit(31).shiftRight(8).mod(BigInteger.valueOf(below)).intValue();
    }

    private static void oneToThirtyDusks() {
        due.about("SEEDS: n DUSKS (1 .. 30)");
        CoinsAreDoves x = ring();
        due.is(-4, x.seeds(0, 1, 0), "n 0");
        due.is(-4, x.seeds(-1, 1, 0), "n -1");
        due.is(-6, x.seeds(31, 1, 0), "n 31");
        due.is(-6, x.seeds(MAX, 1, 0), "n MAX");
        // A stray between two lofts changes its loft by each dusk in which the window of its loft is open.
        for (int seed : new int[] {0, 3, -7, MAX, MIN}) {
            CoinsAreDoves to = townOf("l00;l01;ds00;");
            int at = 0;
            for (int n = 1; n <= 30; n++) {
                at = (openIn(n, seed, 4) >> at & 1) == 1 ? 1 - at : at;
                due.is(at == 0 ? 2 : 0, to.seeds(n, seed, 0), "seeds(" + n + ", " + seed + ", 0)");
                due.is(at == 1 ? 2 : 0, to.seeds(n, seed, 1), "seeds(" + n + ", " + seed + ", 1)");
            }
        }
    }

    private static void seedsThatWrapAround() {
        due.about("SEEDS: (an int); z without its sign's bit by 256, cut");
        int[] seeds = {0, 1, -1, 2, -2, 255, 256, 1290, 1291, 65536, 1 << 30, 3 << 29, MAX, MAX - 1, MIN, MIN + 1,
            -1013904223, 1013904223, 123456789, -123456789};
        CoinsAreDoves x = ring();
        for (int seed : seeds) {
            for (int n = 1; n <= 30; n++) {
                int open = openOnce(n, seed);
                for (int loft = 0; loft < 6; loft++) {
                    int stays = (open >> loft & 1) == 0 ? 5 : 0;
                    int comes = (open >> (loft + 5) % 6 & 1) == 0 ? 0 : 5;
                    due.is(stays + comes, x.seeds(n, seed, loft), "seeds(" + n + ", " + seed + ", " + loft + ")");
                }
            }
        }
    }

    private static void seedsAreInMind() {
        due.about("SEEDS, nothing is changed");
        CoinsAreDoves x = ring();
        x.open(2, 1);
        x.seeds(30, 5, 0);
        due.is(4, x.count(5), "OPEN");
        due.is(0, x.count(2), "DUSK");
        for (int dove = 0; dove < 6; dove++) {
            due.is(dove, x.dove(dove, 3), "where dove " + dove + " is");
        }
        due.is(0, townOf("l00;").seeds(30, MIN, 0), "no doves");
        due.is(2, townOf("l00;ds00;").seeds(1, MAX, 0), "one loft: a DRAW below 2");
    }

    // ---- THE IMAGE

    private static void images() {
        due.about("ON: -3 there is none; THE IMAGE of nothing, of all");
        CoinsAreDoves x = new CoinsAreDoves();
        due.is(-3, x.on(), "on()");
        due.is(0, x.image(), "image() of nothing");
        due.is(0, x.on(), "on() to nothing");
        due.is(14, Due.tell(x, FULL), "a full town");
        x.dusk();
        due.is(0, x.on(), "on() to nothing");
        due.is(0, x.count(0), "lofts");
        due.is(0, x.count(1), "doves");
        due.is(0, x.near(18, 0), "near(18, 0)");
        due.is(14, Due.tell(x, FULL), "there is room again");
        x.dusk();
        due.is(1, x.image(), "image() of all");
        due.is(2, Due.tell(x, "o0;h0;"), "more is told");
        due.is(1, x.on(), "on()");
        due.is(0, x.count(5), "OPEN");
        due.is(20, x.count(4), "HAWK");
        due.is(-2000, Due.tell(x, "l00;"), "no room for a loft");
        due.is(-2000, Due.tell(x, "dd00;"), "no room for a dove");
        due.is(-3, new CoinsAreDoves().on(), "another object has none");
        x = townOf("l00;dd00;");
        x.image();
        Due.tell(x, "l77;dd19;o1;");
        x.clip(1, 9);
        x.carry(1, 0);
        due.is(0, x.on(), "on() to fewer");
        due.is(-1, x.dove(1, 0), "a dove that came behind the image");
        due.is(-1, x.loft(1, 0), "a loft that came behind the image");
        due.is(2, Due.tell(x, "l99;db11;"), "others come");
        int[] other = {4, 1, 1, 1, 0, 8, 1};
        for (int what = 0; what < other.length; what++) {
            due.is(other[what], x.dove(1, what), "dove(1, " + what + ") is as a new one");
        }
        due.is(0, x.loft(1, 2), "loft(1, 2) is as a new one's");
        x = townOf("l00;l10;dd00;do00;h1;");
        x.image();
        x.hawk(0);
        x.carry(0, 1);
        x.open(1, 1);
        due.is(1, x.dusk(), "one is lost");
        due.is(0, x.on(), "on()");
        due.is(0, x.dove(0, 3), "it is not lost as then");
        due.is(0, x.count(3), "none is lost as then");
        due.is(5, x.dove(1, 5), "nor older");
    }
}
