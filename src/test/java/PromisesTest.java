/** Promise by promise: ordinary inputs, the edges that the document names, and wrong inputs. */
public final class PromisesTest {
    private static final Due due = new Due();
    private static final int MAX = Integer.MAX_VALUE;
    private static final int MIN = Integer.MIN_VALUE;

    public static void main(String[] args) {
        aNewObject();
        letter();
        townOfAllStatements();
        townFaultsOfForm();
        townFaultsOfSense();
        townComesWholeOrNot();
        loft();
        dove();
        valuesByKindAndAge();
        flightsByKind();
        open();
        hawk();
        carry();
        clip();
        go();
        dusk();
        duskAndTheHawk();
        duskAndEggs();
        duskAndYears();
        duskAndClippedWings();
        lastDusk();
        way();
        purse();
        letting();
        stays();
        cheapest();
        near();
        whose();
        run();
        bestOpen();
        homing();
        spare();
        row();
        paid();
        judge();
        seeds();
        imageAndOn();
        count();
        inMindNothingChanges();
        due.end();
    }

    private static CoinsAreDoves townOf(String... texts) {
        return Due.townOf(texts);
    }

    private static void aNewObject() {
        due.about("promise 1");
        CoinsAreDoves x = new CoinsAreDoves();
        int[] counts = {0, 0, 0, 0, 20, 0, 0, 0, 0, -9, -9, 0, 0, 0, 0, 0, 0, -9};
        for (int what = 0; what < counts.length; what++) {
            due.is(counts[what], x.count(what), "count(" + what + ")");
        }
        due.is(-1, x.loft(0, 0), "loft(0, 0)");
        due.is(-1, x.dove(0, 0), "dove(0, 0)");
        due.is(-3, x.on(), "on()");
        CoinsAreDoves other = townOf("l00;");
        due.is(1, other.count(0), "count(0) of another object");
        due.is(0, x.count(0), "count(0) beside another object");
    }

    private static void letter() {
        due.about("promise 2");
        CoinsAreDoves x = new CoinsAreDoves();
        due.is(-4, x.letter(-1), "letter(-1)");
        due.is(-4, x.letter(MIN), "letter(MIN)");
        due.is(-6, x.letter(256), "letter(256)");
        due.is(-6, x.letter(MAX), "letter(MAX)");
        due.is(0, x.count(8), "count(8)");
        due.is(1, x.letter(0), "letter(0)");
        due.is(2, x.letter(255), "letter(255)");
        for (int i = 3; i <= 64; i++) {
            due.is(i, x.letter('l'), "letter no. " + i);
        }
        due.is(-6, x.letter('l'), "letter no. 65");
        due.is(-6, x.letter(256), "letter(256) when full");
        due.is(-4, x.letter(-1), "letter(-1) when full");
        due.is(64, x.count(8), "count(8) when full");
        due.is(4, x.count(16), "count(16)");
        due.is(3, x.count(14), "count(14)");
        due.is(-1000, x.town(), "town()");
        due.is(1, x.letter('l'), "letter behind town()");
    }

    private static void townOfAllStatements() {
        due.about("promise 3, all statements");
        CoinsAreDoves x = new CoinsAreDoves();
        due.is(4, Due.tell(x, "l12;l90;dt05;h07;"), "town()");
        due.is(2, x.count(0), "lofts");
        due.is(1, x.loft(0, 0), "x of loft 0");
        due.is(2, x.loft(0, 1), "y of loft 0");
        due.is(9, x.loft(1, 0), "x of loft 1");
        due.is(0, x.loft(1, 1), "y of loft 1");
        due.is(1, x.count(1), "doves");
        due.is(5, x.dove(0, 0), "kind");
        due.is(0, x.dove(0, 1), "home");
        due.is(5, x.dove(0, 2), "age");
        due.is(0, x.dove(0, 3), "at first at home");
        due.is(0, x.dove(0, 4), "at first not clipped");
        due.is(7, x.count(4), "hawk of two digits");
        due.is(0, x.count(8), "letters are no more");
        due.is(1, Due.tell(x, "h3;"), "hawk of one digit");
        due.is(3, x.count(4), "hawk");
        due.is(2, Due.tell(x, "h00;h20;"), "hawk twice");
        due.is(20, x.count(4), "hawk 20");
        due.is(1, Due.tell(x, "o1;"), "o1");
        due.is(2, x.count(5), "open");
        due.is(3, Due.tell(x, "o0;o1;o0;"), "told again: not");
        due.is(0, x.count(5), "open behind it");
        due.is(3, Due.tell(x, "o0;o0;o0;"), "told three times");
        due.is(1, x.count(5), "open behind three");
        due.is(1, Due.tell(x, "db12;"), "a dove more");
        due.is(1, x.dove(1, 1), "home of dove 1");
        due.is(4, x.dove(1, 0), "kind of dove 1");
        String kinds = "doysbt";
        for (int i = 0; i < kinds.length(); i++) {
            due.is(2, Due.tell(x = new CoinsAreDoves(), "l00;d" + kinds.charAt(i) + "00;"), "kind " + kinds.charAt(i));
            due.is(i, x.dove(0, 0), "dove(0, 0) of kind " + kinds.charAt(i));
        }
    }

    private static void fault(int want, String text) {
        due.is(want, Due.tell(townOf("l00;"), text), "town() of " + text);
    }

    private static void townFaultsOfForm() {
        due.about("promise 3, faults of form");
        String[] texts = {"", "x", "l", "l0", "l00", "l00;x", "lx", "l0x", "l00x", "l000;", "l0;", ";", "l00;;"};
        int[] places = {0, 0, 1, 2, 3, 4, 1, 2, 3, 3, 2, 0, 4};
        for (int i = 0; i < texts.length; i++) {
            fault(-1000 - places[i], texts[i]);
        }
        fault(-1001, "d");
        fault(-1001, "dl00;");
        fault(-1001, "dq00;");
        fault(-1001, "d000;");
        fault(-1001, "d;");
        fault(-1000, "D00;");
        fault(-1002, "dd");
        fault(-1002, "ddd0;");
        fault(-1003, "dd0;");
        fault(-1004, "dd00");
        fault(-1004, "dd000;");
        fault(-1001, "o");
        fault(-1001, "o;");
        fault(-1002, "o0");
        fault(-1002, "o00;");
        fault(-1001, "h");
        fault(-1001, "h;");
        fault(-1002, "h1");
        fault(-1003, "h12");
        fault(-1003, "h123;");
        fault(-1002, "h1h;");
        fault(-1002, "h1-;");
        fault(-1001, "h-1;");
        fault(-1004, "l00; l00;");
        fault(-1001, "l" + (char) 233 + "0;");
        fault(-1001, "l/0;");
        fault(-1001, "l:0;");
        // A fault of form is told first, wherever the fault of sense stands.
        fault(-1005, "o9;o0x");
        fault(-1005, "h99;lx");
        CoinsAreDoves x = new CoinsAreDoves();
        due.is(21, Due.tell(x, "h1;".repeat(21)), "21 statements");
        due.is(-1064, Due.tell(x, "h1;".repeat(20) + "dd00"), "64 letters, the end lacking");
    }

    private static void townFaultsOfSense() {
        due.about("promise 3, faults of sense");
        fault(-2000, "o1;");
        fault(-2003, "o0;o1;");
        fault(-2000, "dd10;");
        fault(-2004, "l00;dd20;");
        fault(-2000, "h21;");
        fault(-2000, "h99;o9;");
        fault(-2006, "h1;o0;h30;");
        fault(-2020, "l00;l00;l00;l00;l00;l00;");
        fault(-2000, "dd10;l00;");
        CoinsAreDoves x = townOf("l00;", "dd00;dd00;dd00;dd00;dd00;dd00;dd00;");
        due.is(-2005, Due.tell(x, "dd00;dd00;"), "a ninth dove");
        due.is(7, x.count(1), "doves");
        due.is(1, Due.tell(x, "dd00;"), "an eighth dove");
        due.is(-2000, Due.tell(x, "dd00;"), "a ninth dove alone");
        due.is(0, x.dove(7, 1), "the eighth");
        due.is(-1, x.dove(8, 1), "the ninth");
    }

    private static void townComesWholeOrNot() {
        due.about("promise 3, whole or not");
        CoinsAreDoves x = townOf("l00;");
        due.is(-2012, Due.tell(x, "l55;dd15;h9;o9;"), "a fault at the end");
        due.is(1, x.count(0), "lofts");
        due.is(0, x.count(1), "doves");
        due.is(20, x.count(4), "hawk");
        due.is(0, x.count(8), "letters are no more");
        due.is(-1015, Due.tell(x, "l55;dd15;h9;o0;x"), "a fault of form at the end");
        due.is(1, x.count(0), "lofts");
        due.is(0, x.count(5), "open");
        for (int what = 11; what <= 16; what++) {
            due.is(0, x.count(what), "nothing is counted: count(" + what + ")");
        }
        due.is(-2000, Due.tell(x, "o1;"), "the loft of a faulty town is not there");
    }

    private static void loft() {
        due.about("promise 4");
        CoinsAreDoves x = townOf("l12;l34;dd00;db00;ds10;o1;");
        x.carry(1, 1);
        due.is(1, x.loft(0, 0), "loft(0, 0)");
        due.is(2, x.loft(0, 1), "loft(0, 1)");
        due.is(0, x.loft(0, 2), "loft(0, 2)");
        due.is(5, x.loft(0, 3), "loft(0, 3)");
        due.is(13, x.loft(0, 4), "loft(0, 4)");
        due.is(3, x.loft(1, 0), "loft(1, 0)");
        due.is(4, x.loft(1, 1), "loft(1, 1)");
        due.is(1, x.loft(1, 2), "loft(1, 2)");
        due.is(10, x.loft(1, 3), "loft(1, 3)");
        due.is(2, x.loft(1, 4), "loft(1, 4)");
        due.is(-1, x.loft(2, 0), "loft(2, 0)");
        due.is(-1, x.loft(-1, 0), "loft(-1, 0)");
        due.is(-1, x.loft(MIN, 9), "loft(MIN, 9)");
        due.is(-1, x.loft(9, 3), "loft(9, 3)");
        due.is(-2, x.loft(0, 5), "loft(0, 5)");
        due.is(-2, x.loft(0, -1), "loft(0, -1)");
        due.is(-1, x.loft(2, 5), "loft(2, 5)");
        x.hawk(0);
        x.dusk();
        // The breeder flew from loft 1, the stray too: both are lost, and OWN has none of them.
        due.is(2, x.count(3), "lost ones");
        due.is(5, x.loft(0, 4), "loft(0, 4) with a lost one");
        due.is(0, x.loft(1, 4), "loft(1, 4) with a lost one");
        due.is(0, x.loft(1, 3), "loft(1, 3) with lost ones");
    }

    private static void dove() {
        due.about("promise 5");
        CoinsAreDoves x = townOf("l00;l05;dy13;do02;");
        due.is(2, x.dove(0, 0), "dove(0, 0)");
        due.is(1, x.dove(0, 1), "dove(0, 1)");
        due.is(3, x.dove(0, 2), "dove(0, 2)");
        due.is(1, x.dove(0, 3), "dove(0, 3)");
        due.is(0, x.dove(0, 4), "dove(0, 4)");
        due.is(3, x.dove(0, 5), "dove(0, 5)");
        due.is(1, x.dove(0, 6), "dove(0, 6)");
        x.carry(0, 0);
        x.clip(0, 4);
        due.is(0, x.dove(0, 3), "dove(0, 3) carried");
        due.is(4, x.dove(0, 4), "dove(0, 4) clipped");
        due.is(1, x.dove(0, 6), "dove(0, 6) of a clipped one");
        due.is(3, x.dove(1, 5), "dove(1, 5)");
        due.is(-2, x.dove(0, 7), "dove(0, 7)");
        due.is(-2, x.dove(0, -1), "dove(0, -1)");
        due.is(-1, x.dove(2, 0), "dove(2, 0)");
        due.is(-1, x.dove(-1, 0), "dove(-1, 0)");
        due.is(-1, x.dove(8, 7), "dove(8, 7)");
        x.clip(0, 0);
        x.open(0, 1);
        x.hawk(4);
        due.is(1, x.dusk(), "dusk()");
        due.is(9, x.dove(0, 3), "dove(0, 3) of a lost one");
        due.is(9, x.dove(0, 6), "dove(0, 6) of a lost one");
        due.is(1, x.dove(0, 1), "dove(0, 1) of a lost one");
        due.is(3, x.dove(0, 5), "dove(0, 5) of a lost one");
    }

    private static void valuesByKindAndAge() {
        due.about("VALUE");
        String kinds = "doysbt";
        int[][] values = {{5, 5, 5, 5, 5, 5, 5, 5, 5, 5}, {5, 4, 3, 2, 1, 1, 1, 1, 1, 1},
            {3, 3, 3, 3, 3, 3, 3, 3, 3, 3}, {2, 2, 2, 2, 2, 2, 2, 2, 2, 2},
            {8, 8, 8, 8, 8, 8, 8, 8, 8, 8}, {6, 6, 6, 6, 6, 6, 6, 6, 6, 6}};
        for (int kind = 0; kind < 6; kind++) {
            for (int age = 0; age < 10; age++) {
                CoinsAreDoves x = townOf("l00;d" + kinds.charAt(kind) + "0" + age + ";");
                due.is(values[kind][age], x.dove(0, 5), "VALUE of " + kinds.charAt(kind) + " of age " + age);
            }
        }
    }

    /** Where a dove of loft 0 flies from loft 1, that is so far. */
    private static int flight(char kind, int age, int way) {
        CoinsAreDoves x = townOf("l00;l" + Math.min(way, 9) + Math.max(way - 9, 0) + ";d" + kind + "0" + age + ";");
        x.carry(0, 1);
        return x.dove(0, 6);
    }

    private static void flightsByKind() {
        due.about("FLIES");
        due.is(0, flight('d', 0, 18), "a dove");
        due.is(0, flight('b', 9, 18), "a breeder");
        due.is(0, flight('o', 4, 18), "an old one of age 4");
        due.is(9, flight('o', 5, 1), "an old one of age 5");
        due.is(9, flight('o', 9, 0), "an old one of age 9");
        due.is(0, flight('y', 4, 8), "a young one of age 4, a way of 8");
        due.is(9, flight('y', 4, 9), "a young one of age 4, a way of 9");
        due.is(0, flight('y', 9, 18), "a young one of age 9, a way of 18");
        due.is(9, flight('y', 0, 1), "a young one of age 0");
        due.is(0, flight('y', 0, 0), "a young one of age 0, a way of 0");
        due.is(0, flight('t', 2, 3), "a tame one of age 2, a way of 3");
        due.is(0, flight('t', 2, 4), "a tame one of age 2, a way of 4");
        due.is(9, flight('t', 2, 5), "a tame one of age 2, a way of 5");
        due.is(9, flight('t', 2, 2), "a tame one of age 2, a way of 2");
        due.is(9, flight('t', 9, 0), "a tame one, a way of 0");
        due.is(9, flight('t', 1, 3), "a tame one of age 1, a way of 3");
        due.is(0, flight('s', 0, 18), "a stray of two lofts");
        CoinsAreDoves x = townOf("l00;ds00;dd00;dt09;dy00;");
        due.is(9, x.dove(0, 6), "a stray of one loft");
        due.is(0, x.dove(1, 6), "a dove at home");
        due.is(9, x.dove(2, 6), "a tame one at home");
        due.is(0, x.dove(3, 6), "a young one at home");
        x = townOf("l50;l40;l70;l60;l99;ds40;");
        x.carry(0, 0);
        due.is(1, x.dove(0, 6), "a stray: of several nearest the least number");
        x.carry(0, 1);
        due.is(0, x.dove(0, 6), "a stray in loft 1");
        x.carry(0, 2);
        due.is(3, x.dove(0, 6), "a stray in loft 2");
        x.carry(0, 3);
        due.is(0, x.dove(0, 6), "a stray in loft 3");
        x.carry(0, 4);
        due.is(2, x.dove(0, 6), "a stray at home flies to another loft");
        x = townOf("l50;l50;ds00;");
        due.is(1, x.dove(0, 6), "a stray to another loft at the same point");
    }

    private static void open() {
        due.about("promise 6");
        CoinsAreDoves x = townOf("l00;l11;l22;");
        due.is(0, x.open(1, 1), "open(1, 1)");
        due.is(1, x.open(1, 1), "open(1, 1) again");
        due.is(2, x.count(5), "count(5)");
        due.is(0, x.open(2, 1), "open(2, 1)");
        due.is(6, x.count(5), "count(5)");
        due.is(1, x.open(1, 0), "open(1, 0)");
        due.is(0, x.open(1, 0), "open(1, 0) again");
        due.is(4, x.count(5), "count(5)");
        due.is(-1, x.open(3, 1), "open(3, 1)");
        due.is(-1, x.open(-1, 1), "open(-1, 1)");
        due.is(-1, x.open(32, 2), "open(32, 2)");
        due.is(-2, x.open(0, 2), "open(0, 2)");
        due.is(-2, x.open(0, -1), "open(0, -1)");
        due.is(4, x.count(5), "count(5) behind refusals");
    }

    private static void hawk() {
        due.about("promise 7");
        CoinsAreDoves x = new CoinsAreDoves();
        due.is(20, x.hawk(0), "hawk(0)");
        due.is(0, x.hawk(20), "hawk(20)");
        due.is(-4, x.hawk(-1), "hawk(-1)");
        due.is(-6, x.hawk(21), "hawk(21)");
        due.is(-4, x.hawk(MIN), "hawk(MIN)");
        due.is(-6, x.hawk(MAX), "hawk(MAX)");
        due.is(20, x.hawk(7), "hawk(7)");
        due.is(7, x.count(4), "count(4)");
    }

    private static void carry() {
        due.about("promise 8");
        CoinsAreDoves x = townOf("l00;l90;dd00;dd10;o1;h3;");
        due.is(0, x.carry(0, 1), "carry(0, 1)");
        due.is(1, x.carry(0, 1), "carry(0, 1) again");
        due.is(1, x.dove(0, 3), "dove(0, 3)");
        due.is(0, x.dove(0, 1), "its home stays");
        due.is(-1, x.carry(2, 0), "carry(2, 0)");
        due.is(-1, x.carry(0, 2), "carry(0, 2)");
        due.is(-1, x.carry(-1, 0), "carry(-1, 0)");
        due.is(-1, x.carry(0, -1), "carry(0, -1)");
        due.is(-1, x.carry(0, 9), "carry(0, 9)");
        x.clip(1, 3);
        due.is(1, x.carry(1, 0), "a clipped one is carried");
        due.is(1, x.dusk(), "dusk()");
        due.is(-3, x.carry(0, 0), "carry of a lost one");
        due.is(-1, x.carry(0, 2), "carry of a lost one to no loft");
        due.is(9, x.dove(0, 3), "it stays lost");
    }

    private static void clip() {
        due.about("promise 9");
        CoinsAreDoves x = townOf("l00;l90;dd00;o1;h3;");
        due.is(0, x.clip(0, 9), "clip(0, 9)");
        due.is(9, x.clip(0, 2), "clip(0, 2)");
        due.is(-1, x.clip(1, 2), "clip(1, 2)");
        due.is(-1, x.clip(-1, -2), "clip(-1, -2)");
        due.is(-1, x.clip(8, 10), "clip(8, 10)");
        due.is(-4, x.clip(0, -1), "clip(0, -1)");
        due.is(-6, x.clip(0, 10), "clip(0, 10)");
        due.is(2, x.dove(0, 4), "dove(0, 4)");
        due.is(2, x.clip(0, 0), "clip(0, 0)");
        x.carry(0, 1);
        x.dusk();
        due.is(0, x.clip(0, 4), "clip of a lost one");
        due.is(4, x.dove(0, 4), "dove(0, 4) of a lost one");
    }

    private static void go() {
        due.about("promise 10");
        CoinsAreDoves x = townOf("l00;l90;dd00;do07;ds10;dy03;o1;");
        x.hawk(0);
        for (int dove = 0; dove < 4; dove++) {
            x.carry(dove, 1);
        }
        due.is(0, x.go(0), "a dove flies home, no hawk");
        due.is(0, x.dove(0, 3), "dove(0, 3)");
        due.is(0, x.go(0), "a dove at home");
        due.is(1, x.go(1), "an old one of age 7 stays");
        due.is(0, x.go(2), "a stray flies, and from a shut loft, too");
        due.is(1, x.go(2), "and back");
        due.is(1, x.go(3), "a young one too far from home stays");
        due.is(0, x.count(2), "no dusk goes by");
        due.is(-1, x.go(4), "go(4)");
        due.is(-1, x.go(-1), "go(-1)");
        x.clip(1, 1);
        due.is(-3, x.go(1), "go of a clipped one");
        due.is(1, x.dusk(), "the stray is lost");
        due.is(1, x.go(1), "it is not clipped any more");
        due.is(-3, x.go(2), "go of a lost one");
        due.is(2, x.count(13), "count(13)");
    }

    private static void dusk() {
        due.about("promise 11");
        CoinsAreDoves x = townOf("l00;l30;l33;dd00;dd00;ds10;");
        x.carry(0, 1);
        x.carry(1, 2);
        due.is(0, x.dusk(), "dusk() of shut lofts");
        due.is(1, x.dove(0, 3), "none flies from a shut loft");
        due.is(1, x.count(2), "count(2)");
        x.open(1, 1);
        due.is(0, x.dusk(), "dusk()");
        due.is(0, x.dove(0, 3), "it flies from an open one");
        due.is(2, x.dove(1, 3), "it stays in a shut one");
        due.is(0, x.dove(2, 3), "a stray flies to the nearest");
        x.open(0, 1);
        due.is(0, x.dusk(), "dusk()");
        due.is(1, x.dove(2, 3), "and from there to the nearest");
        due.is(0, x.dove(0, 3), "a dove stays at home");
        due.is(3, x.count(2), "count(2)");
        due.is(0, x.dusk(), "a stray flies but once in a dusk");
        due.is(0, x.dove(2, 3), "and back");
        due.is(0, new CoinsAreDoves().dusk(), "dusk() of no town");
    }

    private static void duskAndTheHawk() {
        due.about("DUSK, the hawk");
        CoinsAreDoves x = townOf("l00;l30;l04;dd00;dd00;dd00;dd00;o0;o1;o2;h3;");
        x.carry(0, 1);
        x.carry(1, 2);
        x.carry(2, 2);
        x.clip(2, 1);
        due.is(1, x.dusk(), "dusk()");
        due.is(0, x.dove(0, 3), "a way as long as the hawk's");
        due.is(9, x.dove(1, 3), "a way longer than the hawk's");
        due.is(2, x.dove(2, 3), "a clipped one");
        due.is(0, x.dove(3, 3), "one at home");
        due.is(1, x.dusk(), "dusk()");
        due.is(9, x.dove(2, 3), "clipped no more");
        due.is(0, x.dusk(), "none more is lost");
        due.is(2, x.count(3), "count(3)");
        x = townOf("l00;l00;ds00;dd00;o0;o1;h0;");
        x.carry(1, 1);
        due.is(0, x.dusk(), "no way is longer than no hawk's");
        due.is(1, x.dove(0, 3), "the stray");
        due.is(0, x.dove(1, 3), "the dove");
    }

    private static void duskAndEggs() {
        due.about("DUSK, eggs");
        CoinsAreDoves x = townOf("l00;l30;db00;db01;db16;db17;db02;");
        x.carry(4, 1);
        x.dusk();
        // Breeder 1 in loft 0, breeder 2 in loft 1; 0 too young, 3 too old, 4 not at home.
        due.is(7, x.count(1), "count(1) behind dusk 0");
        due.is(0, x.dove(5, 1), "home of the first egg");
        due.is(1, x.dove(6, 1), "home of the second egg");
        due.is(0, x.dove(5, 0), "kind of an egg");
        due.is(0, x.dove(5, 2), "age of an egg");
        due.is(0, x.dove(5, 3), "an egg is at home");
        due.is(1, x.dove(6, 3), "an egg is at home");
        due.is(0, x.dove(5, 4), "an egg is not clipped");
        due.is(2, x.dove(1, 2), "age of breeder 1");
        x.dusk();
        x.dusk();
        due.is(7, x.count(1), "no eggs at dusks 1, 2");
        x.carry(4, 0);
        x.dusk();
        // Breeders 0 (1 by now), 1 and 4 would lay at dusk 3; there is room for one.
        due.is(8, x.count(1), "no room for more than 8");
        due.is(0, x.dove(7, 1), "by numbers");
        due.is(0, x.dove(7, 2), "age of an egg of dusk 3");
        x = townOf("l00;l30;db01;do00;o1;");
        x.carry(0, 1);
        x.clip(1, 1);
        x.dusk();
        due.is(3, x.count(1), "one that flies home lays there");
        x = townOf("l00;db01;");
        x.clip(0, 9);
        x.dusk();
        due.is(2, x.count(1), "a clipped one lays");
        x = townOf("l00;l30;db01;o1;h2;");
        x.carry(0, 1);
        due.is(1, x.dusk(), "a breeder is lost");
        due.is(1, x.count(1), "a lost one does not lay");
        x = townOf("l00;db06;");
        x.dusk();
        due.is(2, x.count(1), "of age 6 it lays, then is older");
        due.is(7, x.dove(0, 2), "age 7");
        for (int i = 0; i < 3; i++) {
            x.dusk();
        }
        due.is(2, x.count(1), "of age 7 it does not");
    }

    private static void duskAndYears() {
        due.about("DUSK, years");
        CoinsAreDoves x = townOf("l00;l90;dd00;do09;dd14;o0;h1;");
        x.carry(2, 0);
        x.dusk();
        due.is(1, x.dove(0, 2), "age behind dusk 0");
        due.is(9, x.dove(1, 2), "9 at most");
        due.is(9, x.dove(2, 3), "lost in it");
        due.is(5, x.dove(2, 2), "one lost in it was there ahead of it");
        for (int i = 1; i <= 4; i++) {
            x.dusk();
            due.is(1, x.dove(0, 2), "age behind dusk " + i);
        }
        x.dusk();
        due.is(2, x.dove(0, 2), "age behind dusk 5");
        x = townOf("l00;l40;dy01;o1;");
        x.carry(0, 1);
        x.dusk();
        due.is(1, x.dove(0, 3), "of age 1 it can not fly a way of 4");
        x.dusk();
        due.is(0, x.dove(0, 3), "of age 2 it can");
    }

    private static void duskAndClippedWings() {
        due.about("DUSK, clipped wings");
        CoinsAreDoves x = townOf("l00;l90;dd00;dd00;o1;h9;");
        x.carry(0, 1);
        x.clip(0, 2);
        x.clip(1, 1);
        x.dusk();
        due.is(1, x.dove(0, 4), "dove(0, 4)");
        due.is(0, x.dove(1, 4), "dove(1, 4)");
        x.dusk();
        due.is(1, x.dove(0, 3), "clipped for two dusks");
        due.is(0, x.dove(0, 4), "dove(0, 4)");
        due.is(0, x.dove(1, 4), "not below 0");
        x.dusk();
        due.is(0, x.dove(0, 3), "in the third it flies");
        x.hawk(0);
        x.carry(0, 1);
        due.is(1, x.dusk(), "dusk()");
        x.clip(0, 5);
        x.dusk();
        due.is(4, x.dove(0, 4), "dove(0, 4) of a lost one");
    }

    private static void lastDusk() {
        due.about("promise 11, the last dusk");
        CoinsAreDoves x = new CoinsAreDoves();
        for (int i = 0; i < 999; i++) {
            x.dusk();
        }
        due.is(999, x.count(2), "count(2)");
        due.is(-6, x.dusk(), "dusk() at 999");
        due.is(999, x.count(2), "count(2) behind it");
    }

    private static void way() {
        due.about("promise 12");
        CoinsAreDoves x = townOf("l00;l99;l37;");
        due.is(18, x.way(0, 1), "way(0, 1)");
        due.is(18, x.way(1, 0), "way(1, 0)");
        due.is(10, x.way(0, 2), "way(0, 2)");
        due.is(8, x.way(2, 1), "way(2, 1)");
        due.is(0, x.way(2, 2), "way(2, 2)");
        due.is(-1, x.way(3, 0), "way(3, 0)");
        due.is(-1, x.way(0, 3), "way(0, 3)");
        due.is(-1, x.way(-1, 0), "way(-1, 0)");
        due.is(-1, x.way(0, MIN), "way(0, MIN)");
        due.is(4, x.count(11), "count(11)");
    }

    private static void purse() {
        due.about("promise 13");
        CoinsAreDoves x = townOf("l00;l30;dd00;do00;ds10;o1;");
        x.carry(0, 1);
        x.carry(1, 1);
        due.is(12, x.purse(1, 0), "purse(1, 0)");
        due.is(0, x.purse(1, 1), "purse(1, 1)");
        due.is(0, x.purse(0, 0), "purse(0, 0)");
        // Behind dusk 0 the old one is of age 1.
        due.is(11, x.purse(0, 1), "purse(0, 1)");
        due.is(11, x.purse(0, 5), "purse(0, 5)");
        due.is(10, x.purse(0, 6), "purse(0, 6)");
        due.is(8, x.purse(0, 40), "purse(0, 40)");
        due.is(-1, x.purse(2, 0), "purse(2, 0)");
        due.is(-1, x.purse(-1, -1), "purse(-1, -1)");
        due.is(-1, x.purse(2, 41), "purse(2, 41)");
        due.is(-4, x.purse(0, -1), "purse(0, -1)");
        due.is(-6, x.purse(0, 41), "purse(0, 41)");
        due.is(12, x.purse(1, 0), "purse(1, 0) again");
        due.is(0, townOf("l00;").purse(0, 40), "purse of none");
    }

    private static void letting() {
        due.about("promise 14");
        CoinsAreDoves x = townOf("l00;l90;l05;dd00;do05;db00;ds10;dt29;h0;");
        x.carry(0, 1);
        x.carry(1, 1);
        x.carry(2, 2);
        x.clip(2, 9);
        // All windows are shut: 0 and 2 fly home to 0, the old one stays, the stray flies to 0, the tame one stays.
        due.is(15, x.letting(0), "letting(0)");
        due.is(-7, x.letting(1), "letting(1)");
        due.is(-8, x.letting(2), "letting(2)");
        due.is(1, x.dove(0, 3), "nothing is changed");
        due.is(9, x.dove(2, 4), "nothing is changed");
        due.is(1000000001, x.letting(3), "letting(3)");
        due.is(1000000001, x.letting(-1), "letting(-1)");
        due.is(2, x.count(11), "count(11)");
        x.open(1, 1);
        due.is(2, x.dusk(), "0 and the stray are lost");
        due.is(8, x.letting(0), "letting(0) with lost ones");
        due.is(0, x.letting(1), "letting(1) with lost ones");
    }

    private static void stays() {
        due.about("promise 15");
        CoinsAreDoves x = townOf("l00;l30;dd00;do00;ds00;dd10;");
        due.is(0, x.stays(0, 1, 0), "stays of no set");
        due.is(5, x.stays(1, 1, 0), "stays(1, 1, 0)");
        due.is(12, x.stays(7, 1, 0), "stays(7, 1, 0)");
        due.is(11, x.stays(7, 1, 1), "stays(7, 1, 1)");
        due.is(5, x.stays(8, 1, 40), "stays of one that is there, and at home");
        due.is(10, x.stays(9, 1, 3), "stays of doves of two lofts");
        x.open(1, 1);
        // Home fly the dove, the old one (at dusk 0 of age 0) and the stray; the dove of loft 1 stays.
        due.is(0, x.stays(7, 1, 1), "stays(7, 1, 1) open");
        due.is(5, x.stays(15, 1, 1), "stays(15, 1, 1) open");
        x.clip(0, 1);
        due.is(5, x.stays(7, 1, 1), "a clipped one stays");
        due.is(0, x.stays(7, 1, 2), "but not for two dusks");
        due.is(-1, x.stays(16, 1, 0), "a bit of none");
        due.is(-1, x.stays(-1, 1, 0), "all bits");
        due.is(-1, x.stays(MIN, 1, 0), "the sign's bit");
        due.is(-1, x.stays(1, 2, 0), "no such loft");
        due.is(-1, x.stays(1, -1, -1), "no such loft, -1");
        due.is(-4, x.stays(1, 1, -1), "stays(1, 1, -1)");
        due.is(-6, x.stays(1, 1, 41), "stays(1, 1, 41)");
        due.is(-1, x.stays(16, 1, 41), "stays(16, 1, 41)");
        x.hawk(0);
        x.carry(1, 1);
        due.is(1, x.dusk(), "the old one is lost");
        due.is(-1, x.stays(2, 1, 0), "a bit of a lost one");
        due.is(-1, x.stays(3, 1, 0), "a bit of a lost one, too");
        due.is(5, x.stays(1, 1, 0), "another's");
        // A breeder's egg is not of the set.
        due.is(8, townOf("l00;l30;db11;").stays(1, 1, 40), "stays of a breeder");
        due.is(8, townOf("l00;l30;db01;").stays(1, 1, 40), "stays of a breeder away from home");
    }

    private static void cheapest() {
        due.about("promise 16");
        CoinsAreDoves x = townOf("l00;l30;dd00;do00;ds00;dy00;", "dt00;dd10;");
        // In loft 0: 5, 5, 2, 3, 6.
        due.is(0, x.cheapest(0, 1, 0, 0), "sum 0");
        due.is(4, x.cheapest(0, 1, 1, 0), "sum 1");
        due.is(8, x.cheapest(0, 1, 3, 0), "sum 3");
        due.is(1, x.cheapest(0, 1, 5, 0), "sum 5: of 1, 2, 12 the least bits");
        due.is(16, x.cheapest(0, 1, 6, 0), "sum 6");
        due.is(5, x.cheapest(0, 1, 7, 0), "sum 7: of 5, 6 the least bits");
        due.is(31, x.cheapest(0, 1, 21, 0), "sum of all");
        due.is(-9, x.cheapest(0, 1, 22, 0), "too much");
        due.is(-9, x.cheapest(0, 1, 999, 0), "too much by far");
        due.is(32, x.cheapest(1, 0, 5, 0), "from the other loft");
        // The old one is worth 4 behind one dusk.
        due.is(-9, x.cheapest(0, 1, 21, 1), "worth as it is then");
        due.is(31, x.cheapest(0, 1, 20, 1), "worth as it is then");
        x.open(1, 1);
        // From the open loft fly home the dove, the old one, the stray; the young one (of age 0 at dusk 0) can not,
        // the tame one neither.
        due.is(8, x.cheapest(0, 1, 1, 1), "only the ones that stay");
        due.is(24, x.cheapest(0, 1, 9, 1), "only the ones that stay");
        due.is(-9, x.cheapest(0, 1, 10, 1), "only the ones that stay");
        x.clip(0, 2);
        due.is(1, x.cheapest(0, 1, 4, 2), "a clipped one stays");
        due.is(-1, x.cheapest(0, 0, 0, 0), "one twice");
        due.is(-1, x.cheapest(2, 0, 0, 0), "cheapest(2, 0, 0, 0)");
        due.is(-1, x.cheapest(0, 2, -1, 0), "cheapest(0, 2, -1, 0)");
        due.is(-1, x.cheapest(-1, 0, 0, 41), "cheapest(-1, 0, 0, 41)");
        due.is(-4, x.cheapest(0, 1, -1, 0), "sum -1");
        due.is(-4, x.cheapest(0, 1, 0, -1), "n -1");
        due.is(-4, x.cheapest(0, 1, 1000, -1), "sum 1000, n -1");
        due.is(-4, x.cheapest(0, 1, -1, 41), "sum -1, n 41");
        due.is(-6, x.cheapest(0, 1, 1000, 0), "sum 1000");
        due.is(-6, x.cheapest(0, 1, 0, 41), "n 41");
        due.is(-9, x.cheapest(0, 1, 999, 40), "sum 999, n 40");
        // Carried to its home a breeder lays, but an egg is of no set.
        due.is(-9, townOf("l00;l30;db11;").cheapest(0, 1, 9, 40), "a breeder's egg is not counted");
        // The least VALUE now, not then: the old one of age 0 is worth 5 now and 1 then, the stray 2 and 2.
        due.is(2, townOf("l00;l30;do00;ds00;").cheapest(0, 1, 1, 40), "the least now");
    }

    private static void near() {
        due.about("promise 17");
        CoinsAreDoves x = townOf("l00;l20;l40;l99;dd00;dd20;db30;dd30;");
        // 0 - 1 - 2 by ways of 2; 3 is 14 from 2.
        due.is(4, x.near(0, 0), "near(0, 0)");
        due.is(4, x.near(1, 0), "near(1, 0)");
        due.is(2, x.near(2, 0), "near(2, 0): one by another");
        due.is(2, x.near(13, 0), "near(13, 0)");
        due.is(1, x.near(14, 0), "near(14, 0)");
        due.is(1, x.near(18, 0), "near(18, 0)");
        due.is(3, x.near(2, 1), "near(2, 1)");
        due.is(3, x.near(0, 1), "near(0, 1)");
        due.is(0, x.near(14, 1), "near(14, 1)");
        x.carry(3, 1);
        // 0 .. 2 have 15 together, 3 has 8.
        due.is(0, x.near(2, 1), "near(2, 1) carried");
        due.is(3, x.near(0, 1), "near(0, 1) carried");
        x.carry(2, 2);
        // 5, 5, 13, 0.
        due.is(2, x.near(0, 1), "near(0, 1) carried on");
        x.carry(2, 3);
        x.carry(0, 3);
        x.carry(1, 3);
        x.carry(3, 3);
        due.is(3, x.near(2, 1), "all in 3");
        due.is(0, townOf("l00;l50;l90;").near(3, 1), "of several the least loft");
        due.is(1, townOf("l00;l50;l90;dd10;dd20;").near(3, 1), "of several richest the least loft");
        due.is(1, townOf("l99;l00;l98;l01;dd10;dd30;dd00;").near(1, 1), "the least loft of it");
        // The loft of the least number is the link: 1 - 0 - 2; and a chain told backwards.
        due.is(1, townOf("l50;l30;l70;").near(2, 0), "a link in the middle");
        due.is(1, townOf("l90;l00;l60;l30;").near(3, 0), "a chain");
        due.is(-4, x.near(-1, 0), "near(-1, 0)");
        due.is(-4, x.near(-1, 2), "near(-1, 2)");
        due.is(-6, x.near(19, 0), "near(19, 0)");
        due.is(-6, x.near(19, -1), "near(19, -1)");
        due.is(-2, x.near(0, 2), "near(0, 2)");
        due.is(-2, x.near(0, -1), "near(0, -1)");
        due.is(0, new CoinsAreDoves().near(0, 0), "no purses");
        due.is(-9, new CoinsAreDoves().near(0, 1), "no richest");
    }

    private static void whose() {
        due.about("promise 18");
        CoinsAreDoves x = townOf("l90;l00;l60;l30;l99;l99;");
        due.is(0, x.whose(1, 3), "whose(1, 3)");
        due.is(0, x.whose(0, 3), "whose(0, 3)");
        due.is(1, x.whose(1, 2), "whose(1, 2)");
        due.is(4, x.whose(5, 0), "whose(5, 0)");
        due.is(4, x.whose(4, 3), "whose(4, 3)");
        due.is(0, x.whose(5, 9), "whose(5, 9)");
        due.is(4, x.whose(5, 8), "whose(5, 8)");
        due.is(-1, x.whose(6, 3), "whose(6, 3)");
        due.is(-1, x.whose(-1, -1), "whose(-1, -1)");
        due.is(-1, x.whose(6, 19), "whose(6, 19)");
        due.is(-4, x.whose(0, -1), "whose(0, -1)");
        due.is(-6, x.whose(0, 19), "whose(0, 19)");
        due.is(0, x.whose(5, 18), "whose(5, 18)");
    }

    private static void run() {
        due.about("promise 19");
        CoinsAreDoves x = townOf("l00;l30;do00;dd00;");
        // 10, then 9 behind dusk 0, 8 behind dusk 5, 7 behind dusk 10, 6 behind dusk 15.
        due.is(0, x.run(0, 11), "run(0, 11)");
        due.is(1, x.run(0, 10), "run(0, 10)");
        due.is(6, x.run(0, 9), "run(0, 9)");
        due.is(11, x.run(0, 8), "run(0, 8)");
        due.is(16, x.run(0, 7), "run(0, 7)");
        due.is(-9, x.run(0, 6), "run(0, 6)");
        due.is(-9, x.run(0, 0), "run(0, 0)");
        due.is(0, x.run(1, 1), "run(1, 1)");
        due.is(-9, x.run(1, 0), "run(1, 0)");
        due.is(0, x.run(0, 999), "run(0, 999)");
        due.is(-1, x.run(2, 0), "run(2, 0)");
        due.is(-1, x.run(2, -1), "run(2, -1)");
        due.is(-1, x.run(-1, 1000), "run(-1, 1000)");
        due.is(-4, x.run(0, -1), "run(0, -1)");
        due.is(-6, x.run(0, 1000), "run(0, 1000)");
        due.is(16, x.run(0, 7), "run(0, 7) again");
        x = townOf("l00;l90;dy00;o1;");
        x.carry(0, 1);
        // A way of 9 asks for age 5: it is 5 behind dusk 20, and flies in dusk 21.
        due.is(22, x.run(1, 1), "run(1, 1) of a young one");
    }

    private static void bestOpen() {
        due.about("promise 20");
        CoinsAreDoves x = townOf("l00;l30;l06;dd00;dd00;dd10;");
        x.carry(0, 1);
        x.carry(1, 2);
        x.carry(2, 2);
        due.is(0, x.bestOpen(0, 0), "bestOpen(0, 0)");
        due.is(6, x.bestOpen(0, 1), "bestOpen(0, 1)");
        due.is(4, x.bestOpen(1, 1), "bestOpen(1, 1)");
        due.is(0, x.bestOpen(2, 40), "bestOpen(2, 40)");
        x.open(2, 1);
        due.is(0, x.bestOpen(2, 40), "all others shut");
        x.hawk(5);
        due.is(2, x.bestOpen(0, 1), "a hawk");
        due.is(0, x.bestOpen(1, 1), "a hawk");
        x.clip(0, 2);
        due.is(0, x.bestOpen(0, 2), "a clipped one");
        due.is(2, x.bestOpen(0, 3), "a clipped one by then");
        due.is(4, x.count(5), "nothing is changed");
        due.is(-1, x.bestOpen(3, 0), "bestOpen(3, 0)");
        due.is(-1, x.bestOpen(-1, -1), "bestOpen(-1, -1)");
        due.is(-4, x.bestOpen(0, -1), "bestOpen(0, -1)");
        due.is(-6, x.bestOpen(0, 41), "bestOpen(0, 41)");
        due.is(32, townOf("l00;l10;l20;l30;l40;l50;ds50;").bestOpen(4, 1), "the last loft");
    }

    private static void homing() {
        due.about("promise 21");
        CoinsAreDoves x = townOf("l00;l90;dd00;dy00;do05;ds10;dd00;o1;");
        due.is(0, x.homing(0), "at home");
        for (int dove = 0; dove < 3; dove++) {
            x.carry(dove, 1);
        }
        x.carry(3, 0);
        due.is(1, x.homing(0), "a dove");
        due.is(22, x.homing(1), "a young one of age 0, a way of 9");
        due.is(-9, x.homing(2), "an old one");
        due.is(-9, x.homing(3), "a stray in a shut loft");
        x.clip(0, 9);
        due.is(10, x.homing(0), "a clipped one");
        x.open(1, 0);
        due.is(-9, x.homing(0), "in a shut loft");
        x.open(1, 1);
        x.hawk(8);
        due.is(-9, x.homing(0), "one that is going to be lost");
        x.clip(0, 0);
        x.dusk();
        due.is(-9, x.homing(0), "a lost one");
        due.is(-1, x.homing(5), "homing(5)");
        due.is(-1, x.homing(-1), "homing(-1)");
        x = townOf("l00;l91;l99;ds00;o0;o1;o2;");
        x.carry(0, 2);
        due.is(-9, x.homing(0), "two lofts to and fro");
        due.is(0, townOf("l00;ds00;o0;").homing(0), "a stray at home now");
        // Ages come behind dusks 0, 5, .., 35: of age 8 behind 36 dusks, a way of 16 in dusk 36.
        x = townOf("l00;l97;dy00;o1;");
        x.carry(0, 1);
        due.is(37, x.homing(0), "the last ones");
        x = townOf("l00;l98;dy00;o1;");
        x.carry(0, 1);
        due.is(-9, x.homing(0), "too far for 40 dusks");
        x = youngOneAwayAtDusk(2);
        due.is(40, x.homing(0), "the 40th dusk is looked at");
        due.is(40, x.run(1, 1), "the 40th dusk is looked at in a run, too");
        x = youngOneAwayAtDusk(1);
        due.is(-9, x.homing(0), "the 41st is not");
        due.is(-9, x.run(1, 1), "the 41st is not, in a run neither");
    }

    /** A way of 17 asks for age 9, that comes behind dusk 40. */
    private static CoinsAreDoves youngOneAwayAtDusk(int dusks) {
        CoinsAreDoves x = townOf("l00;l98;dy00;o1;");
        for (int i = 0; i < dusks; i++) {
            x.dusk();
        }
        x.carry(0, 1);
        return x;
    }

    private static void spare() {
        due.about("promise 22");
        CoinsAreDoves x = townOf("l00;l30;l99;dd00;dd00;o1;h1;");
        due.is(0, x.spare(40), "all at home");
        x.carry(0, 1);
        due.is(0, x.spare(0), "spare(0)");
        due.is(3, x.spare(1), "spare(1)");
        x.carry(1, 2);
        due.is(3, x.spare(40), "a shut loft");
        x.open(2, 1);
        due.is(18, x.spare(40), "spare(40)");
        x.clip(1, 2);
        due.is(3, x.spare(2), "a clipped one");
        due.is(18, x.spare(3), "a clipped one by then");
        due.is(1, x.count(4), "nothing is changed");
        due.is(1, x.dusk(), "one is lost");
        due.is(0, x.spare(1), "none more");
        due.is(-4, x.spare(-1), "spare(-1)");
        due.is(-6, x.spare(41), "spare(41)");
        due.is(0, new CoinsAreDoves().spare(40), "no doves");
    }

    private static void row() {
        due.about("promise 23");
        CoinsAreDoves x = new CoinsAreDoves();
        due.is(-4, x.row(-1), "row(-1)");
        due.is(-6, x.row(10), "row(10)");
        for (int i = 1; i <= 8; i++) {
            due.is(i, x.row(i == 1 ? 0 : 9), "row no. " + i);
        }
        due.is(-6, x.row(0), "row no. 9");
        due.is(-4, x.row(-1), "row(-1) when full");
        due.is(8, x.count(7), "count(7)");
        due.is(0, x.judge(), "judge()");
        due.is(0, x.count(7), "count(7) behind it");
        due.is(1, x.row(4), "row(4)");
    }

    private static void tellRow(CoinsAreDoves x, int... lofts) {
        for (int loft : lofts) {
            x.row(loft);
        }
    }

    private static void paid() {
        due.about("promise 24");
        CoinsAreDoves x = townOf("l00;l30;l06;dd00;ds10;o2;");
        tellRow(x, 1, 1);
        // Only dove 0 carried to loft 1 (shut, so it stays): the row comes true.
        due.is(1, x.paid(0), "paid(0)");
        due.is(1, x.paid(1), "paid(1)");
        due.is(2, x.count(7), "the row stays");
        x.judge();
        tellRow(x, 0, 0);
        // The stray carried to loft 0; or to loft 2, that is open, from where it flies to loft 0.
        due.is(2, x.paid(0), "paid(0) of two ways");
        due.is(10, x.paid(1), "paid(1) of two ways");
        x.judge();
        tellRow(x, 0, 1);
        // As all are now: only one that flies back by itself may be carried. 0 to loft 2, and home.
        due.is(1, x.paid(0), "paid(0) of a carrying that is undone");
        due.is(2, x.paid(1), "paid(1) of a carrying that is undone");
        due.is(-2, x.paid(2), "paid(2)");
        due.is(-2, x.paid(-1), "paid(-1)");
        x.row(1);
        due.is(-3, x.paid(0), "a row too long");
        due.is(-2, x.paid(2), "-2 is told first");
        x.judge();
        x.row(0);
        due.is(-3, x.paid(1), "a row too short");
        x.judge();
        due.is(-3, x.paid(1), "no row");
        tellRow(x, 2, 2);
        due.is(0, x.paid(0), "none");
        due.is(-9, x.paid(1), "none");
        x = townOf("l00;l90;dd00;dd00;o1;h3;");
        tellRow(x, 9, 0);
        due.is(1, x.paid(0), "one that is lost behind the dusk");
        due.is(1, x.paid(1), "one that is lost behind the dusk");
        x.carry(0, 1);
        x.dusk();
        due.is(9, x.dove(0, 3), "a lost one");
        x.open(1, 0);
        x.judge();
        tellRow(x, 9, 1);
        due.is(1, x.paid(0), "a lost one is not carried");
        due.is(11, x.paid(1), "a lost one is not carried");
        x.judge();
        tellRow(x, 0, 0);
        due.is(0, x.paid(0), "a lost one can not be carried");
        x = townOf("l00;l30;db01;dd00;");
        tellRow(x, 0, 1);
        due.is(1, x.paid(0), "an egg is not asked for");
        due.is(11, x.paid(1), "an egg is not asked for");
        due.is(2, x.count(1), "nothing is changed");
        due.is(0, new CoinsAreDoves().paid(0), "no doves");
        due.is(-9, new CoinsAreDoves().paid(1), "no doves");
    }

    private static void judge() {
        due.about("promise 25");
        CoinsAreDoves x = townOf("l00;l30;dd00;dd10;dd00;o1;h2;");
        due.is(0, x.judge(), "no row");
        tellRow(x, 0, 1, 0);
        due.is(-9, x.judge(), "all so");
        due.is(0, x.count(7), "the row has none");
        tellRow(x, 0, 0, 0);
        due.is(1, x.judge(), "the second is not so");
        tellRow(x, 0, 1);
        due.is(2, x.judge(), "too short");
        tellRow(x, 1, 1);
        due.is(0, x.judge(), "too short, and not so ahead");
        tellRow(x, 0, 1, 0, 0, 0);
        due.is(3, x.judge(), "too long");
        tellRow(x, 0, 1, 9, 0, 0);
        due.is(2, x.judge(), "too long, and not so ahead");
        due.is(0, x.count(7), "the row has none");
        x.carry(0, 1);
        x.dusk();
        tellRow(x, 9, 1, 0);
        due.is(-9, x.judge(), "9 for a lost one");
        tellRow(x, 0, 1, 0);
        due.is(0, x.judge(), "no loft for a lost one");
        CoinsAreDoves none = new CoinsAreDoves();
        due.is(-9, none.judge(), "no row for no doves");
        none.row(0);
        due.is(0, none.judge(), "a row for no doves");
    }

    private static void seeds() {
        due.about("promise 26");
        // From seed 0: z is 1013904223, by 256 cut 3960563, modulo 4 is 3: both are open.
        CoinsAreDoves x = townOf("l00;l30;ds00;ds10;ds10;");
        due.is(4, x.seeds(1, 0, 0), "seeds(1, 0, 0)");
        due.is(2, x.seeds(1, 0, 1), "seeds(1, 0, 1)");
        due.is(2, x.purse(0, 0), "nothing is changed");
        due.is(0, x.count(5), "nothing is changed");
        due.is(0, x.count(2), "nothing is changed");
        int[] seeds = {0, 1, -1, 7, 12345, MIN, MAX, -1013904223};
        for (int seed : seeds) {
            for (int n = 1; n <= 30; n++) {
                int z = seed;
                long at = 6;
                for (int i = 0; i < n; i++) {
                    z = (int) (1664525L * z + 1013904223L);
                    long open = (z & Long.parseLong("7fffffff", 16)) / 256 % 4;
                    long moved = 0;
                    for (int dove = 0; dove < 3; dove++) {
                        long is = at >> dove & 1;
                        moved |= (open >> is & 1) << dove;
                    }
                    at ^= moved;
                }
                due.is(2 * Long.bitCount(at), x.seeds(n, seed, 1), "seeds(" + n + ", " + seed + ", 1)");
            }
        }
        x.open(0, 1);
        due.is(4, x.seeds(1, 0, 0), "what is open now is not asked");
        due.is(-1, x.seeds(1, 0, 2), "seeds(1, 0, 2)");
        due.is(-1, x.seeds(0, 0, -1), "seeds(0, 0, -1)");
        due.is(-1, x.seeds(31, 0, 2), "seeds(31, 0, 2)");
        due.is(-4, x.seeds(0, 0, 0), "seeds(0, 0, 0)");
        due.is(-4, x.seeds(MIN, 0, 0), "seeds(MIN, 0, 0)");
        due.is(-6, x.seeds(31, 0, 0), "seeds(31, 0, 0)");
        due.is(5, townOf("l00;dd00;").seeds(30, 5, 0), "one loft");
    }

    private static void imageAndOn() {
        due.about("promises 27, 28");
        CoinsAreDoves x = new CoinsAreDoves();
        due.is(-3, x.on(), "on() without an image");
        Due.tell(x, "l00;l90;dd00;do12;o1;h5;");
        x.clip(1, 7);
        x.dusk();
        x.carry(1, 0);
        due.is(1, x.image(), "image()");
        x.carry(0, 1);
        due.is(1, x.dusk(), "dusk()");
        x.hawk(9);
        x.open(0, 1);
        x.clip(1, 0);
        x.go(1);
        Due.tell(x, "l55;dd20;");
        x.letter('h');
        x.row(0);
        due.is(1, x.on(), "on()");
        due.is(2, x.count(0), "lofts");
        due.is(2, x.count(1), "doves");
        due.is(1, x.count(2), "dusk");
        due.is(0, x.count(3), "lost ones");
        due.is(5, x.count(4), "hawk");
        due.is(2, x.count(5), "open");
        due.is(0, x.dove(0, 3), "where dove 0 is");
        due.is(0, x.dove(1, 3), "where dove 1 is");
        due.is(6, x.dove(1, 4), "clipped");
        due.is(3, x.dove(1, 2), "age");
        due.is(1, x.count(7), "the row stays");
        due.is(1, x.count(8), "the letters stay");
        due.is(1, x.count(13), "the refusals stay");
        x.dusk();
        x.dusk();
        due.is(1, x.on(), "on() again");
        due.is(6, x.dove(1, 4), "clipped, again");
        x.dusk();
        due.is(2, x.image(), "a new image");
        x.carry(0, 1);
        due.is(2, x.on(), "on() from it");
        due.is(5, x.dove(1, 4), "clipped, from it");
        due.is(0, x.dove(0, 3), "where dove 0 is, from it");
        x = new CoinsAreDoves();
        due.is(0, x.image(), "an image of nothing");
        Due.tell(x, "l00;dd00;");
        due.is(0, x.on(), "on() from nothing");
        due.is(0, x.count(0), "no lofts");
        due.is(1, Due.tell(x, "l77;"), "a town behind it");
        due.is(7, x.loft(0, 0), "its loft");
    }

    private static void count() {
        due.about("promise 29");
        CoinsAreDoves x = townOf("l00;l90;dd00;db00;o1;h4;");
        x.carry(0, 1);
        due.is(13, x.count(6), "count(6)");
        x.dusk();
        x.row(3);
        x.letter('x');
        x.letter('y');
        int[] counts = {2, 2, 1, 1, 4, 2, 8, 1, 2, -9, -9, 0, 0, 0, 0, 0, 0, -9};
        for (int what = 0; what < counts.length; what++) {
            due.is(counts[what], x.count(what), "count(" + what + ")");
        }
        x.loft(7, 7);
        x.letting(7);
        x.loft(0, 7);
        x.carry(0, 0);
        x.go(0);
        x.paid(0);
        for (int i = 0; i < 4; i++) {
            x.hawk(-1);
        }
        for (int i = 0; i < 5; i++) {
            x.hawk(21);
        }
        due.is(2, x.count(11), "count(11)");
        due.is(1, x.count(12), "count(12)");
        due.is(3, x.count(13), "count(13)");
        due.is(4, x.count(14), "count(14)");
        due.is(0, x.count(15), "count(15)");
        due.is(5, x.count(16), "count(16)");
        due.is(-9, x.count(17), "count(17)");
        due.is(-9, x.count(-1), "count(-1)");
        due.is(-9, x.count(9), "count(9)");
        due.is(-9, x.count(10), "count(10)");
        due.is(-9, x.count(MIN), "count(MIN)");
        due.is(-9, x.count(MIN + 10), "count(MIN + 10)");
        due.is(-9, x.count(MAX), "count(MAX)");
        due.is(1, x.count(12), "-9 is no refusal");
        // Answers of -9 are no refusals either.
        x.near(0, 1);
        x.run(0, 0);
        x.homing(0);
        x.judge();
        due.is(15, x.count(11) + x.count(12) + x.count(13) + x.count(14) + x.count(16), "all refusals");
    }

    private static void inMindNothingChanges() {
        due.about("in mind");
        CoinsAreDoves x = townOf("l00;l30;l99;db01;dy03;ds20;do20;", "dt22;o0;o1;h9;");
        x.carry(1, 1);
        x.carry(4, 0);
        x.clip(2, 3);
        x.row(0);
        String before = lookOf(x);
        for (int n = 0; n <= 40; n += 8) {
            for (int loft = 0; loft < 3; loft++) {
                x.purse(loft, n);
                x.letting(loft);
                x.stays(31, loft, n);
                x.cheapest(loft, (loft + 1) % 3, n, n);
                x.near(n / 4, 0);
                x.near(n / 4, 1);
                x.whose(loft, n / 4);
                x.run(loft, n);
                x.bestOpen(loft, n);
                x.homing(loft);
                x.spare(n);
                x.paid(0);
                x.seeds(n / 4 + 1, n, loft);
            }
        }
        due.isTrue(before.equals(lookOf(x)), before + " became " + lookOf(x));
    }

    private static String lookOf(CoinsAreDoves x) {
        StringBuilder look = new StringBuilder();
        for (int what = 0; what <= 8; what++) {
            look.append(x.count(what)).append(' ');
        }
        for (int dove = 0; dove < x.count(1); dove++) {
            for (int what = 0; what <= 6; what++) {
                look.append(x.dove(dove, what)).append(' ');
            }
        }
        return look.toString();
    }
}
