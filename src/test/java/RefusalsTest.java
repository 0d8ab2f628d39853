import java.util.ArrayList;
import java.util.List;
import java.util.function.Supplier;
import java.util.function.ToIntFunction;

/**
 * REFUSALS: "the call answers the number, the first that fits in the order in which it tells them; nothing changes but
 * how many there were". Each refused call is made on one of two objects that were made the same way; behind it both
 * must go on with the same answers, but for the one count.
 */
public final class RefusalsTest {
    private static final int MAX = Integer.MAX_VALUE;
    private static final int MIN = Integer.MIN_VALUE;
    private static final int LETTING_NOBODY = 1000000001;
    private static final int NO_REFUSAL = 0;
    private static final Due due = new Due();

    private static Supplier<CoinsAreDoves> maker;

    public static void main(String[] args) {
        maker = CoinsAreDoves::new;
        due.about("a new object");
        nobodyIsThere();
        numbersOutOfRange();
        whatever();
        maker = RefusalsTest::someTown;
        due.about("some town");
        lofts(2);
        doves(2);
        numbersOutOfRange();
        numbersBehindLofts();
        whatever();
        ordersOfRefusals(2, 2);
        answersThatAreNoRefusals();
        maker = RefusalsTest::fullTown;
        due.about("a full town");
        isFull(maker.get());
        lofts(6);
        doves(8);
        numbersOutOfRange();
        numbersBehindLofts();
        whatever();
        ordersOfRefusals(6, 8);
        noRoom();
        lostAndClipped();
        answersThatAreNoRefusals();
        maker = RefusalsTest::atTheLastDusk;
        due.about("the last dusk");
        refused(-6, "dusk()", x -> x.dusk());
        due.end();
    }

    private static CoinsAreDoves someTown() {
        CoinsAreDoves x = Due.townOf("l00;l70;dy03;db11;o1;h12;");
        x.carry(0, 1);
        x.letter('o');
        x.row(0);
        return x;
    }

    /** 6 LOFTS, 8 DOVES, 64 letters, 8 numbers in the ROW, an image; dove 0 is lost, dove 1 is CLIPPED. */
    private static CoinsAreDoves fullTown() {
        CoinsAreDoves x = Due.townOf("l00;l90;l99;l09;l55;l55;dd02;do13;dy22;ds31;db42;dt53;", "dd20;db01;o1;o4;h8;");
        x.carry(0, 1);
        x.dusk();
        x.image();
        x.clip(1, 7);
        x.carry(1, 4);
        x.carry(6, 3);
        for (char c : "o0;o1;o2;o3;o4;o5;h7;h8;h9;h10;o0;o1;o2;o3;o4;o5;h11;h12;h13;h4;".toCharArray()) {
            x.letter(c);
        }
        for (int v = 0; v < 8; v++) {
            x.row(v);
        }
        return x;
    }

    private static void isFull(CoinsAreDoves x) {
        int[] counts = {6, 8, 1, 1};
        for (int what = 0; what < counts.length; what++) {
            due.is(counts[what], x.count(what), "count(" + what + ") of the full town");
        }
        due.is(8, x.count(7), "numbers in the ROW of the full town");
        due.is(64, x.count(8), "letters of the full town");
        due.is(9, x.dove(0, 3), "dove 0 of the full town is lost");
        due.is(7, x.dove(1, 4), "dove 1 of the full town is clipped");
    }

    private static CoinsAreDoves atTheLastDusk() {
        CoinsAreDoves x = Due.townOf("l00;l10;dy00;ds10;o0;o1;");
        for (int i = 0; i < 999; i++) {
            x.dusk();
        }
        return x;
    }

    private static void refused(int answer, String call, ToIntFunction<CoinsAreDoves> what) {
        refused(answer, answer == LETTING_NOBODY ? -1 : answer, call, what);
    }

    private static void refused(int answer, int refusal, String call, ToIntFunction<CoinsAreDoves> what) {
        CoinsAreDoves x = maker.get();
        CoinsAreDoves twin = maker.get();
        due.is(answer, what.applyAsInt(x), call);
        for (int which = 1; which <= 6; which++) {
            int more = which == -refusal ? 1 : 0;
            due.is(twin.count(10 + which) + more, x.count(10 + which), "count(" + (10 + which) + ") behind " + call);
        }
        List<Integer> is = goneOn(x);
        List<Integer> was = goneOn(twin);
        due.isTrue(is.equals(was), call + " changed something: " + is + " where without it " + was);
    }

    private static void notRefused(int answer, String call, ToIntFunction<CoinsAreDoves> what) {
        refused(answer, NO_REFUSAL, call, what);
    }

    /** What an object answers from here on; at its end all it held has been asked for. */
    private static List<Integer> goneOn(CoinsAreDoves x) {
        List<Integer> answers = new ArrayList<>();
        look(x, answers);
        answers.add(x.paid(0));
        answers.add(x.judge());
        answers.add(x.town());
        look(x, answers);
        answers.add(x.dusk());
        look(x, answers);
        answers.add(x.on());
        look(x, answers);
        return answers;
    }

    private static void look(CoinsAreDoves x, List<Integer> answers) {
        for (int what = 0; what <= 8; what++) {
            answers.add(x.count(what));
        }
        for (int dove = 0; dove < x.count(1); dove++) {
            for (int what = 0; what <= 6; what++) {
                answers.add(x.dove(dove, what));
            }
        }
        for (int loft = 0; loft < x.count(0); loft++) {
            for (int what = 0; what <= 4; what++) {
                answers.add(x.loft(loft, what));
            }
            answers.add(x.purse(loft, 7));
        }
    }

    private static void nobodyIsThere() {
        refused(-1, "loft(0, 0)", x -> x.loft(0, 0));
        refused(-1, "dove(0, 0)", x -> x.dove(0, 0));
        refused(-1, "open(0, 1)", x -> x.open(0, 1));
        refused(-1, "carry(0, 0)", x -> x.carry(0, 0));
        refused(-1, "clip(0, 0)", x -> x.clip(0, 0));
        refused(-1, "go(0)", x -> x.go(0));
        refused(-1, "way(0, 0)", x -> x.way(0, 0));
        refused(-1, "purse(0, 0)", x -> x.purse(0, 0));
        refused(LETTING_NOBODY, "letting(0)", x -> x.letting(0));
        refused(-1, "stays(0, 0, 0)", x -> x.stays(0, 0, 0));
        refused(-1, "cheapest(0, 1, 0, 0)", x -> x.cheapest(0, 1, 0, 0));
        refused(-1, "whose(0, 0)", x -> x.whose(0, 0));
        refused(-1, "run(0, 0)", x -> x.run(0, 0));
        refused(-1, "bestOpen(0, 0)", x -> x.bestOpen(0, 0));
        refused(-1, "homing(0)", x -> x.homing(0));
        refused(-1, "seeds(1, 0, 0)", x -> x.seeds(1, 0, 0));
        refused(-3, "on()", x -> x.on());
    }

    /** "no such LOFT", wherever a call takes one. */
    private static void lofts(int lofts) {
        for (int no : new int[] {-1, lofts, 6, 9, 31, 32, 33, MIN, MAX}) {
            String with = " with loft " + no;
            refused(-1, "loft" + with, x -> x.loft(no, 0));
            refused(-1, "open" + with, x -> x.open(no, 1));
            refused(-1, "carry" + with, x -> x.carry(1, no));
            refused(-1, "way from" + with, x -> x.way(no, 0));
            refused(-1, "way to" + with, x -> x.way(0, no));
            refused(-1, "purse" + with, x -> x.purse(no, 0));
            refused(LETTING_NOBODY, "letting" + with, x -> x.letting(no));
            refused(-1, "stays" + with, x -> x.stays(2, no, 0));
            refused(-1, "cheapest from" + with, x -> x.cheapest(no, 0, 0, 0));
            refused(-1, "cheapest to" + with, x -> x.cheapest(0, no, 0, 0));
            refused(-1, "cheapest from and to" + with, x -> x.cheapest(no, no, 0, 0));
            refused(-1, "whose" + with, x -> x.whose(no, 0));
            refused(-1, "run" + with, x -> x.run(no, 0));
            refused(-1, "bestOpen" + with, x -> x.bestOpen(no, 0));
            refused(-1, "seeds" + with, x -> x.seeds(1, 0, no));
        }
        refused(-1, "cheapest of one twice, the first", x -> x.cheapest(0, 0, 0, 0));
        refused(-1, "cheapest of one twice, the last", x -> x.cheapest(lofts - 1, lofts - 1, 0, 0));
    }

    /** "no such DOVE", wherever a call takes one. */
    private static void doves(int doves) {
        for (int no : new int[] {-1, doves, 8, 9, 31, 32, 33, MIN, MAX}) {
            String with = " with dove " + no;
            refused(-1, "dove" + with, x -> x.dove(no, 0));
            refused(-1, "carry" + with, x -> x.carry(no, 0));
            refused(-1, "clip" + with, x -> x.clip(no, 0));
            refused(-1, "go" + with, x -> x.go(no));
            refused(-1, "homing" + with, x -> x.homing(no));
        }
        for (int bit = doves; bit < 32; bit++) {
            int bits = 1 << bit;
            refused(-1, "stays of bit " + bit, x -> x.stays(bits, 1, 0));
            refused(-1, "stays of bit " + bit + " and one that is there", x -> x.stays(bits | 2, 1, 0));
        }
        refused(-1, "stays of all bits", x -> x.stays(-1, 1, 0));
    }

    private static void numbersOutOfRange() {
        for (int below : new int[] {-1, -2, MIN}) {
            refused(-4, "letter(" + below + ")", x -> x.letter(below));
            refused(-4, "hawk(" + below + ")", x -> x.hawk(below));
            refused(-4, "near(" + below + ", 0)", x -> x.near(below, 0));
            refused(-4, "near(" + below + ", 1)", x -> x.near(below, 1));
            refused(-4, "spare(" + below + ")", x -> x.spare(below));
            refused(-4, "row(" + below + ")", x -> x.row(below));
        }
        for (int more : new int[] {1, 2, MAX}) {
            refused(-6, "letter, above by " + more, x -> x.letter(above(255, more)));
            refused(-6, "hawk, above by " + more, x -> x.hawk(above(20, more)));
            refused(-6, "near, above by " + more, x -> x.near(above(18, more), 0));
            refused(-6, "spare, above by " + more, x -> x.spare(above(40, more)));
            refused(-6, "row, above by " + more, x -> x.row(above(9, more)));
        }
    }

    private static int above(int most, int more) {
        return more == MAX ? MAX : most + more;
    }

    private static void numbersBehindLofts() {
        for (int below : new int[] {-1, -2, MIN}) {
            refused(-4, "clip(1, " + below + ")", x -> x.clip(1, below));
            refused(-4, "purse(0, " + below + ")", x -> x.purse(0, below));
            refused(-4, "stays(2, 0, " + below + ")", x -> x.stays(2, 0, below));
            refused(-4, "cheapest(0, 1, " + below + ", 0)", x -> x.cheapest(0, 1, below, 0));
            refused(-4, "cheapest(0, 1, 0, " + below + ")", x -> x.cheapest(0, 1, 0, below));
            refused(-4, "whose(0, " + below + ")", x -> x.whose(0, below));
            refused(-4, "run(0, " + below + ")", x -> x.run(0, below));
            refused(-4, "bestOpen(0, " + below + ")", x -> x.bestOpen(0, below));
            refused(-4, "seeds(" + below + ", 0, 0)", x -> x.seeds(below, 0, 0));
        }
        refused(-4, "seeds(0, 0, 0)", x -> x.seeds(0, 0, 0));
        for (int more : new int[] {1, 2, MAX}) {
            refused(-6, "clip, above by " + more, x -> x.clip(1, above(9, more)));
            refused(-6, "purse, above by " + more, x -> x.purse(0, above(40, more)));
            refused(-6, "stays, above by " + more, x -> x.stays(2, 0, above(40, more)));
            refused(-6, "cheapest, sum above by " + more, x -> x.cheapest(0, 1, above(999, more), 0));
            refused(-6, "cheapest, n above by " + more, x -> x.cheapest(0, 1, 0, above(40, more)));
            refused(-6, "whose, above by " + more, x -> x.whose(0, above(18, more)));
            refused(-6, "run, above by " + more, x -> x.run(0, above(999, more)));
            refused(-6, "bestOpen, above by " + more, x -> x.bestOpen(0, above(40, more)));
            refused(-6, "seeds, above by " + more, x -> x.seeds(above(30, more), 0, 0));
        }
        for (int what : new int[] {-1, 5, MIN, MAX}) {
            refused(-2, "loft(0, " + what + ")", x -> x.loft(0, what));
        }
        for (int what : new int[] {-1, 7, MIN, MAX}) {
            refused(-2, "dove(1, " + what + ")", x -> x.dove(1, what));
        }
        for (int what : new int[] {-1, 2, MIN, MAX}) {
            refused(-2, "open(0, " + what + ")", x -> x.open(0, what));
        }
    }

    /** The whats that need neither a LOFT nor a DOVE. */
    private static void whatever() {
        for (int what : new int[] {-1, 2, MIN, MAX}) {
            refused(-2, "near(0, " + what + ")", x -> x.near(0, what));
            refused(-2, "near(18, " + what + ")", x -> x.near(18, what));
            refused(-2, "paid(" + what + ")", x -> x.paid(what));
        }
        for (int what : new int[] {-1, 9, 10, 17, MIN, MIN + 9, MIN + 10, MIN + 11, MAX}) {
            notRefused(-9, "count(" + what + ")", x -> x.count(what));
        }
    }

    /** Calls to which more than one REFUSAL fits: the one that is told first is answered, and it alone is counted. */
    private static void ordersOfRefusals(int lofts, int doves) {
        refused(-1, "loft: -1 ahead of -2", x -> x.loft(lofts, 5));
        refused(-1, "dove: -1 ahead of -2", x -> x.dove(doves, 7));
        refused(-1, "open: -1 ahead of -2", x -> x.open(lofts, 2));
        refused(-1, "clip: -1 ahead of -4", x -> x.clip(doves, -1));
        refused(-1, "clip: -1 ahead of -6", x -> x.clip(doves, 10));
        refused(-1, "purse: -1 ahead of -4", x -> x.purse(lofts, -1));
        refused(-1, "purse: -1 ahead of -6", x -> x.purse(lofts, 41));
        refused(-1, "stays: -1 of a set ahead of -4", x -> x.stays(1 << doves, 0, -1));
        refused(-1, "stays: -1 of a set ahead of -6", x -> x.stays(1 << doves, 0, 41));
        refused(-1, "stays: -1 of a loft ahead of -4", x -> x.stays(2, lofts, -1));
        refused(-1, "stays: -1 of a loft ahead of -6", x -> x.stays(2, lofts, 41));
        refused(-1, "stays: -1 but once", x -> x.stays(1 << doves, lofts, 0));
        refused(-1, "cheapest: -1 ahead of -4", x -> x.cheapest(lofts, 0, -1, 0));
        refused(-1, "cheapest: -1 ahead of -6", x -> x.cheapest(0, lofts, 0, 41));
        refused(-1, "cheapest: -1 of one twice ahead of -4", x -> x.cheapest(1, 1, 0, -1));
        refused(-1, "cheapest: -1 of one twice ahead of -6", x -> x.cheapest(1, 1, 1000, 0));
        refused(-4, "cheapest: -4 of sum ahead of -6 of n", x -> x.cheapest(0, 1, -1, 41));
        refused(-4, "cheapest: -4 of n ahead of -6 of sum", x -> x.cheapest(0, 1, 1000, -1));
        refused(-4, "cheapest: -4 but once", x -> x.cheapest(0, 1, -1, -1));
        refused(-6, "cheapest: -6 but once", x -> x.cheapest(0, 1, 1000, 41));
        refused(-4, "near: -4 ahead of -2", x -> x.near(-1, 2));
        refused(-6, "near: -6 ahead of -2", x -> x.near(19, 2));
        refused(-1, "whose: -1 ahead of -4", x -> x.whose(lofts, -1));
        refused(-1, "whose: -1 ahead of -6", x -> x.whose(lofts, 19));
        refused(-1, "run: -1 ahead of -4", x -> x.run(lofts, -1));
        refused(-1, "run: -1 ahead of -6", x -> x.run(lofts, 1000));
        refused(-1, "bestOpen: -1 ahead of -4", x -> x.bestOpen(lofts, -1));
        refused(-1, "bestOpen: -1 ahead of -6", x -> x.bestOpen(lofts, 41));
        refused(-3, "paid(0) of a row too short", x -> paidWithRow(x, doves - 1, 0));
        refused(-3, "paid(1) of a row too short", x -> paidWithRow(x, doves - 1, 1));
        refused(-3, "paid(0) of no row", x -> paidWithRow(x, 0, 0));
        if (doves < 8) {
            refused(-3, "paid(0) of a row too long", x -> paidWithRow(x, doves + 1, 0));
            refused(-3, "paid(1) of the longest row", x -> paidWithRow(x, 8, 1));
        }
        refused(-2, "paid: -2 ahead of -3", x -> paidWithRow(x, 0, 2));
        refused(-1, "seeds: -1 ahead of -4", x -> x.seeds(0, 0, lofts));
        refused(-1, "seeds: -1 ahead of -6", x -> x.seeds(31, 0, lofts));
        refused(-1, "way: -1 but once", x -> x.way(lofts, lofts));
        refused(-1, "carry: -1 but once", x -> x.carry(doves, lofts));
    }

    /** Asks behind a row that is so long, then tells the row again that was there. */
    private static int paidWithRow(CoinsAreDoves x, int length, int what) {
        int was = x.count(7);
        x.judge();
        for (int v = 0; v < length; v++) {
            x.row(v);
        }
        int answer = x.paid(what);
        due.is(length, x.count(7), "the ROW stays behind paid(" + what + ")");
        x.judge();
        for (int v = 0; v < was; v++) {
            x.row(v);
        }
        return answer;
    }

    private static void noRoom() {
        refused(-6, "letter no. 65", x -> x.letter('o'));
        refused(-6, "letter no. 65, 0", x -> x.letter(0));
        refused(-6, "letter no. 65, 255", x -> x.letter(255));
        refused(-6, "letter(256) no. 65, but once", x -> x.letter(256));
        refused(-4, "letter(-1) no. 65: -4 ahead of -6", x -> x.letter(-1));
        refused(-6, "row no. 9", x -> x.row(0));
        refused(-6, "row no. 9, 9", x -> x.row(9));
        refused(-6, "row(10) no. 9, but once", x -> x.row(10));
        refused(-4, "row(-1) no. 9: -4 ahead of -6", x -> x.row(-1));
    }

    private static void lostAndClipped() {
        refused(-3, "carry of a lost one", x -> x.carry(0, 0));
        refused(-3, "carry of a lost one to where it was", x -> x.carry(0, 1));
        refused(-1, "carry of a lost one: -1 ahead of -3", x -> x.carry(0, 6));
        refused(-3, "go of a lost one", x -> x.go(0));
        refused(-3, "go of a clipped one", x -> x.go(1));
        refused(-1, "stays of a lost one", x -> x.stays(1, 0, 0));
        refused(-1, "stays of a lost one and others", x -> x.stays(255, 0, 0));
        refused(-1, "stays of a lost one: -1 ahead of -4", x -> x.stays(1, 0, -1));
        refused(-1, "stays of a lost one: -1 ahead of -6", x -> x.stays(1, 0, 41));
    }

    /** A FAULT is not counted ("nothing is counted"), and -9 is none of the REFUSALS. */
    private static void answersThatAreNoRefusals() {
        notRefused(-9, "run(0, 0)", x -> x.run(0, 0));
        notRefused(-9, "cheapest(0, 1, 999, 0)", x -> x.cheapest(0, 1, 999, 0));
        CoinsAreDoves x = maker.get();
        int[] counted = new int[6];
        for (int which = 0; which < 6; which++) {
            counted[which] = x.count(11 + which);
        }
        x.town();
        due.is(-1000, x.town(), "town() without letters");
        due.is(-1000, Due.tell(x, "?"), "town() of ?");
        due.is(-2000, Due.tell(x, "o9;"), "town() of o9;");
        while (x.count(7) > 0) {
            x.judge();
        }
        for (int dove = 0; dove < x.count(1); dove++) {
            x.row(x.dove(dove, 3));
        }
        due.is(-9, x.judge(), "judge() of a row that is so");
        for (int which = 0; which < 6; which++) {
            due.is(counted[which], x.count(11 + which), "count(" + (11 + which) + ") behind answers that are none");
        }
    }
}
