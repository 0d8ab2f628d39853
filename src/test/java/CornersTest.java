import java.util.function.Consumer;

/**
 * Every call with every choice of edges for its arguments (the least, the greatest, one beyond each, the ends of int),
 * in towns that are empty, small and full: no call throws, and each answer is the model's.
 */
public final class CornersTest {
    private static final int MAX = Integer.MAX_VALUE;
    private static final int MIN = Integer.MIN_VALUE;
    private static final int[] LOFT = {MIN, -1, 0, 1, 5, 6, 32, MAX};
    private static final int[] DOVE = {MIN, -1, 0, 1, 7, 8, 32, MAX};
    private static final int[] SET = {MIN, -1, 0, 1, 2, 3, 127, 128, 129, 255, 256, 1 << 16, MAX};
    private static final int[] WHAT = {MIN, -1, 0, 1, 2, 3, 4, 5, 6, 7, MAX};
    private static final int[] BEHIND = {MIN, -1, 0, 1, 3, 39, 40, 41, MAX};
    private static final int[] SEEDED = {MIN, -1, 0, 1, 2, 29, 30, 31, MAX};
    private static final int[] SEED = {MIN, MIN + 1, -1, 0, 1, 255, 256, MAX};
    private static final int[] NEAR = {MIN, -1, 0, 1, 2, 9, 17, 18, 19, MAX};
    private static final int[] SUM = {MIN, -1, 0, 1, 5, 8, 13, 998, 999, 1000, MAX};
    private static final int[] HAWK = {MIN, -1, 0, 1, 19, 20, 21, MAX, 9};
    private static final int[] DIGIT = {MIN, -1, 0, 1, 8, 9, 10, MAX, 3};
    private static final int[] LETTER = {MIN, -1, 0, 1, 254, 255, 256, MAX, 'l'};
    private static final int[] COUNT = {MIN, MIN + 10, MIN + 16, -1, 0, 1, 2, 3, 4, 5, 6, 7, 8, 9, 10, 11, 12, 13, 14,
        15, 16, 17, MAX};
    private static final String[] TOWNS = {"", "l55;", "l00;ds00;o0;", "l00;l99;", "l00;l30;db01;dy11;o0;o1;h2;",
        "l00;l20;dt03;do14;ds00;db15;o1;", "l00;l90;l99;l09;l50;l59;dd00;db10;dd20;db36;dy49;dt55;do04;ds59;",
        "l00;l11;l22;l33;l44;l55;ds00;ds10;ds20;dy38;dt49;ds50;h1;"};

    private static final Due due = new Due();
    private static CoinsAreDoves x;
    private static Model model;

    public static void main(String[] args) {
        for (String town : TOWNS) {
            for (int carried = 0; carried < 3; carried++) {
                due.about("town " + town + ", carried " + carried);
                begin(town, carried);
                looks();
                setsAndSums();
                changes();
                counts("at the end");
            }
        }
        due.end();
    }

    private static void both(Consumer<Model> inModel, Consumer<CoinsAreDoves> inClass) {
        inModel.accept(model);
        inClass.accept(x);
    }

    private static void begin(String town, int carried) {
        x = new CoinsAreDoves();
        model = new Model();
        for (char c : town.toCharArray()) {
            both(m -> m.letter(c), y -> y.letter(c));
        }
        due.is(model.town(), x.town(), "town()");
        for (int dove = 0; dove < 8 && carried > 0; dove++) {
            int which = dove;
            int loft = (dove * carried + carried) % Math.max(1, model.count(0));
            both(m -> m.carry(which, loft), y -> y.carry(which, loft));
        }
        for (int loft = 0; loft < 6 && carried == 2; loft += 2) {
            int which = loft;
            both(m -> m.open(which, 1), y -> y.open(which, 1));
        }
        due.is(model.image(), x.image(), "image()");
        if (carried == 2) {
            both(m -> m.hawk(8), y -> y.hawk(8));
            due.is(model.dusk(), x.dusk(), "dusk()");
        }
    }

    private static void looks() {
        for (int a : LOFT) {
            due.is(model.letting(a), x.letting(a), "letting(" + a + ")");
            for (int b : WHAT) {
                due.is(model.loft(a, b), x.loft(a, b), "loft(" + a + ", " + b + ")");
            }
            for (int b : LOFT) {
                due.is(model.way(a, b), x.way(a, b), "way(" + a + ", " + b + ")");
            }
            for (int b : BEHIND) {
                due.is(model.purse(a, b), x.purse(a, b), "purse(" + a + ", " + b + ")");
                due.is(model.bestOpen(a, b), x.bestOpen(a, b), "bestOpen(" + a + ", " + b + ")");
            }
            for (int b : NEAR) {
                due.is(model.whose(a, b), x.whose(a, b), "whose(" + a + ", " + b + ")");
            }
            for (int b : SUM) {
                due.is(model.run(a, b), x.run(a, b), "run(" + a + ", " + b + ")");
            }
        }
        for (int a : DOVE) {
            due.is(model.homing(a), x.homing(a), "homing(" + a + ")");
            for (int b : WHAT) {
                due.is(model.dove(a, b), x.dove(a, b), "dove(" + a + ", " + b + ")");
            }
        }
        for (int a : BEHIND) {
            due.is(model.spare(a), x.spare(a), "spare(" + a + ")");
        }
        for (int a : NEAR) {
            for (int b : WHAT) {
                due.is(model.near(a, b), x.near(a, b), "near(" + a + ", " + b + ")");
            }
        }
        counts("behind looks");
    }

    private static void setsAndSums() {
        for (int a : SET) {
            for (int b : LOFT) {
                for (int c : BEHIND) {
                    due.is(model.stays(a, b, c), x.stays(a, b, c), "stays(" + a + ", " + b + ", " + c + ")");
                }
            }
        }
        for (int a : LOFT) {
            for (int b : LOFT) {
                for (int c : SUM) {
                    for (int d : BEHIND) {
                        due.is(model.cheapest(a, b, c, d), x.cheapest(a, b, c, d),
                            "cheapest(" + a + ", " + b + ", " + c + ", " + d + ")");
                    }
                }
            }
        }
        for (int a : SEEDED) {
            for (int b : SEED) {
                for (int c : LOFT) {
                    due.is(model.seeds(a, b, c), x.seeds(a, b, c), "seeds(" + a + ", " + b + ", " + c + ")");
                }
            }
        }
        counts("behind sets and sums");
    }

    private static void changes() {
        for (int a : HAWK) {
            due.is(model.hawk(a), x.hawk(a), "hawk(" + a + ")");
        }
        for (int a : DOVE) {
            for (int b : LOFT) {
                due.is(model.carry(a, b), x.carry(a, b), "carry(" + a + ", " + b + ")");
            }
            for (int b : DIGIT) {
                due.is(model.clip(a, b), x.clip(a, b), "clip(" + a + ", " + b + ")");
            }
            due.is(model.go(a), x.go(a), "go(" + a + ")");
            both(m -> m.clip(a, 0), y -> y.clip(a, 0));
            due.is(model.go(a), x.go(a), "go(" + a + ")");
        }
        for (int a : LOFT) {
            for (int b : WHAT) {
                due.is(model.open(a, b), x.open(a, b), "open(" + a + ", " + b + ")");
            }
            due.is(model.dusk(), x.dusk(), "dusk()");
        }
        for (int i = 0; i < 9; i++) {
            for (int a : WHAT) {
                due.is(model.paid(a), x.paid(a), "paid(" + a + ") of a row of " + model.count(7));
            }
            int is = model.dove(i, 3);
            due.is(is, x.dove(i, 3), "dove(" + i + ", 3)");
            int v = i % 2 == 0 ? is : DIGIT[i];
            due.is(model.row(v), x.row(v), "row(" + v + ")");
        }
        due.is(model.judge(), x.judge(), "judge()");
        for (int a : DIGIT) {
            due.is(model.row(a), x.row(a), "row(" + a + ")");
        }
        due.is(model.judge(), x.judge(), "judge()");
        for (int a : LETTER) {
            due.is(model.letter(a), x.letter(a), "letter(" + a + ")");
        }
        due.is(model.town(), x.town(), "town()");
        counts("ahead of on()");
        due.is(model.on(), x.on(), "on()");
    }

    private static void counts(String when) {
        for (int a : COUNT) {
            due.is(model.count(a), x.count(a), "count(" + a + ") " + when);
        }
    }
}
