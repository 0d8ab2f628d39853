/** Long runs of drawn calls, each answer held against the model's; the seeds are fixed, so each run is the same. */
public final class ModelTest {
    private static final int RUNS = 400;
    private static final int CALLS = 512;
    private static final int[] WILD = {Integer.MIN_VALUE, Integer.MIN_VALUE + 1, -1000, -33, -32, -2, -1, 31, 32, 63,
        64, 255, 256, 512, 999, 1000, 65535, Integer.MAX_VALUE - 1, Integer.MAX_VALUE};

    private static final String KINDS = "doysbtbs";

    private final Due due;
    private long seed;
    private CoinsAreDoves x;
    private Model model;

    private ModelTest(Due due, long seed) {
        this.due = due;
        this.seed = seed;
    }

    public static void main(String[] args) {
        Due due = new Due();
        for (int run = 1; run <= RUNS && due.wrongOnes() < 20; run++) {
            due.about("run " + run);
            new ModelTest(due, run * 7919L).drawnRun(run % 4 == 0);
        }
        due.end();
    }

    private int draw(int below) {
        seed = seed * 6364136223846793005L + 1442695040888963407L;
        return (int) ((seed >>> 33) % below);
    }

    /** Mostly 0 .. most, now and then just outside or far outside. */
    private int drawUpTo(int most) {
        int luck = draw(60);
        if (luck == 0) {
            return -1;
        }
        if (luck == 1) {
            return most + 1;
        }
        if (luck == 2) {
            return WILD[draw(WILD.length)];
        }
        return draw(most + 1);
    }

    private int loft() {
        return draw(40) == 0 ? drawUpTo(6) : draw(Math.max(1, model.count(0)));
    }

    private int dove() {
        return draw(40) == 0 ? drawUpTo(8) : draw(Math.max(1, model.count(1)));
    }

    private void drawnRun(boolean bare) {
        x = new CoinsAreDoves();
        model = new Model();
        int calls = 0;
        if (!bare) {
            calls += told("l" + draw(10) + draw(10) + ";l" + draw(10) + draw(10) + ";l" + draw(10) + draw(10) + ";");
            calls += told(dove(draw(3)) + dove(draw(3)) + dove(draw(3)) + dove(draw(3)));
            calls += told("o" + draw(3) + ";o" + draw(3) + ";");
        }
        while (calls < CALLS && due.wrongOnes() < 20) {
            calls += draw(12) == 0 ? told(drawnText()) : drawnCall();
        }
        for (int what = -1; what <= 17; what++) {
            due.is(model.count(what), x.count(what), "at the end count(" + what + ")");
        }
    }

    private String dove(int home) {
        return "d" + KINDS.charAt(draw(KINDS.length())) + home + draw(10) + ";";
    }

    private String drawnText() {
        StringBuilder told = new StringBuilder();
        int statements = draw(4);
        for (int i = 0; i < statements; i++) {
            switch (draw(9)) {
                case 0, 1 -> told.append('l').append(draw(10)).append(draw(10)).append(';');
                case 2, 3 -> told.append(dove(draw(Math.max(1, model.count(0)))));
                case 4, 5 -> told.append('o').append(draw(Math.max(1, model.count(0)))).append(';');
                case 6 -> told.append('h').append(draw(24)).append(';');
                case 7 -> told.append('o').append(draw(10)).append(';');
                default -> told.append(dove(draw(10)));
            }
        }
        if (draw(6) == 0 && told.length() > 0) {
            int place = draw(told.length());
            switch (draw(3)) {
                case 0 -> told.deleteCharAt(place);
                case 1 -> told.insert(place, "ldoh;0957x".charAt(draw(10)));
                default -> told.setCharAt(place, "ldoh;0957x".charAt(draw(10)));
            }
        }
        return told.toString();
    }

    private int told(String text) {
        for (int i = 0; i < text.length(); i++) {
            int c = text.charAt(i);
            due.is(model.letter(c), x.letter(c), "letter(" + c + ")");
        }
        due.is(model.town(), x.town(), "town() of " + text);
        return text.length() + 1;
    }

    private int drawnCall() {
        int a;
        int b;
        int c;
        int d;
        switch (draw(34)) {
            case 0 -> due.is(model.loft(a = loft(), b = drawUpTo(4)), x.loft(a, b), "loft " + a + " " + b);
            case 1, 2 -> due.is(model.dove(a = dove(), b = drawUpTo(6)), x.dove(a, b), "dove " + a + " " + b);
            case 3 -> due.is(model.open(a = loft(), b = drawUpTo(1)), x.open(a, b), "open " + a + " " + b);
            case 4 -> due.is(model.hawk(a = drawUpTo(20)), x.hawk(a), "hawk " + a);
            case 5, 6, 7 -> due.is(model.carry(a = dove(), b = loft()), x.carry(a, b), "carry " + a + " " + b);
            case 8 -> due.is(model.clip(a = dove(), b = drawUpTo(9)), x.clip(a, b), "clip " + a + " " + b);
            case 9 -> due.is(model.go(a = dove()), x.go(a), "go " + a);
            case 10, 11 -> due.is(model.dusk(), x.dusk(), "dusk");
            case 12 -> due.is(model.way(a = loft(), b = loft()), x.way(a, b), "way " + a + " " + b);
            case 13 -> due.is(model.purse(a = loft(), b = drawUpTo(40)), x.purse(a, b), "purse " + a + " " + b);
            case 14 -> due.is(model.letting(a = loft()), x.letting(a), "letting " + a);
            case 15 -> due.is(model.stays(a = drawUpTo((1 << model.count(1)) - 1), b = loft(), c = drawUpTo(40)),
                x.stays(a, b, c), "stays " + a + " " + b + " " + c);
            case 16, 17 -> due.is(model.cheapest(a = loft(), b = loft(), c = draw(9) == 0 ? drawUpTo(999) : draw(20),
                d = drawUpTo(40)), x.cheapest(a, b, c, d), "cheapest " + a + " " + b + " " + c + " " + d);
            case 18 -> due.is(model.near(a = drawUpTo(18), b = drawUpTo(1)), x.near(a, b), "near " + a + " " + b);
            case 19 -> due.is(model.whose(a = loft(), b = drawUpTo(18)), x.whose(a, b), "whose " + a + " " + b);
            case 20 -> due.is(model.run(a = loft(), b = draw(9) == 0 ? drawUpTo(999) : draw(20)), x.run(a, b),
                "run " + a + " " + b);
            case 21 -> due.is(model.bestOpen(a = loft(), b = drawUpTo(40)), x.bestOpen(a, b), "bestOpen " + a + " " + b);
            case 22 -> due.is(model.homing(a = dove()), x.homing(a), "homing " + a);
            case 23 -> due.is(model.spare(a = drawUpTo(40)), x.spare(a), "spare " + a);
            case 24 -> due.is(model.row(a = drawUpTo(9)), x.row(a), "row " + a);
            case 25, 26 -> {
                return payment();
            }
            case 27 -> due.is(model.judge(), x.judge(), "judge");
            case 28 -> due.is(model.seeds(a = drawUpTo(30), b = draw(2) == 0 ? draw(1 << 30) : -draw(1 << 30),
                c = loft()), x.seeds(a, b, c), "seeds " + a + " " + b + " " + c);
            case 29 -> due.is(model.image(), x.image(), "image");
            case 30 -> due.is(model.on(), x.on(), "on");
            case 31 -> due.is(model.paid(a = drawUpTo(1)), x.paid(a), "paid " + a);
            case 32 -> due.is(model.letter(a = drawUpTo(255)), x.letter(a), "letter " + a);
            default -> due.is(model.count(a = drawUpTo(17)), x.count(a), "count " + a);
        }
        return 1;
    }

    /** A row that one carrying makes true, or nearly, and what is said of it. */
    private int payment() {
        due.is(model.judge(), x.judge(), "judge ahead of a payment");
        int calls = 1;
        for (int v : model.rowBehindCarrying(draw(8), draw(6))) {
            int told = draw(30) == 0 ? draw(10) : v;
            due.is(model.row(told), x.row(told), "row " + told);
            calls++;
        }
        due.is(model.paid(0), x.paid(0), "paid 0");
        due.is(model.paid(1), x.paid(1), "paid 1");
        if (draw(2) == 0) {
            due.is(model.judge(), x.judge(), "judge behind a payment");
        }
        return calls + 3;
    }
}
