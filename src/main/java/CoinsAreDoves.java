/** Doves as coins: they are carried between lofts, fly at dusk, and are worth something where they are. */
public final class CoinsAreDoves {
    private static final int MOST_LOFTS = 6;
    private static final int MOST_DOVES = 8;
    private static final int MOST_LETTERS = 64;
    private static final int MOST_IN_ROW = 8;
    private static final int MOST_LETTER = 255;
    private static final int MOST_DIGIT = 9;
    private static final int MOST_AGE = 9;
    private static final int MOST_HAWK = 20;
    private static final int MOST_WAY = 18;
    private static final int MOST_SUM = 999;
    private static final int MOST_IN_MIND = 40;
    private static final int MOST_SEEDED = 30;
    private static final int LAST_DUSK = 999;

    private static final int LOST = 9;
    private static final int NOWHERE = 9;
    private static final int NONE = -9;

    private static final int FINE = 0;
    private static final int NOBODY = -1;
    private static final int OTHER = -2;
    private static final int STATE = -3;
    private static final int BELOW = -4;
    private static final int ROOM = -6;
    private static final int REFUSALS_TOLD = 6;
    private static final int FIRST_REFUSAL_ASKED = 10;
    private static final int LETTING_REFUSED = 1000000000;

    private static final int NO_FAULT = -1;
    private static final int NO_LETTER = -1;
    private static final int FAULT_OF_FORM = -1000;
    private static final int FAULT_OF_SENSE = -2000;
    private static final String KIND_LETTERS = "doysbt";

    private final Town now = new Town();
    private final Town mind = new Town();
    private final Town kept = new Town();
    private final Text text = new Text();
    private final int[] row = new int[MOST_IN_ROW];
    private final int[] leaders = new int[MOST_LOFTS];
    private final int[] gains = new int[MOST_DOVES];
    private final int[] refusals = new int[REFUSALS_TOLD + 1];
    private int rowLength = 0;
    private boolean imageTaken = false;

    public CoinsAreDoves() {
    }

    public int letter(int c) {
        int no = outside(c, 0, MOST_LETTER);
        if (no == FINE && text.isFull()) {
            no = ROOM;
        }
        if (no != FINE) {
            return refuse(no);
        }
        text.add(c);
        return text.length;
    }

    public int town() {
        int answer = textBecomesTown();
        text.clear();
        return answer;
    }

    public int loft(int loft, int what) {
        if (!now.hasLoft(loft)) {
            return refuse(NOBODY);
        }
        switch (what) {
            case 0: return now.x[loft];
            case 1: return now.y[loft];
            case 2: return now.isOpen(loft) ? 1 : 0;
            case 3: return now.purseOf(loft);
            case 4: return now.ownOf(loft);
            default: return refuse(OTHER);
        }
    }

    public int dove(int dove, int what) {
        if (!now.hasDove(dove)) {
            return refuse(NOBODY);
        }
        switch (what) {
            case 0: return now.kind[dove];
            case 1: return now.home[dove];
            case 2: return now.age[dove];
            case 3: return now.at[dove];
            case 4: return now.clipped[dove];
            case 5: return now.worthOf(dove);
            case 6: return now.aimOf(dove);
            default: return refuse(OTHER);
        }
    }

    public int open(int loft, int is) {
        if (!now.hasLoft(loft)) {
            return refuse(NOBODY);
        }
        if (is != 0 && is != 1) {
            return refuse(OTHER);
        }
        int was = now.isOpen(loft) ? 1 : 0;
        if (was != is) {
            now.turnWindows(loft);
        }
        return was;
    }

    public int hawk(int v) {
        int no = outside(v, 0, MOST_HAWK);
        if (no != FINE) {
            return refuse(no);
        }
        int was = now.hawk;
        now.hawk = v;
        return was;
    }

    public int carry(int dove, int loft) {
        if (!now.hasDove(dove) || !now.hasLoft(loft)) {
            return refuse(NOBODY);
        }
        if (now.isLost(dove)) {
            return refuse(STATE);
        }
        int was = now.at[dove];
        now.at[dove] = loft;
        return was;
    }

    public int clip(int dove, int dusks) {
        int no = now.hasDove(dove) ? outside(dusks, 0, MOST_DIGIT) : NOBODY;
        if (no != FINE) {
            return refuse(no);
        }
        int was = now.clipped[dove];
        now.clipped[dove] = dusks;
        return was;
    }

    public int go(int dove) {
        if (!now.hasDove(dove)) {
            return refuse(NOBODY);
        }
        if (now.isLost(dove) || now.clipped[dove] > 0) {
            return refuse(STATE);
        }
        now.at[dove] = now.placeIfLetGo(dove);
        return now.at[dove];
    }

    public int dusk() {
        if (now.dusk >= LAST_DUSK) {
            return refuse(ROOM);
        }
        return now.passDusk();
    }

    public int way(int one, int other) {
        if (!now.hasLoft(one) || !now.hasLoft(other)) {
            return refuse(NOBODY);
        }
        return now.apart(one, other);
    }

    public int purse(int loft, int n) {
        int no = now.hasLoft(loft) ? outside(n, 0, MOST_IN_MIND) : NOBODY;
        if (no != FINE) {
            return refuse(no);
        }
        mind.become(now);
        mind.passDusks(n);
        return mind.purseOf(loft);
    }

    public int letting(int loft) {
        if (!now.hasLoft(loft)) {
            return LETTING_REFUSED - refuse(NOBODY);
        }
        mind.become(now);
        mind.letAllGo();
        return mind.purseOf(loft) - now.purseOf(loft);
    }

    public int stays(int doves, int loft, int n) {
        boolean known = (doves & ~now.dovesNotLost()) == 0 && now.hasLoft(loft);
        int no = known ? outside(n, 0, MOST_IN_MIND) : NOBODY;
        if (no != FINE) {
            return refuse(no);
        }
        gainByCarrying(doves, loft, n);
        return sumOfGains(doves);
    }

    public int cheapest(int from, int to, int sum, int n) {
        if (!now.hasLoft(from) || !now.hasLoft(to) || from == to) {
            return refuse(NOBODY);
        }
        if (sum < 0 || n < 0) {
            return refuse(BELOW);
        }
        if (sum > MOST_SUM || n > MOST_IN_MIND) {
            return refuse(ROOM);
        }
        int there = now.dovesIn(from);
        // No dove's flight hangs on another's, so one look at all carried tells each one's part in any set.
        gainByCarrying(there, to, n);
        return cheapestSet(there, sum);
    }

    public int near(int d, int what) {
        int no = outside(d, 0, MOST_WAY);
        if (no == FINE && what != 0 && what != 1) {
            no = OTHER;
        }
        if (no != FINE) {
            return refuse(no);
        }
        joinLofts(d);
        return what == 0 ? purses() : richest();
    }

    public int whose(int loft, int d) {
        int no = now.hasLoft(loft) ? outside(d, 0, MOST_WAY) : NOBODY;
        if (no != FINE) {
            return refuse(no);
        }
        joinLofts(d);
        return leaders[loft];
    }

    public int run(int loft, int sum) {
        int no = now.hasLoft(loft) ? outside(sum, 0, MOST_SUM) : NOBODY;
        if (no != FINE) {
            return refuse(no);
        }
        mind.become(now);
        for (int n = 0; n <= MOST_IN_MIND; n++) {
            if (mind.purseOf(loft) < sum) {
                return n;
            }
            mind.passDusk();
        }
        return NONE;
    }

    public int bestOpen(int loft, int n) {
        int no = now.hasLoft(loft) ? outside(n, 0, MOST_IN_MIND) : NOBODY;
        if (no != FINE) {
            return refuse(no);
        }
        int best = 0;
        int most = -1;
        for (int bits = 0; bits < 1 << now.lofts; bits++) {
            mind.become(now);
            mind.open = bits;
            mind.passDusks(n);
            int purse = mind.purseOf(loft);
            if (purse > most) {
                most = purse;
                best = bits;
            }
        }
        return best;
    }

    public int homing(int dove) {
        if (!now.hasDove(dove)) {
            return refuse(NOBODY);
        }
        mind.become(now);
        for (int n = 0; n <= MOST_IN_MIND; n++) {
            if (mind.isHome(dove)) {
                return n;
            }
            mind.passDusk();
        }
        return NONE;
    }

    public int spare(int n) {
        int no = outside(n, 0, MOST_IN_MIND);
        if (no != FINE) {
            return refuse(no);
        }
        for (int hawk = 0; hawk <= MOST_HAWK; hawk++) {
            mind.become(now);
            mind.hawk = hawk;
            if (mind.passDusks(n) == 0) {
                return hawk;
            }
        }
        return NONE;
    }

    public int row(int v) {
        int no = outside(v, 0, MOST_DIGIT);
        if (no == FINE && rowLength >= MOST_IN_ROW) {
            no = ROOM;
        }
        if (no != FINE) {
            return refuse(no);
        }
        row[rowLength] = v;
        rowLength++;
        return rowLength;
    }

    public int paid(int what) {
        if (what != 0 && what != 1) {
            return refuse(OTHER);
        }
        if (rowLength != now.doves) {
            return refuse(STATE);
        }
        int many = 0;
        int first = NONE;
        for (int dove = 0; dove < now.doves; dove++) {
            for (int loft = 0; loft < now.lofts; loft++) {
                if (makesRowTrue(dove, loft)) {
                    first = many == 0 ? 10 * dove + loft : first;
                    many++;
                }
            }
        }
        return what == 0 ? many : first;
    }

    public int judge() {
        int same = sameAsRow(now, Math.min(rowLength, now.doves));
        // Behind as many as both have, the shorter of the two ends, which is where they differ.
        int answer = same == rowLength && same == now.doves ? NONE : same;
        rowLength = 0;
        return answer;
    }

    public int seeds(int n, int z, int loft) {
        int no = now.hasLoft(loft) ? outside(n, 1, MOST_SEEDED) : NOBODY;
        if (no != FINE) {
            return refuse(no);
        }
        mind.become(now);
        int seed = z;
        for (int i = 0; i < n; i++) {
            seed = nextSeed(seed);
            mind.open = drawn(seed, 1 << now.lofts);
            mind.passDusk();
        }
        return mind.purseOf(loft);
    }

    public int image() {
        kept.become(now);
        imageTaken = true;
        return now.dusk;
    }

    public int on() {
        if (!imageTaken) {
            return refuse(STATE);
        }
        now.become(kept);
        return now.dusk;
    }

    public int count(int what) {
        switch (what) {
            case 0: return now.lofts;
            case 1: return now.doves;
            case 2: return now.dusk;
            case 3: return now.doves - Integer.bitCount(now.dovesNotLost());
            case 4: return now.hawk;
            case 5: return now.open;
            case 6: return now.worthOfAll(now.dovesNotLost());
            case 7: return rowLength;
            case 8: return text.length;
            default: return refusalsCounted(what - FIRST_REFUSAL_ASKED);
        }
    }

    /** FINE, or the refusal of a number that is not least .. most. */
    private static int outside(int number, int least, int most) {
        if (number < least) {
            return BELOW;
        }
        return number > most ? ROOM : FINE;
    }

    private int refuse(int refusal) {
        int which = -refusal;
        if (which > 0 && which < refusals.length) {
            refusals[which]++;
        }
        return refusal;
    }

    private int refusalsCounted(int which) {
        return which > 0 && which < refusals.length ? refusals[which] : NONE;
    }

    private int textBecomesTown() {
        int place = text.firstMisfit();
        if (place != NO_FAULT) {
            return FAULT_OF_FORM - place;
        }
        // Told in mind first, so that a fault further on leaves the town as it is.
        mind.become(now);
        place = text.firstUntellable(mind);
        if (place != NO_FAULT) {
            return FAULT_OF_SENSE - place;
        }
        now.become(mind);
        return text.statements();
    }

    /** What each dove of a set, carried to a loft, is worth there behind n dusks. */
    private void gainByCarrying(int doves, int loft, int n) {
        mind.become(now);
        for (int dove = 0; dove < now.doves; dove++) {
            if (isIn(doves, dove)) {
                mind.at[dove] = loft;
            }
        }
        mind.passDusks(n);
        for (int dove = 0; dove < now.doves; dove++) {
            gains[dove] = mind.at[dove] == loft ? mind.worthOf(dove) : 0;
        }
    }

    private int sumOfGains(int doves) {
        int sum = 0;
        for (int dove = 0; dove < now.doves; dove++) {
            if (isIn(doves, dove)) {
                sum += gains[dove];
            }
        }
        return sum;
    }

    private int cheapestSet(int there, int sum) {
        int best = NONE;
        int least = 0;
        for (int set = 0; set < 1 << now.doves; set++) {
            if ((set & ~there) == 0 && sumOfGains(set) >= sum) {
                int price = now.worthOfAll(set);
                if (best == NONE || price < least) {
                    least = price;
                    best = set;
                }
            }
        }
        return best;
    }

    /** Gives each loft as leader the least one that is one with it. */
    private void joinLofts(int d) {
        for (int loft = 0; loft < now.lofts; loft++) {
            leaders[loft] = loft;
        }
        // The least number needs no more rounds than there are lofts to go from one to all.
        for (int round = 0; round < now.lofts; round++) {
            for (int one = 0; one < now.lofts; one++) {
                takeLeastLeader(one, d);
            }
        }
    }

    private void takeLeastLeader(int one, int d) {
        for (int other = 0; other < now.lofts; other++) {
            if (now.apart(one, other) <= d && leaders[other] < leaders[one]) {
                leaders[one] = leaders[other];
            }
        }
    }

    private int purses() {
        int many = 0;
        for (int loft = 0; loft < now.lofts; loft++) {
            if (leaders[loft] == loft) {
                many++;
            }
        }
        return many;
    }

    private int richest() {
        int best = NONE;
        int most = -1;
        for (int loft = 0; loft < now.lofts; loft++) {
            int sum = leaders[loft] == loft ? sumLedBy(loft) : -1;
            if (sum > most) {
                most = sum;
                best = loft;
            }
        }
        return best;
    }

    private int sumLedBy(int leader) {
        int doves = 0;
        for (int loft = 0; loft < now.lofts; loft++) {
            if (leaders[loft] == leader) {
                doves |= now.dovesIn(loft);
            }
        }
        return now.worthOfAll(doves);
    }

    private boolean makesRowTrue(int dove, int loft) {
        if (now.isLost(dove) || now.at[dove] == loft) {
            return false;
        }
        mind.become(now);
        mind.at[dove] = loft;
        mind.passDusk();
        // The row has no place for an egg of that dusk, so an egg is not looked at.
        return sameAsRow(mind, now.doves) == now.doves;
    }

    /** How many doves from the first on, of so many at most, are where the row has them. */
    private int sameAsRow(Town there, int most) {
        int same = 0;
        while (same < most && same < row.length && row[same] == there.at[same]) {
            same++;
        }
        return same;
    }

    private static int nextSeed(int seed) {
        return seed * 1664525 + 1013904223;
    }

    private static int drawn(int seed, int below) {
        return below > 0 ? (seed & 0x7fffffff) / 256 % below : 0;
    }

    private static boolean isIn(int bits, int number) {
        return (bits >> number & 1) == 1;
    }

    /** The letters told so far. */
    private static final class Text {
        final int[] letters = new int[MOST_LETTERS];
        int length = 0;

        boolean isFull() {
            return length >= letters.length;
        }

        void add(int c) {
            if (!isFull()) {
                letters[length] = c;
                length++;
            }
        }

        void clear() {
            length = 0;
        }

        /** The place of the first letter with which no town can go on, or NO_FAULT. */
        int firstMisfit() {
            int place = 0;
            for (int told = 0; told < MOST_LETTERS; told++) {
                int end = endOfStatement(place);
                if (end < 0) {
                    return -1 - end;
                }
                if (end >= length) {
                    return NO_FAULT;
                }
                place = end;
            }
            return place;
        }

        /** Tells a fitting text to a town; the place of the first statement that it can't take, or NO_FAULT. */
        int firstUntellable(Town town) {
            int place = 0;
            for (int told = 0; told < MOST_LETTERS && place >= 0 && place < length; told++) {
                if (!tell(town, place)) {
                    return place;
                }
                place = endOfStatement(place);
            }
            return NO_FAULT;
        }

        /** How many statements a fitting text has: each has its one semicolon. */
        int statements() {
            int many = 0;
            for (int place = 0; place < length; place++) {
                if (signAt(place) == ';') {
                    many++;
                }
            }
            return many;
        }

        /** The place behind the statement that begins here; if it does not fit, -1 less the place where not. */
        private int endOfStatement(int start) {
            String form = formBehind(signAt(start));
            if (form.isEmpty()) {
                return -1 - start;
            }
            int place = start + 1;
            for (int i = 0; i < form.length(); i++) {
                char wanted = form.charAt(i);
                if (fits(wanted, signAt(place))) {
                    place++;
                } else if (wanted != '?') {
                    return -1 - place;
                }
            }
            return place;
        }

        /** What stands behind a statement's first letter: 9 a digit, ? one that may lack, k a kind's letter. */
        private static String formBehind(int first) {
            switch (first) {
                case 'l': return "99;";
                case 'd': return "k99;";
                case 'o': return "9;";
                case 'h': return "9?;";
                default: return "";
            }
        }

        private static boolean fits(char wanted, int sign) {
            switch (wanted) {
                case '9':
                case '?': return isDigit(sign);
                case 'k': return kindOf(sign) >= 0;
                default: return sign == wanted;
            }
        }

        private boolean tell(Town town, int place) {
            switch (signAt(place)) {
                case 'l': return town.addLoft(digitAt(place + 1), digitAt(place + 2));
                case 'd': return town.addDove(kindOf(signAt(place + 1)), digitAt(place + 2), digitAt(place + 3));
                case 'o': return town.turnWindows(digitAt(place + 1));
                case 'h': return town.takeHawk(numberAt(place + 1));
                default: return false;
            }
        }

        private int signAt(int place) {
            return place >= 0 && place < length && place < letters.length ? letters[place] : NO_LETTER;
        }

        private int digitAt(int place) {
            return signAt(place) - '0';
        }

        private int numberAt(int place) {
            int first = digitAt(place);
            return isDigit(signAt(place + 1)) ? 10 * first + digitAt(place + 1) : first;
        }

        private static boolean isDigit(int sign) {
            return sign >= '0' && sign <= '9';
        }

        private static int kindOf(int sign) {
            return sign >= 0 && sign <= MOST_LETTER ? KIND_LETTERS.indexOf((char) sign) : -1;
        }
    }

    /** All that an image keeps: lofts, doves, windows, the hawk and which dusk comes next. */
    private static final class Town {
        final Dove[] kinds = {new Dove(), new Old(), new Young(), new Stray(), new Breeder(), new Tame()};
        final int[] x = new int[MOST_LOFTS];
        final int[] y = new int[MOST_LOFTS];
        final int[] kind = new int[MOST_DOVES];
        final int[] home = new int[MOST_DOVES];
        final int[] age = new int[MOST_DOVES];
        final int[] at = new int[MOST_DOVES];
        final int[] clipped = new int[MOST_DOVES];
        int lofts = 0;
        int doves = 0;
        int open = 0;
        int hawk = MOST_HAWK;
        int dusk = 0;

        void become(Town other) {
            System.arraycopy(other.x, 0, x, 0, MOST_LOFTS);
            System.arraycopy(other.y, 0, y, 0, MOST_LOFTS);
            System.arraycopy(other.kind, 0, kind, 0, MOST_DOVES);
            System.arraycopy(other.home, 0, home, 0, MOST_DOVES);
            System.arraycopy(other.age, 0, age, 0, MOST_DOVES);
            System.arraycopy(other.at, 0, at, 0, MOST_DOVES);
            System.arraycopy(other.clipped, 0, clipped, 0, MOST_DOVES);
            lofts = other.lofts;
            doves = other.doves;
            open = other.open;
            hawk = other.hawk;
            dusk = other.dusk;
        }

        boolean hasLoft(int loft) {
            return loft >= 0 && loft < lofts;
        }

        boolean hasDove(int dove) {
            return dove >= 0 && dove < doves;
        }

        boolean addLoft(int atX, int atY) {
            if (lofts >= MOST_LOFTS) {
                return false;
            }
            x[lofts] = atX;
            y[lofts] = atY;
            lofts++;
            return true;
        }

        boolean addDove(int ofKind, int hatchedIn, int ofAge) {
            if (doves >= MOST_DOVES || !hasLoft(hatchedIn)) {
                return false;
            }
            kind[doves] = ofKind;
            home[doves] = hatchedIn;
            age[doves] = ofAge;
            at[doves] = hatchedIn;
            clipped[doves] = 0;
            doves++;
            return true;
        }

        boolean turnWindows(int loft) {
            if (!hasLoft(loft)) {
                return false;
            }
            open ^= 1 << loft;
            return true;
        }

        boolean takeHawk(int howFar) {
            if (howFar < 0 || howFar > MOST_HAWK) {
                return false;
            }
            hawk = howFar;
            return true;
        }

        boolean isOpen(int loft) {
            return isIn(open, loft);
        }

        boolean isLost(int dove) {
            return !hasDove(dove) || at[dove] == LOST;
        }

        boolean isHome(int dove) {
            return hasDove(dove) && at[dove] == home[dove];
        }

        int dovesNotLost() {
            int bits = 0;
            for (int dove = 0; dove < doves; dove++) {
                if (!isLost(dove)) {
                    bits |= 1 << dove;
                }
            }
            return bits;
        }

        int dovesIn(int loft) {
            int bits = 0;
            for (int dove = 0; dove < doves; dove++) {
                if (at[dove] == loft) {
                    bits |= 1 << dove;
                }
            }
            return bits;
        }

        int dovesHatchedIn(int loft) {
            int bits = 0;
            for (int dove = 0; dove < doves; dove++) {
                if (home[dove] == loft) {
                    bits |= 1 << dove;
                }
            }
            return bits;
        }

        /** Looks at its numbers itself: it stands at the end of the longest chain of calls. */
        int apart(int one, int other) {
            if (one < 0 || one >= lofts || other < 0 || other >= lofts) {
                return 0;
            }
            int inX = x[one] - x[other];
            int inY = y[one] - y[other];
            return (inX < 0 ? -inX : inX) + (inY < 0 ? -inY : inY);
        }

        int nearestOther(int loft) {
            int best = NOWHERE;
            int least = MOST_WAY + 1;
            for (int other = 0; other < lofts; other++) {
                int way = apart(loft, other);
                if (other != loft && way < least) {
                    least = way;
                    best = other;
                }
            }
            return best;
        }

        private Dove kindOf(int dove) {
            int which = hasDove(dove) ? kind[dove] : 0;
            return which >= 0 && which < kinds.length ? kinds[which] : kinds[0];
        }

        int worthOf(int dove) {
            return hasDove(dove) ? kindOf(dove).worth(age[dove]) : 0;
        }

        int aimOf(int dove) {
            if (isLost(dove)) {
                return NOWHERE;
            }
            return kindOf(dove).aim(this, at[dove], home[dove], age[dove]);
        }

        int placeIfLetGo(int dove) {
            int aim = aimOf(dove);
            if (aim != NOWHERE) {
                return aim;
            }
            return hasDove(dove) ? at[dove] : LOST;
        }

        int purseOf(int loft) {
            return worthOfAll(dovesIn(loft));
        }

        int ownOf(int loft) {
            return worthOfAll(dovesHatchedIn(loft) & dovesNotLost());
        }

        int worthOfAll(int bits) {
            int sum = 0;
            for (int dove = 0; dove < doves; dove++) {
                if (isIn(bits, dove)) {
                    sum += worthOf(dove);
                }
            }
            return sum;
        }

        void letAllGo() {
            for (int dove = 0; dove < doves; dove++) {
                at[dove] = placeIfLetGo(dove);
            }
        }

        /** How many are lost in so many dusks. */
        int passDusks(int n) {
            int lost = 0;
            for (int i = 0; i < n; i++) {
                lost += passDusk();
            }
            return lost;
        }

        /** How many are lost in it. */
        int passDusk() {
            int before = doves;
            int lost = flyAtDusk();
            wingsGrow();
            if (dusk % 3 == 0) {
                layEggs();
            }
            if (dusk % 5 == 0) {
                growOlder(before);
            }
            dusk++;
            return lost;
        }

        private int flyAtDusk() {
            int lost = 0;
            for (int dove = 0; dove < doves; dove++) {
                int aim = NOWHERE;
                if (mayFly(dove)) {
                    aim = kindOf(dove).aim(this, at[dove], home[dove], age[dove]);
                }
                if (aim != NOWHERE && apart(at[dove], aim) > hawk) {
                    at[dove] = LOST;
                    lost++;
                } else if (aim != NOWHERE) {
                    at[dove] = aim;
                }
            }
            return lost;
        }

        private boolean mayFly(int dove) {
            return !isLost(dove) && clipped[dove] == 0 && isOpen(at[dove]);
        }

        private void wingsGrow() {
            for (int dove = 0; dove < doves; dove++) {
                if (clipped[dove] > 0) {
                    clipped[dove]--;
                }
            }
        }

        private void layEggs() {
            int before = doves;
            for (int dove = 0; dove < before; dove++) {
                if (isHome(dove) && kindOf(dove).lays(age[dove])) {
                    addDove(0, home[dove], 0);
                }
            }
        }

        /** Only those that were there ahead of the dusk: its eggs stay of age 0. */
        private void growOlder(int before) {
            for (int dove = 0; dove < before && dove < doves; dove++) {
                age[dove] = Math.min(age[dove] + 1, MOST_AGE);
            }
        }
    }

    /** The kind d; each other kind is under it and tells what is otherwise. */
    private static class Dove {
        /** To which loft it flies from one, or NOWHERE. */
        int aim(Town town, int from, int home, int age) {
            return home;
        }

        int worth(int age) {
            return 5;
        }

        boolean lays(int age) {
            return false;
        }
    }

    private static final class Old extends Dove {
        int aim(Town town, int from, int home, int age) {
            return age >= 5 ? NOWHERE : super.aim(town, from, home, age);
        }

        int worth(int age) {
            return Math.max(super.worth(age) - age, 1);
        }
    }

    private static class Young extends Dove {
        int aim(Town town, int from, int home, int age) {
            return town.apart(from, home) <= 2 * age ? home : NOWHERE;
        }

        int worth(int age) {
            return super.worth(age) - 2;
        }
    }

    private static final class Stray extends Dove {
        int aim(Town town, int from, int home, int age) {
            return town.nearestOther(from);
        }

        int worth(int age) {
            return 2;
        }
    }

    private static final class Breeder extends Dove {
        int worth(int age) {
            return super.worth(age) + 3;
        }

        boolean lays(int age) {
            return age >= 1 && age <= 6;
        }
    }

    private static final class Tame extends Young {
        int aim(Town town, int from, int home, int age) {
            return town.apart(from, home) < 3 ? NOWHERE : super.aim(town, from, home, age);
        }

        int worth(int age) {
            return 2 * super.worth(age);
        }
    }
}
