import java.util.ArrayList;
import java.util.Arrays;
import java.util.List;
import java.util.TreeMap;
import java.util.TreeSet;
import java.util.regex.Matcher;
import java.util.regex.Pattern;

/** The document once more, written another way and with the whole Java library, to be held against the class. */
final class Model {
    private static final Pattern TOWN = Pattern.compile("(l[0-9]{2};|d[doysbt][0-9]{2};|o[0-9];|h[0-9]{1,2};)+");

    private record Point(int x, int y) {
        int to(Point other) {
            return Math.abs(x - other.x) + Math.abs(y - other.y);
        }
    }

    private static final class Bird {
        char kind;
        int home;
        int age;
        int at;
        int clipped;

        Bird(char kind, int home, int age) {
            this.kind = kind;
            this.home = home;
            this.age = age;
            this.at = home;
        }

        Bird copy() {
            Bird b = new Bird(kind, home, age);
            b.at = at;
            b.clipped = clipped;
            return b;
        }

        int value() {
            return switch (kind) {
                case 'd' -> 5;
                case 'o' -> age >= 4 ? 1 : 5 - age;
                case 'y' -> 3;
                case 's' -> 2;
                case 'b' -> 8;
                default -> 6;
            };
        }
    }

    private static final class World {
        List<Point> lofts = new ArrayList<>();
        List<Bird> birds = new ArrayList<>();
        TreeSet<Integer> open = new TreeSet<>();
        int hawk = 20;
        int dusk = 0;

        World copy() {
            World w = new World();
            w.lofts.addAll(lofts);
            for (Bird b : birds) {
                w.birds.add(b.copy());
            }
            w.open.addAll(open);
            w.hawk = hawk;
            w.dusk = dusk;
            return w;
        }

        int way(int a, int b) {
            return lofts.get(a).to(lofts.get(b));
        }

        int aim(Bird b) {
            if (b.at == 9) {
                return 9;
            }
            int way = way(b.at, b.home);
            boolean goesHome = switch (b.kind) {
                case 'd', 'b' -> true;
                case 'o' -> b.age < 5;
                case 'y' -> way <= 2 * b.age;
                case 't' -> way <= 2 * b.age && way >= 3;
                default -> false;
            };
            if (b.kind != 's') {
                return goesHome ? b.home : 9;
            }
            TreeMap<Integer, Integer> byWay = new TreeMap<>();
            for (int l = 0; l < lofts.size(); l++) {
                if (l != b.at) {
                    byWay.putIfAbsent(way(b.at, l), l);
                }
            }
            return byWay.isEmpty() ? 9 : byWay.firstEntry().getValue();
        }

        int pass() {
            List<Integer> to = new ArrayList<>();
            int lost = 0;
            for (Bird b : birds) {
                int aim = b.at != 9 && b.clipped == 0 && open.contains(b.at) ? aim(b) : 9;
                if (aim == 9) {
                    to.add(b.at);
                } else if (way(b.at, aim) > hawk) {
                    to.add(9);
                    lost++;
                } else {
                    to.add(aim);
                }
            }
            List<Bird> eggs = new ArrayList<>();
            for (int i = 0; i < birds.size(); i++) {
                Bird b = birds.get(i);
                b.at = to.get(i);
                b.clipped = Math.max(0, b.clipped - 1);
                boolean lays = b.kind == 'b' && b.at == b.home && b.age > 0 && b.age < 7;
                if (lays && dusk % 3 == 0 && birds.size() + eggs.size() < 8) {
                    eggs.add(new Bird('d', b.home, 0));
                }
            }
            if (dusk % 5 == 0) {
                for (Bird b : birds) {
                    b.age = Math.min(9, b.age + 1);
                }
            }
            birds.addAll(eggs);
            dusk++;
            return lost;
        }

        World behind(int n) {
            World w = copy();
            for (int i = 0; i < n; i++) {
                w.pass();
            }
            return w;
        }

        int purse(int loft) {
            return birds.stream().filter(b -> b.at == loft).mapToInt(Bird::value).sum();
        }

        int bits() {
            return open.stream().mapToInt(l -> 1 << l).sum();
        }

        void openJust(int bits) {
            open.clear();
            for (int l = 0; l < 6; l++) {
                if ((bits & 1 << l) != 0) {
                    open.add(l);
                }
            }
        }

        long lost() {
            return birds.stream().filter(b -> b.at == 9).count();
        }

        List<TreeSet<Integer>> groups(int d) {
            List<TreeSet<Integer>> groups = new ArrayList<>();
            TreeSet<Integer> left = new TreeSet<>();
            for (int l = 0; l < lofts.size(); l++) {
                left.add(l);
            }
            while (!left.isEmpty()) {
                TreeSet<Integer> group = new TreeSet<>();
                List<Integer> edge = new ArrayList<>(List.of(left.first()));
                while (!edge.isEmpty()) {
                    int one = edge.remove(0);
                    if (group.add(one)) {
                        left.remove(one);
                        left.stream().filter(o -> way(one, o) <= d).forEach(edge::add);
                    }
                }
                groups.add(group);
            }
            return groups;
        }
    }

    private World now = new World();
    private World image = null;
    private String text = "";
    private final List<Integer> row = new ArrayList<>();
    private final int[] refusals = new int[7];

    private int no(int number) {
        refusals[-number]++;
        return number;
    }

    private boolean noLoft(int loft) {
        return loft < 0 || loft >= now.lofts.size();
    }

    private boolean noDove(int dove) {
        return dove < 0 || dove >= now.birds.size();
    }

    int letter(int c) {
        if (c < 0) {
            return no(-4);
        }
        if (c > 255 || text.length() == 64) {
            return no(-6);
        }
        text += (char) c;
        return text.length();
    }

    int town() {
        String told = text;
        text = "";
        for (int i = 1; i <= told.length(); i++) {
            Matcher m = TOWN.matcher(told.substring(0, i));
            if (!m.matches() && !m.hitEnd()) {
                return -1000 - (i - 1);
            }
        }
        if (!TOWN.matcher(told).matches()) {
            return -1000 - told.length();
        }
        World w = now.copy();
        int place = 0;
        String[] statements = told.split(";");
        for (String s : statements) {
            if (!tell(w, s)) {
                return -2000 - place;
            }
            place += s.length() + 1;
        }
        now = w;
        return statements.length;
    }

    private static boolean tell(World w, String s) {
        int[] digits = s.chars().map(c -> c - '0').toArray();
        switch (s.charAt(0)) {
            case 'l':
                w.lofts.add(new Point(digits[1], digits[2]));
                return w.lofts.size() <= 6;
            case 'd':
                w.birds.add(new Bird(s.charAt(1), digits[2], digits[3]));
                return w.birds.size() <= 8 && digits[2] < w.lofts.size();
            case 'o':
                if (!w.open.remove(digits[1])) {
                    w.open.add(digits[1]);
                }
                return digits[1] < w.lofts.size();
            default:
                w.hawk = Integer.parseInt(s.substring(1));
                return w.hawk <= 20;
        }
    }

    int loft(int loft, int what) {
        if (noLoft(loft)) {
            return no(-1);
        }
        return switch (what) {
            case 0 -> now.lofts.get(loft).x();
            case 1 -> now.lofts.get(loft).y();
            case 2 -> now.open.contains(loft) ? 1 : 0;
            case 3 -> now.purse(loft);
            case 4 -> now.birds.stream().filter(b -> b.home == loft && b.at != 9).mapToInt(Bird::value).sum();
            default -> no(-2);
        };
    }

    int dove(int dove, int what) {
        if (noDove(dove)) {
            return no(-1);
        }
        Bird b = now.birds.get(dove);
        return switch (what) {
            case 0 -> "doysbt".indexOf(b.kind);
            case 1 -> b.home;
            case 2 -> b.age;
            case 3 -> b.at;
            case 4 -> b.clipped;
            case 5 -> b.value();
            case 6 -> now.aim(b);
            default -> no(-2);
        };
    }

    int open(int loft, int is) {
        if (noLoft(loft)) {
            return no(-1);
        }
        if (is < 0 || is > 1) {
            return no(-2);
        }
        boolean was = is == 1 ? !now.open.add(loft) : now.open.remove(loft);
        return was ? 1 : 0;
    }

    int hawk(int v) {
        if (v < 0) {
            return no(-4);
        }
        if (v > 20) {
            return no(-6);
        }
        int was = now.hawk;
        now.hawk = v;
        return was;
    }

    int carry(int dove, int loft) {
        if (noDove(dove) || noLoft(loft)) {
            return no(-1);
        }
        Bird b = now.birds.get(dove);
        if (b.at == 9) {
            return no(-3);
        }
        int was = b.at;
        b.at = loft;
        return was;
    }

    int clip(int dove, int dusks) {
        if (noDove(dove)) {
            return no(-1);
        }
        if (dusks < 0) {
            return no(-4);
        }
        if (dusks > 9) {
            return no(-6);
        }
        int was = now.birds.get(dove).clipped;
        now.birds.get(dove).clipped = dusks;
        return was;
    }

    int go(int dove) {
        if (noDove(dove)) {
            return no(-1);
        }
        Bird b = now.birds.get(dove);
        if (b.at == 9 || b.clipped != 0) {
            return no(-3);
        }
        int aim = now.aim(b);
        b.at = aim == 9 ? b.at : aim;
        return b.at;
    }

    int dusk() {
        return now.dusk == 999 ? no(-6) : now.pass();
    }

    int way(int one, int other) {
        return noLoft(one) || noLoft(other) ? no(-1) : now.way(one, other);
    }

    private int wrong(boolean nobody, int v, int least, int most) {
        if (nobody) {
            return -1;
        }
        if (v < least) {
            return -4;
        }
        return v > most ? -6 : 0;
    }

    int purse(int loft, int n) {
        int w = wrong(noLoft(loft), n, 0, 40);
        return w != 0 ? no(w) : now.behind(n).purse(loft);
    }

    int letting(int loft) {
        if (noLoft(loft)) {
            return 1000000000 - no(-1);
        }
        int more = 0;
        for (Bird b : now.birds) {
            int aim = now.aim(b);
            if (aim != 9) {
                more += (aim == loft ? b.value() : 0) - (b.at == loft ? b.value() : 0);
            }
        }
        return more;
    }

    private int carriedWorth(int set, int loft, int n) {
        World w = now.copy();
        for (int i = 0; i < w.birds.size(); i++) {
            if ((set & 1 << i) != 0) {
                w.birds.get(i).at = loft;
            }
        }
        w = w.behind(n);
        int sum = 0;
        for (int i = 0; i < now.birds.size(); i++) {
            if ((set & 1 << i) != 0 && w.birds.get(i).at == loft) {
                sum += w.birds.get(i).value();
            }
        }
        return sum;
    }

    int stays(int doves, int loft, int n) {
        boolean nobody = noLoft(loft);
        for (int i = 0; i < 32; i++) {
            if ((doves & 1 << i) != 0) {
                nobody |= noDove(i) || now.birds.get(i).at == 9;
            }
        }
        int w = wrong(nobody, n, 0, 40);
        return w != 0 ? no(w) : carriedWorth(doves, loft, n);
    }

    int cheapest(int from, int to, int sum, int n) {
        if (noLoft(from) || noLoft(to) || from == to) {
            return no(-1);
        }
        if (sum < 0 || n < 0) {
            return no(-4);
        }
        if (sum > 999 || n > 40) {
            return no(-6);
        }
        TreeMap<Integer, Integer> byPrice = new TreeMap<>();
        for (int set = 0; set < 1 << now.birds.size(); set++) {
            boolean there = true;
            int price = 0;
            for (int i = 0; i < now.birds.size(); i++) {
                if ((set & 1 << i) != 0) {
                    there &= now.birds.get(i).at == from;
                    price += now.birds.get(i).value();
                }
            }
            if (there && !byPrice.containsKey(price) && carriedWorth(set, to, n) >= sum) {
                byPrice.put(price, set);
            }
        }
        return byPrice.isEmpty() ? -9 : byPrice.firstEntry().getValue();
    }

    int near(int d, int what) {
        int w = wrong(false, d, 0, 18);
        if (w != 0) {
            return no(w);
        }
        if (what < 0 || what > 1) {
            return no(-2);
        }
        List<TreeSet<Integer>> groups = now.groups(d);
        if (what == 0) {
            return groups.size();
        }
        TreeMap<Integer, Integer> byPurse = new TreeMap<>();
        for (TreeSet<Integer> group : groups) {
            byPurse.putIfAbsent(group.stream().mapToInt(now::purse).sum(), group.first());
        }
        return byPurse.isEmpty() ? -9 : byPurse.lastEntry().getValue();
    }

    int whose(int loft, int d) {
        int w = wrong(noLoft(loft), d, 0, 18);
        if (w != 0) {
            return no(w);
        }
        return now.groups(d).stream().filter(g -> g.contains(loft)).findFirst().orElseThrow().first();
    }

    int run(int loft, int sum) {
        int w = wrong(noLoft(loft), sum, 0, 999);
        if (w != 0) {
            return no(w);
        }
        for (int n = 0; n <= 40; n++) {
            if (now.behind(n).purse(loft) < sum) {
                return n;
            }
        }
        return -9;
    }

    int bestOpen(int loft, int n) {
        int w = wrong(noLoft(loft), n, 0, 40);
        if (w != 0) {
            return no(w);
        }
        TreeMap<Integer, Integer> byPurse = new TreeMap<>();
        for (int bits = 0; bits < 1 << now.lofts.size(); bits++) {
            World world = now.copy();
            world.openJust(bits);
            byPurse.putIfAbsent(world.behind(n).purse(loft), bits);
        }
        return byPurse.lastEntry().getValue();
    }

    int homing(int dove) {
        if (noDove(dove)) {
            return no(-1);
        }
        for (int n = 0; n <= 40; n++) {
            Bird b = now.behind(n).birds.get(dove);
            if (b.at == b.home) {
                return n;
            }
        }
        return -9;
    }

    int spare(int n) {
        int w = wrong(false, n, 0, 40);
        if (w != 0) {
            return no(w);
        }
        for (int h = 0; h <= 20; h++) {
            World world = now.copy();
            world.hawk = h;
            if (world.behind(n).lost() == now.lost()) {
                return h;
            }
        }
        return -9;
    }

    int row(int v) {
        if (v < 0) {
            return no(-4);
        }
        if (v > 9 || row.size() == 8) {
            return no(-6);
        }
        row.add(v);
        return row.size();
    }

    int paid(int what) {
        if (what < 0 || what > 1) {
            return no(-2);
        }
        if (row.size() != now.birds.size()) {
            return no(-3);
        }
        List<Integer> found = new ArrayList<>();
        for (int i = 0; i < now.birds.size(); i++) {
            for (int l = 0; l < now.lofts.size(); l++) {
                int at = now.birds.get(i).at;
                if (at != 9 && at != l) {
                    World w = now.copy();
                    w.birds.get(i).at = l;
                    w.pass();
                    if (w.birds.stream().limit(row.size()).map(b -> b.at).toList().equals(row)) {
                        found.add(10 * i + l);
                    }
                }
            }
        }
        return what == 0 ? found.size() : found.isEmpty() ? -9 : found.get(0);
    }

    /** Where all are behind a dusk if one dove is carried, where it can be; not a call of the document's. */
    List<Integer> rowBehindCarrying(int dove, int loft) {
        World w = now.copy();
        if (!noDove(dove) && !noLoft(loft) && w.birds.get(dove).at != 9) {
            w.birds.get(dove).at = loft;
        }
        w.pass();
        return w.birds.stream().limit(now.birds.size()).map(b -> b.at).toList();
    }

    int judge() {
        List<Integer> is = now.birds.stream().map(b -> b.at).toList();
        int answer = Arrays.mismatch(row.toArray(), is.toArray());
        row.clear();
        return answer < 0 ? -9 : answer;
    }

    int seeds(int n, int z, int loft) {
        int w = wrong(noLoft(loft), n, 1, 30);
        if (w != 0) {
            return no(w);
        }
        World world = now.copy();
        long seed = z;
        for (int i = 0; i < n; i++) {
            seed = (int) (seed * 1664525L + 1013904223L);
            world.openJust((int) ((seed < 0 ? seed + 2147483648L : seed) / 256 % (1L << world.lofts.size())));
            world.pass();
        }
        return world.purse(loft);
    }

    int image() {
        image = now.copy();
        return now.dusk;
    }

    int on() {
        if (image == null) {
            return no(-3);
        }
        now = image.copy();
        return now.dusk;
    }

    int count(int what) {
        return switch (what) {
            case 0 -> now.lofts.size();
            case 1 -> now.birds.size();
            case 2 -> now.dusk;
            case 3 -> (int) now.lost();
            case 4 -> now.hawk;
            case 5 -> now.bits();
            case 6 -> now.birds.stream().filter(b -> b.at != 9).mapToInt(Bird::value).sum();
            case 7 -> row.size();
            case 8 -> text.length();
            case 11, 12, 13, 14, 15, 16 -> refusals[what - 10];
            default -> -9;
        };
    }
}
