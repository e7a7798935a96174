import java.util.ArrayList;
import java.util.Arrays;
import java.util.List;
import java.util.Random;

/**
 * Random runs of calls, each answer compared with a model that follows the document's words
 * by trying everything out: all livings, all sets, all rows, day by day.
 */
public final class OracleTest {
    private static final int NONE = -1;
    private static final int HIDDEN = -1000000;
    private static int wrong = 0;

    public static void main(String[] args) {
        for (int seed = 1; seed <= 120 && wrong < 20; seed++) {
            new Run(seed).go();
        }
        System.out.println(wrong == 0 ? "OracleTest: all answers are as due" : "OracleTest: " + wrong + " wrong");
        if (wrong != 0) {
            System.exit(1);
        }
    }

    // ---- laws as trees: made at random, told as texts, and worked out here by themselves

    private abstract static class Node {
        abstract long value(int[] letters);

        abstract String told();
    }

    private static final class Leaf extends Node {
        final int letter;
        final int number;

        Leaf(int letter, int number) {
            this.letter = letter;
            this.number = number;
        }

        long value(int[] letters) {
            return letter < 0 ? number : letters[letter];
        }

        String told() {
            return letter < 0 ? Integer.toString(number) : "abxyn".substring(letter, letter + 1);
        }
    }

    private static final class Join extends Node {
        final char sign;
        final Node left;
        final Node right;

        Join(char sign, Node left, Node right) {
            this.sign = sign;
            this.left = left;
            this.right = right;
        }

        long value(int[] letters) {
            long l = left.value(letters);
            long r = right.value(letters);
            long v;
            switch (sign) {
                case '+': v = l + r; break;
                case '-': v = l - r; break;
                case '*': v = l * r; break;
                case '/': v = r == 0 ? 0 : l / r; break;
                case '=': return l == r ? 1 : 0;
                case '<': return l < r ? 1 : 0;
                case '>': return l > r ? 1 : 0;
                case '&': return l != 0 && r != 0 ? 1 : 0;
                default: return l != 0 || r != 0 ? 1 : 0;
            }
            return v > 1000000 ? 1000000 : v < -1000000 ? -1000000 : v;
        }

        String told() {
            return left.told() + sign + right.told();
        }
    }

    private static final class Wrap extends Node {
        final char open;
        final Node inner;

        Wrap(char open, Node inner) {
            this.open = open;
            this.inner = inner;
        }

        long value(int[] letters) {
            long v = inner.value(letters);
            return open == '!' ? (v == 0 ? 1 : 0) : v;
        }

        String told() {
            return open == '!' ? "!" + inner.told() : open == '(' ? "(" + inner.told() + ")" : "[" + inner.told() + "]";
        }
    }

    private static final class Law {
        final List<Node> conditions = new ArrayList<>();
        final List<Node> sums = new ArrayList<>();

        long worth(int[] letters) {
            for (int k = 0; k < sums.size(); k++) {
                if (conditions.get(k) == null || conditions.get(k).value(letters) != 0) {
                    return sums.get(k).value(letters);
                }
            }
            return 0;
        }

        String told() {
            StringBuilder text = new StringBuilder();
            for (int k = 0; k < sums.size(); k++) {
                text.append(k == 0 ? "y:" : ";y:");
                text.append(conditions.get(k) == null ? "" : conditions.get(k).told() + "?");
                text.append(sums.get(k).told());
            }
            return text.toString();
        }
    }

    private static final class LawMaker {
        final Random random;

        LawMaker(Random random) {
            this.random = random;
        }

        Node atom(int depth) {
            int kind = random.nextInt(depth > 0 ? 8 : 6);
            if (kind >= 6) {
                return new Wrap('[', sum(depth - 1));
            }
            int[] usual = {0, 1, 2, 5, 10, 29, 30, 31, 100, 180, 359, 360, 720, 9999};
            return kind < 2 ? new Leaf(-1, usual[random.nextInt(usual.length)]) : new Leaf(random.nextInt(5), 0);
        }

        Node term(int depth) {
            Node node = atom(depth);
            while (random.nextInt(4) == 0) {
                node = new Join("*/".charAt(random.nextInt(2)), node, atom(depth));
            }
            return node;
        }

        Node sum(int depth) {
            Node node = term(depth);
            while (random.nextInt(3) == 0) {
                node = new Join("+-".charAt(random.nextInt(2)), node, term(depth));
            }
            return node;
        }

        Node unit(int depth) {
            int kind = random.nextInt(depth > 0 ? 8 : 6);
            if (kind == 6) {
                return new Wrap('!', unit(depth - 1));
            }
            if (kind == 7) {
                return new Wrap('(', condition(depth - 1));
            }
            return new Join("=<>".charAt(random.nextInt(3)), sum(depth), sum(depth));
        }

        Node truth(int depth) {
            Node node = unit(depth);
            while (random.nextInt(4) == 0) {
                node = new Join('&', node, unit(depth));
            }
            return node;
        }

        Node condition(int depth) {
            Node node = truth(depth);
            while (random.nextInt(4) == 0) {
                node = new Join('|', node, truth(depth));
            }
            return node;
        }

        Law law() {
            Law law = new Law();
            do {
                law.conditions.add(random.nextInt(5) > 0 ? condition(6) : null);
                law.sums.add(random.nextInt(2) == 0 ? new Leaf(-1, random.nextInt(3)) : sum(6));
            } while (random.nextInt(3) == 0);
            return law;
        }
    }

    // ---- the model

    private static final class Model {
        int people;
        int houses;
        int[] born = new int[6];
        int[] home = new int[6];
        int[] rooms = new int[4];
        int[] price = new int[4];
        int[][] worth = new int[6][4];
        int today;
        int moved;
        int dead;
        long draws;
        int risk;
        Law law;
        List<Law> laws = new ArrayList<>();
        List<int[]> said = new ArrayList<>();
        Object[] image;

        int age(int b, int day) {
            int age = 0;
            while (b + 360 * (age + 1) <= day) {
                age++;
            }
            while (b + 360 * age > day) {
                age--;
            }
            return age;
        }

        int date(int day) {
            return ((day % 360) + 360) % 360 + 1;
        }

        boolean births(int one, int other, int day) {
            int first = one <= other ? one : other;
            int second = one <= other ? other : one;
            if (law == null) {
                return age(one, day) == age(other, day);
            }
            int[] letters = {age(first, day), age(second, day), second - first, date(day), people};
            return law.worth(letters) > 0;
        }

        boolean clash(int i, int j, int day) {
            return births(born[i], born[j], day);
        }

        /** The living is lawful for those in it (homes of -1 are nowhere). */
        int[] unlawful(int[] homes, int day) {
            for (int h = 0; h < houses; h++) {
                int many = 0;
                for (int i = 0; i < people; i++) {
                    if (homes[i] == h) {
                        many++;
                        for (int j = i + 1; j < people; j++) {
                            if (homes[j] == h && clash(i, j, day)) {
                                return new int[] {1, h};
                            }
                        }
                    }
                }
                if (many > rooms[h]) {
                    return new int[] {2, h};
                }
            }
            return null;
        }

        boolean[][] ever(int days) {
            boolean[][] found = new boolean[people][people];
            for (int i = 0; i < people; i++) {
                for (int j = 0; j < people; j++) {
                    for (int d = 0; d < days && i != j; d++) {
                        found[i][j] |= clash(i, j, today + d);
                    }
                }
            }
            return found;
        }

        int judge(int days, int what) {
            for (int d = today; d < today + days; d++) {
                int[] why = unlawful(home, d);
                if (why != null) {
                    return what == 0 ? d : why[what - 1];
                }
            }
            return what == 1 ? 0 : NONE;
        }

        int worst(int days) {
            int most = 0;
            int found = NONE;
            for (int i = 0; i < people; i++) {
                for (int j = i + 1; j < people; j++) {
                    int many = 0;
                    for (int d = today; d < today + days; d++) {
                        many += home[i] >= 0 && home[i] == home[j] && clash(i, j, d) ? 1 : 0;
                    }
                    if (many > most) {
                        most = many;
                        found = 10 * i + j;
                    }
                }
            }
            return found;
        }

        /** All ways to give each person one of so many parts; the least greatest part that works, or 99. */
        int leastPart(int days, int parts) {
            boolean[][] ever = ever(days);
            int least = 99;
            int all = (int) Math.pow(parts, people);
            for (int code = 0; code < all; code++) {
                int[] part = digits(code, parts);
                int[] size = new int[parts];
                boolean fine = true;
                for (int i = 0; i < people; i++) {
                    size[part[i]]++;
                    for (int j = 0; j < i; j++) {
                        fine &= part[i] != part[j] || !ever[i][j];
                    }
                }
                if (fine) {
                    least = Math.min(least, Arrays.stream(size).max().getAsInt());
                }
            }
            return least;
        }

        int[] digits(int code, int base) {
            int[] found = new int[people];
            for (int i = people - 1; i >= 0; i--) {
                found[i] = code % base;
                code /= base;
            }
            return found;
        }

        int bound(int days) {
            int most = 0;
            for (int d = today; d < today + days; d++) {
                for (int set = 1; set < 1 << people; set++) {
                    boolean all = true;
                    for (int i = 0; i < people && all; i++) {
                        for (int j = i + 1; j < people && all; j++) {
                            all = (set >> i & 1) == 0 || (set >> j & 1) == 0 || clash(i, j, d);
                        }
                    }
                    most = all ? Math.max(most, Integer.bitCount(set)) : most;
                }
            }
            return most;
        }

        int lasts(int days, int set) {
            boolean[][] ever = ever(days);
            for (int code = 0; code < 1 << 2 * people; code++) {
                int[] part = digits(code, 4);
                int[] size = new int[4];
                boolean fine = true;
                for (int i = 0; i < people; i++) {
                    if ((set >> i & 1) == 0) {
                        fine &= part[i] == 0;
                        continue;
                    }
                    fine &= part[i] < houses && ++size[part[i]] <= rooms[part[i]];
                    for (int j = 0; j < i; j++) {
                        fine &= (set >> j & 1) == 0 || part[i] != part[j] || !ever[i][j];
                    }
                }
                if (fine) {
                    return code;
                }
            }
            return NONE;
        }

        List<Integer> members(int set) {
            List<Integer> found = new ArrayList<>();
            for (int i = 0; i < people; i++) {
                if ((set >> i & 1) != 0) {
                    found.add(i);
                }
            }
            return found;
        }

        /** All sets but the empty one, by members in order where two first differ. */
        List<Integer> setsInOrder() {
            List<Integer> sets = new ArrayList<>();
            for (int set = 1; set < 1 << people; set++) {
                sets.add(set);
            }
            sets.sort((a, b) -> {
                List<Integer> one = members(a);
                List<Integer> other = members(b);
                for (int k = 0; k < Math.min(one.size(), other.size()); k++) {
                    if (!one.get(k).equals(other.get(k))) {
                        return one.get(k) - other.get(k);
                    }
                }
                return one.size() - other.size();
            });
            return sets;
        }

        int bars(int days) {
            if (lasts(days, (1 << people) - 1) != NONE) {
                return NONE;
            }
            for (int size = 1; size <= people; size++) {
                for (int set : setsInOrder()) {
                    if (Integer.bitCount(set) == size && lasts(days, set) == NONE) {
                        return set;
                    }
                }
            }
            return NONE;
        }

        int guests(int house, int days, int what) {
            boolean[][] ever = ever(days);
            for (int size = rooms[house]; size >= 1; size--) {
                for (int set : setsInOrder()) {
                    boolean fine = Integer.bitCount(set) == size;
                    for (int i : members(set)) {
                        for (int j : members(set)) {
                            fine &= i == j || !ever[i][j];
                        }
                    }
                    if (fine) {
                        return what == 0 ? size : set;
                    }
                }
            }
            return NONE;
        }

        int moves(int days) {
            if (people > 5 || houses > 3) {
                return NONE;
            }
            int all = (int) Math.pow(houses, people);
            int[] costs = null;
            for (int d = today; d < today + days; d++) {
                int[] next = new int[all];
                Arrays.fill(next, 1000000);
                boolean some = false;
                for (int s = 0; s < all; s++) {
                    int[] to = digits(s, houses);
                    if (unlawful(to, d) != null) {
                        continue;
                    }
                    some = true;
                    for (int t = 0; t < (costs == null ? 1 : all); t++) {
                        int[] from = costs == null ? home : digits(t, houses);
                        int cost = costs == null ? 0 : costs[t];
                        for (int i = 0; i < people; i++) {
                            cost += from[i] == to[i] ? 0 : 1;
                        }
                        next[s] = Math.min(next[s], cost);
                    }
                }
                if (!some) {
                    return NONE;
                }
                costs = next;
            }
            return Arrays.stream(costs).min().getAsInt();
        }

        /** Rows in order of length, then of their steps: the first that ends in the goal. */
        List<Integer> night(int living) {
            if (people > 5 || houses > 3 || living < 0 || living >= 1 << 2 * people) {
                return null;
            }
            int[] goal = digits(living, 4);
            for (int i = 0; i < people; i++) {
                if (goal[i] >= houses || home[i] < 0) {
                    return null;
                }
            }
            List<int[]> states = new ArrayList<>();
            List<List<Integer>> rows = new ArrayList<>();
            states.add(Arrays.copyOf(home, people));
            rows.add(new ArrayList<>());
            for (int k = 0; k < states.size(); k++) {
                if (Arrays.equals(states.get(k), goal)) {
                    return rows.get(k);
                }
                for (int i = 0; i < people; i++) {
                    for (int h = 0; h < houses; h++) {
                        int[] next = states.get(k).clone();
                        next[i] = h;
                        boolean was = false;
                        for (int[] state : states) {
                            was |= Arrays.equals(state, next);
                        }
                        if (!was && unlawful(next, today) == null) {
                            List<Integer> row = new ArrayList<>(rows.get(k));
                            row.add(10 * i + h);
                            states.add(next);
                            rows.add(row);
                        }
                    }
                }
            }
            return null;
        }

        boolean[] lodgers(int house, int years, int days) {
            boolean[] can = new boolean[361];
            for (int date = 1; date <= 360; date++) {
                can[date] = true;
                for (int i = 0; i < people; i++) {
                    for (int d = 0; d < days && home[i] == house; d++) {
                        can[date] &= !births(date - 1 - 360 * years, born[i], today + d);
                    }
                }
            }
            return can;
        }

        boolean[] knowns(int years) {
            boolean[] can = new boolean[361];
            for (int date = 1; date <= 360; date++) {
                can[date] = true;
                for (int[] one : said) {
                    can[date] &= !births(date - 1 - 360 * years, born[one[0]], one[1]);
                }
            }
            return can;
        }

        boolean may(int person, int house, int day, int without) {
            int others = 0;
            for (int i = 0; i < people; i++) {
                if (i != person && i != without && home[i] == house) {
                    if (clash(i, person, day)) {
                        return false;
                    }
                    others++;
                }
            }
            return others < rooms[house];
        }

        int rather(int person) {
            int base = home[person] < 0 ? 0 : worth[person][home[person]] - price[home[person]];
            int found = NONE;
            for (int h = houses - 1; h >= 0; h--) {
                int v = worth[person][h] - price[h];
                boolean best = found == NONE || v >= worth[person][found] - price[found];
                if (may(person, h, today, NONE) && v > base && best) {
                    found = h;
                }
            }
            return found;
        }

        int turn() {
            int[] before = home.clone();
            int made = 0;
            int still = 0;
            for (int i = 0; still < people; i = (i + 1) % people) {
                int h = rather(i);
                still = h == NONE ? still + 1 : 0;
                if (h != NONE) {
                    home[i] = h;
                    made++;
                }
                if (made > 60) {
                    home = before;
                    return NONE;
                }
            }
            return made;
        }

        int best(int what) {
            int most = -1000000;
            int found = 0;
            for (int code = 0; code < Math.pow(5, people); code++) {
                int[] told = digits(code, 5);
                int sum = 0;
                boolean fine = true;
                for (int i = 0; i < people; i++) {
                    told[i]--;
                    fine &= told[i] < houses;
                    sum += told[i] < 0 || !fine ? 0 : worth[i][told[i]] - price[told[i]];
                }
                if (fine && sum > most && unlawful(told, today) == null) {
                    most = sum;
                    found = code;
                }
            }
            return what == 0 ? most : found;
        }

        void oneDay() {
            today++;
            for (int i = 0; i < people; i++) {
                boolean quarrel = false;
                for (int j = 0; j < people; j++) {
                    quarrel |= j != i && home[i] >= 0 && home[j] == home[i] && clash(i, j, today);
                }
                if (quarrel && date(born[i]) == date(today)) {
                    home[i] = lowest(i);
                    moved++;
                }
            }
            for (int i = 0; i < people; i++) {
                if (home[i] < 0 && lowest(i) >= 0) {
                    home[i] = lowest(i);
                    moved++;
                }
            }
            for (int i = 0; i < people && date(today) == 360 && risk > 0; i++) {
                draws = draws * 6364136223846793005L + 1442695040888963407L;
                if (Long.remainderUnsigned(draws >>> 33, 100) < risk) {
                    born[i] = today;
                    dead++;
                }
            }
        }

        int lowest(int person) {
            for (int h = 0; h < houses; h++) {
                if (may(person, h, today, NONE)) {
                    return h;
                }
            }
            return NONE;
        }

        int free(int person, int days) {
            int bits = 0;
            for (int h = 0; h < houses; h++) {
                boolean can = true;
                for (int d = 0; d < days; d++) {
                    can &= may(person, h, today + d, NONE);
                }
                bits |= can ? 1 << h : 0;
            }
            return bits;
        }

        int till(int person) {
            if (home[person] < 0) {
                return NONE;
            }
            for (int d = 0; d < 720; d++) {
                for (int i = 0; i < people; i++) {
                    if (i != person && home[i] == home[person] && clash(i, person, today + d)) {
                        return d;
                    }
                }
            }
            return 720;
        }

        List<Integer> swaps() {
            List<Integer> found = new ArrayList<>();
            for (int i = 0; i < people; i++) {
                for (int j = i + 1; j < people; j++) {
                    if (home[i] >= 0 && home[j] >= 0 && home[i] != home[j]
                            && may(i, home[j], today, j) && may(j, home[i], today, i)) {
                        found.add(10 * i + j);
                    }
                }
            }
            return found;
        }

        int peak(int days, int what) {
            int most = -1;
            int first = 0;
            for (int d = today; d < today + days; d++) {
                int many = 0;
                for (int i = 0; i < people; i++) {
                    for (int j = 0; j < i; j++) {
                        many += clash(i, j, d) ? 1 : 0;
                    }
                }
                if (many > most) {
                    most = many;
                    first = d;
                }
            }
            return what == 0 ? first : most;
        }
    }

    // ---- a run of calls

    private static final class Run {
        final int seed;
        final Random random;
        final AgeRoofs roofs = new AgeRoofs();
        final Model model = new Model();

        Run(int seed) {
            this.seed = seed;
            this.random = new Random(seed);
        }

        void due(String call, long got, long want) {
            if (got != want) {
                wrong++;
                System.out.println("seed " + seed + ": " + call + " answered " + got + ", due is " + want);
            }
        }

        void put(String text) {
            roofs.end(0);
            for (int at = 0; at < text.length(); at += 20) {
                int[] five = new int[5];
                for (int k = 0; k < 20 && at + k < text.length(); k++) {
                    five[k / 4] |= text.charAt(at + k) << 24 - 8 * (k % 4);
                }
                due("feed", roofs.feed(five[0], five[1], five[2], five[3], five[4]), Math.min(text.length(), at + 20));
            }
        }

        int pick(int... some) {
            return some[random.nextInt(some.length)];
        }

        int span() {
            return pick(1, 1, 2, 5, 30, 100, 359, 360, 361, 720, 1 + random.nextInt(720));
        }

        void newParish() {
            Model m = model;
            m.people = 1 + random.nextInt(6);
            m.houses = 1 + random.nextInt(4);
            StringBuilder text = new StringBuilder();
            int years = random.nextInt(100);
            int spread = pick(1, 2, 3);
            for (int i = 0; i < m.people; i++) {
                int y = Math.min(99, years + random.nextInt(spread));
                int date = pick(1, 360, 1 + random.nextInt(360), 1 + random.nextInt(360));
                m.home[i] = random.nextInt(m.houses + 1) - 1;
                m.born[i] = date - 1 - 360 * y;
                text.append(i == 0 ? "p" : ";p").append("y").append(y).append("d").append(date);
                text.append(m.home[i] < 0 ? "" : "h" + m.home[i]);
            }
            for (int h = 0; h < m.houses; h++) {
                m.rooms[h] = 1 + random.nextInt(4);
                m.price[h] = random.nextInt(30);
                text.append(";rm").append(m.rooms[h]).append("c").append(m.price[h]);
            }
            m.worth = new int[6][4];
            m.today = 0;
            m.moved = 0;
            m.dead = 0;
            m.law = null;
            m.said.clear();
            m.image = null;
            put(text.toString());
            due("fault(0) of " + text, roofs.fault(0), NONE);
            due("text(0) of " + text, roofs.text(0), m.people);
        }

        void newLaw() {
            Law law = new LawMaker(random).law();
            String text = law.told();
            for (int k = 0; k < 1000 && text.length() > 160; k++) {
                law = new LawMaker(random).law();
                text = law.told();
            }
            put(text);
            boolean full = model.laws.size() == 4;
            due("fault(1) of " + text, roofs.fault(1), NONE);
            due("text(1) of " + text, roofs.text(1), full ? NONE : model.laws.size());
            if (!full) {
                model.laws.add(law);
            }
        }

        void go() {
            newParish();
            for (int call = 0; call < 200 && wrong < 20; call++) {
                step();
                look();
            }
        }

        void look() {
            Model m = model;
            for (int i = 0; i < m.people; i++) {
                due("person(" + i + ", 0)", roofs.person(i, 0), m.age(m.born[i], m.today));
                due("person(" + i + ", 1)", roofs.person(i, 1), m.date(m.born[i]));
                due("person(" + i + ", 2)", roofs.person(i, 2), m.home[i]);
                due("person(" + i + ", 3)", roofs.person(i, 3), m.born[i]);
            }
            int[] counts = {m.people, m.houses, m.laws.size(), roofs.count(3), m.today, m.said.size(), m.moved, m.dead};
            for (int k = 0; k < counts.length; k++) {
                due("count(" + k + ")", roofs.count(k), counts[k]);
            }
        }

        void step() {
            Model m = model;
            int person = random.nextInt(m.people);
            int other = random.nextInt(m.people);
            int house = random.nextInt(m.houses);
            int days = span();
            int what = random.nextInt(2);
            switch (random.nextInt(32)) {
                case 0: changes(random.nextInt(8)); break;
                case 1: changes(random.nextInt(8)); break;
                case 2: {
                    int day = random.nextInt(10000);
                    int want = person == other ? NONE : m.clash(person, other, day) ? 1 : 0;
                    due("clash", roofs.clash(person, other, day), want);
                    break;
                }
                case 3: {
                    int many = 0;
                    int first = NONE;
                    for (int d = days - 1; d >= 0 && person != other; d--) {
                        if (m.clash(person, other, m.today + d)) {
                            many++;
                            first = m.today + d;
                        }
                    }
                    due("clashes 0", roofs.clashes(person, other, days, 0), person == other ? HIDDEN : many);
                    due("clashes 1", roofs.clashes(person, other, days, 1), person == other ? HIDDEN : first);
                    break;
                }
                case 4: case 5: {
                    int to = random.nextInt(m.houses + 1) - 1;
                    due("move", roofs.move(person, to) ? 1 : 0, m.home[person] == to ? 0 : 1);
                    m.home[person] = to;
                    break;
                }
                case 6: {
                    for (int k = 0; k < 3; k++) {
                        due("judge " + k, roofs.judge(days, k), m.judge(days, k));
                    }
                    break;
                }
                case 7: due("worst", roofs.worst(days), m.worst(days)); break;
                case 8: {
                    int parts = 1;
                    while (m.leastPart(days, parts) == 99) {
                        parts++;
                    }
                    due("fewest 0", roofs.fewest(days, 0), parts);
                    due("fewest 1", roofs.fewest(days, 1), m.bound(days));
                    break;
                }
                case 9: due("lasts", roofs.lasts(days), m.lasts(days, (1 << m.people) - 1)); break;
                case 10: due("bars", roofs.bars(days), m.bars(days)); break;
                case 11: {
                    int few = Math.min(days, m.people > 4 ? 12 : 60);
                    m.today = m.date(m.born[person]) - 1;
                    roofs.today(m.today);
                    due("moves", roofs.moves(few), m.moves(few));
                    break;
                }
                case 12: case 13: nights(); break;
                case 14: {
                    int years = Math.max(0, Math.min(99, -m.born[person] / 360 + random.nextInt(4) - 1));
                    int few = Math.min(days, m.law == null ? 720 : 40);
                    marks("lodger", m.lodgers(house, years, few), roofs.lodger(house, years, few, 0),
                        roofs.lodger(house, years, few, 1), NONE, roofs.lodger(house, years, few, 2));
                    break;
                }
                case 15: {
                    int day = random.nextInt(10000);
                    boolean full = m.said.size() == 20;
                    due("say", roofs.say(person, day), full ? NONE : m.said.size() + 1);
                    if (!full) {
                        m.said.add(new int[] {person, day});
                    }
                    break;
                }
                case 16: {
                    int years = Math.max(0, Math.min(99, -m.born[person] / 360 + random.nextInt(4) - 1));
                    marks("known", m.knowns(years), roofs.known(years, 0), roofs.known(years, 1), roofs.known(years, 2), HIDDEN);
                    break;
                }
                case 17: case 18: case 19: {
                    int v = pick(0, 10, 11, 20, 40, 99, random.nextInt(100));
                    due("worth", roofs.worth(person, house, v) ? 1 : 0, 1);
                    m.worth[person][house] = v;
                    break;
                }
                case 20: due("rather", roofs.rather(person), m.rather(person)); break;
                case 21: due("turn", roofs.turn(), m.turn()); break;
                case 22: due("best", roofs.best(what), m.best(what)); break;
                case 23: {
                    boolean late = m.today + days > 9999;
                    for (int d = 0; d < days && !late; d++) {
                        m.oneDay();
                    }
                    due("days", roofs.days(days), late ? NONE : m.moved);
                    break;
                }
                case 24: due("free", roofs.free(person, days), m.free(person, days)); break;
                case 25: due("till", roofs.till(person), m.till(person)); break;
                case 26: {
                    List<Integer> swaps = m.swaps();
                    due("swap", roofs.swap(NONE), swaps.size());
                    for (int k = 0; k < 16; k++) {
                        due("swap " + k, roofs.swap(k), k < swaps.size() ? swaps.get(k) : NONE);
                    }
                    break;
                }
                case 27: due("peak", roofs.peak(days, what), m.peak(days, what)); break;
                case 28: {
                    int parts = 1 + random.nextInt(6);
                    int least = m.leastPart(days, parts);
                    due("wants", roofs.wants(days, parts), least == 99 ? NONE : least);
                    break;
                }
                case 29: due("guests", roofs.guests(house, days, what), m.guests(house, days, what)); break;
                case 30: twins(); break;
                default: imageOrBack(); break;
            }
        }

        void changes(int kind) {
            Model m = model;
            switch (kind) {
                case 0: newLaw(); break;
                case 1: case 2: {
                    int law = random.nextInt(m.laws.size() + 1) - 1;
                    due("law", roofs.law(law) ? 1 : 0, 1);
                    m.law = law < 0 ? null : m.laws.get(law);
                    break;
                }
                case 3: m.risk = pick(0, 0, 5, 50, 100); due("risk", roofs.risk(m.risk) ? 1 : 0, 1); break;
                case 4: m.draws = random.nextLong(); roofs.seed(m.draws); break;
                case 5: case 6: {
                    m.today = pick(0, 359, 9999, random.nextInt(10000), random.nextInt(720));
                    due("today", roofs.today(m.today) ? 1 : 0, 1);
                    break;
                }
                default:
                    if (random.nextInt(3) == 0) {
                        newParish();
                    }
                    break;
            }
        }

        void nights() {
            Model m = model;
            int goal = 0;
            for (int i = 0; i < m.people; i++) {
                if (m.home[i] < 0 && random.nextInt(4) > 0) {
                    m.home[i] = random.nextInt(m.houses);
                    roofs.move(i, m.home[i]);
                }
                goal = 4 * goal + random.nextInt(random.nextInt(9) == 0 ? 4 : m.houses);
            }
            List<Integer> row = m.night(goal);
            due("night " + goal, roofs.night(goal, NONE), row == null ? NONE : row.size());
            for (int k = 0; k < 8; k++) {
                due("night " + goal + " " + k, roofs.night(goal, k), row == null || k >= row.size() ? NONE : row.get(k));
            }
        }

        void marks(String call, boolean[] can, int many, int least, int greatest, int longest) {
            int wantMany = 0;
            int wantLeast = NONE;
            int wantGreatest = NONE;
            int wantLongest = 0;
            for (int from = 1; from <= 360; from++) {
                wantMany += can[from] ? 1 : 0;
                wantLeast = can[from] && wantLeast == NONE ? from : wantLeast;
                wantGreatest = can[from] ? from : wantGreatest;
                int to = from;
                while (to <= 360 && can[to]) {
                    to++;
                }
                wantLongest = Math.max(wantLongest, to - from);
            }
            due(call + " many", many, wantMany);
            due(call + " least", least, wantLeast);
            if (call.equals("known")) {
                due(call + " greatest", greatest, wantGreatest);
            } else {
                due(call + " longest", longest, wantLongest);
            }
        }

        void twins() {
            Model m = model;
            int least = Integer.MAX_VALUE;
            int found = NONE;
            for (int i = 0; i < m.people; i++) {
                for (int j = i + 1; j < m.people; j++) {
                    int apart = Math.abs(m.born[i] - m.born[j]);
                    if (apart < least) {
                        least = apart;
                        found = 10 * i + j;
                    }
                }
            }
            due("twins 0", roofs.twins(0), found);
            due("twins 1", roofs.twins(1), found == NONE ? NONE : least);
        }

        void imageOrBack() {
            Model m = model;
            if (random.nextInt(2) == 0) {
                m.image = new Object[] {m.today, m.home.clone(), m.born.clone(), m.draws, m.moved, m.dead};
                due("image", roofs.image(), m.today);
                return;
            }
            int got = roofs.back();
            if (m.image != null) {
                m.today = (Integer) m.image[0];
                m.home = ((int[]) m.image[1]).clone();
                m.born = ((int[]) m.image[2]).clone();
                m.draws = (Long) m.image[3];
                m.moved = (Integer) m.image[4];
                m.dead = (Integer) m.image[5];
            }
            due("back", got, m.image == null ? NONE : m.today);
        }
    }
}
