import java.util.NoSuchElementException;

/**
 * A parish of people and houses, and laws by which two must not live under one roof.
 * Every row that a call needs is made here once, so that no call makes objects of its own.
 */
public final class AgeRoofs {
    public static final int NONE = -1;
    public static final int HIDDEN = -1000000;

    private static final int PARISH_SORT = 0;
    private static final int LAW_SORT = 1;
    private static final int NO_SUCH_SORT = -2;

    private static final int YEAR = 360;
    private static final int LAST_DAY = 9999;
    private static final int LONGEST_SPAN = 720;
    private static final int MOST_YEARS = 99;
    private static final int MOST_PEOPLE = 6;
    private static final int MOST_HOUSES = 4;
    private static final int MOST_PARTS = 6;
    private static final int MOST_LAWS = 4;
    private static final int MOST_SAID = 20;
    private static final int MOST_WORTH = 99;
    private static final int MOST_RISK = 100;
    private static final int MOST_TURNS = 60;
    private static final int MOST_MOVERS = 5;
    private static final int MOST_MOVERS_HOUSES = 3;

    private final Tape tape;
    private final ParishReader parishReader;
    private final LawReader lawReader;
    private final Parish parish;
    private final Pairs pairs;
    private final Housing housing;
    private final Livings livings;
    private final Dates dates;

    public AgeRoofs() {
        tape = new Tape();
        parishReader = new ParishReader();
        lawReader = new LawReader();
        parish = new Parish();
        pairs = new Pairs();
        housing = new Housing();
        livings = new Livings();
        dates = new Dates();
    }

    public int feed(int a, int b, int c, int d, int e) {
        return tape.add(a, b, c, d, e) ? tape.length : NONE;
    }

    public boolean end(int n) {
        return tape.cut(n);
    }

    public int fault(int sort) {
        if (sort == PARISH_SORT) {
            return parishReader.reads(tape) ? NONE : tape.wrong;
        }
        if (sort == LAW_SORT) {
            return lawReader.reads(tape) ? NONE : tape.wrong;
        }
        return NO_SUCH_SORT;
    }

    public int text(int sort) {
        if (sort == PARISH_SORT && parishReader.reads(tape)) {
            parish.settle(parishReader);
            tape.cut(0);
            return parish.people;
        }
        if (sort == LAW_SORT && parish.laws.kept < MOST_LAWS && lawReader.reads(tape)) {
            tape.cut(0);
            return parish.laws.keep(lawReader.draft);
        }
        return NONE;
    }

    public int person(int person, int what) throws NoSuchElementException {
        if (!isPerson(person) || !within(what, 0, 3)) {
            throw new NoSuchElementException("no such person, or no such question");
        }
        int born = parish.now.born[person];
        switch (what) {
            case 0:
                return ageOn(parish.now.today, born);
            case 1:
                return dateOf(born);
            case 2:
                return parish.now.home[person];
            default:
                return born;
        }
    }

    public int house(int house, int what) {
        if (!isHouse(house)) {
            return NONE;
        }
        switch (what) {
            case 0:
                return parish.rooms[house];
            case 1:
                return parish.prices[house];
            case 2:
                return Integer.bitCount(parish.dwellers(house));
            case 3:
                return parish.dwellers(house);
            default:
                return NONE;
        }
    }

    public boolean law(int law) {
        if (!stands() || !within(law, NONE, parish.laws.kept - 1)) {
            return false;
        }
        parish.laws.holding = law;
        return true;
    }

    public boolean today(int day) {
        if (!stands() || !within(day, 0, LAST_DAY)) {
            return false;
        }
        parish.now.today = day;
        return true;
    }

    public int clash(int one, int other, int day) {
        if (!areTwo(one, other) || !within(day, 0, LAST_DAY)) {
            return NONE;
        }
        return parish.atOdds(one, other, day) ? 1 : 0;
    }

    public int clashes(int one, int other, int days, int what) {
        if (!areTwo(one, other) || !isSpan(days) || !within(what, 0, 1)) {
            return HIDDEN;
        }
        if (what == 0) {
            return parish.daysAtOdds(one, other, days);
        }
        int peace = parish.daysOfPeace(parish.now.born[one], parish.now.born[other], days);
        return peace < days ? parish.now.today + peace : NONE;
    }

    public boolean move(int person, int house) {
        if (!isPerson(person) || (house != NONE && !isHouse(house))) {
            return false;
        }
        if (parish.now.home[person] == house) {
            return false;
        }
        parish.now.home[person] = house;
        return true;
    }

    public int judge(int days, int what) {
        if (!stands() || !isSpan(days) || !within(what, 0, 2)) {
            return HIDDEN;
        }
        pairs.look(parish, days);
        int unlawful = pairs.firstUnlawful(parish);
        if (unlawful == days) {
            return what == 1 ? 0 : NONE;
        }
        if (what == 0) {
            return parish.now.today + unlawful;
        }
        int house = pairs.unlawfulHouse(parish, unlawful);
        if (what == 2) {
            return house;
        }
        return pairs.atOddsWithin(parish.dwellers(house), unlawful) ? 1 : 2;
    }

    public int worst(int days) {
        if (!stands() || !isSpan(days)) {
            return NONE;
        }
        int most = 0;
        int found = NONE;
        for (int one = 0; one < parish.people; one++) {
            for (int other = one + 1; other < parish.people; other++) {
                int many = parish.underOneRoof(one, other) ? parish.daysAtOdds(one, other, days) : 0;
                if (many > most) {
                    most = many;
                    found = 10 * one + other;
                }
            }
        }
        return found;
    }

    public int fewest(int days, int what) {
        if (!stands() || !isSpan(days) || !within(what, 0, 1)) {
            return NONE;
        }
        pairs.look(parish, days);
        return what == 0 ? housing.fewestParts(parish.people, pairs) : pairs.greatestQuarrel();
    }

    public int lasts(int days) {
        if (!stands() || !isSpan(days)) {
            return NONE;
        }
        pairs.look(parish, days);
        return housing.lowestLiving(parish, pairs, everybody());
    }

    public int bars(int days) {
        if (!stands() || !isSpan(days)) {
            return NONE;
        }
        pairs.look(parish, days);
        int found = NONE;
        for (int set = 1; set <= everybody(); set++) {
            boolean better = found == NONE || isSmaller(set, found);
            if (better && housing.lowestLiving(parish, pairs, set) == NONE) {
                found = set;
            }
        }
        return found;
    }

    public int moves(int days) {
        if (!isSmallParish() || !isSpan(days)) {
            return NONE;
        }
        pairs.look(parish, days);
        livings.lay(parish);
        return livings.fewestMoves(parish, pairs);
    }

    public int night(int living, int k) {
        if (!isSmallParish() || k < NONE || parish.homeless() > 0) {
            return NONE;
        }
        pairs.look(parish, 1);
        livings.lay(parish);
        int from = livings.stateOf(parish);
        int to = livings.stateTold(living);
        if (to == NONE) {
            return NONE;
        }
        int steps = livings.stepsBetween(from, to, pairs.on[0]);
        if (k == NONE || steps == NONE) {
            return steps;
        }
        return k < steps ? livings.stepOfRow(from, steps, k) : NONE;
    }

    public int lodger(int house, int years, int days, int what) {
        if (!isHouse(house) || !within(years, 0, MOST_YEARS) || !isSpan(days) || !within(what, 0, 2)) {
            return HIDDEN;
        }
        for (int date = 1; date <= YEAR; date++) {
            dates.mark(date, parish.bearsLodger(house, bornOf(years, date), days));
        }
        switch (what) {
            case 0:
                return dates.many();
            case 1:
                return dates.least();
            default:
                return dates.longestRow();
        }
    }

    public int say(int person, int day) {
        if (!isPerson(person) || !within(day, 0, LAST_DAY) || parish.said >= MOST_SAID) {
            return NONE;
        }
        return parish.remember(person, day);
    }

    public int known(int years, int what) {
        if (!stands() || !within(years, 0, MOST_YEARS) || !within(what, 0, 2)) {
            return HIDDEN;
        }
        for (int date = 1; date <= YEAR; date++) {
            dates.mark(date, parish.agreesWithSaid(bornOf(years, date)));
        }
        switch (what) {
            case 0:
                return dates.many();
            case 1:
                return dates.least();
            default:
                return dates.greatest();
        }
    }

    public boolean worth(int person, int house, int v) {
        if (!isPerson(person) || !isHouse(house) || !within(v, 0, MOST_WORTH)) {
            return false;
        }
        parish.worths[person * MOST_HOUSES + house] = v;
        return true;
    }

    public int rather(int person) {
        return isPerson(person) ? parish.wishOf(person) : NONE;
    }

    public int turn() {
        return stands() ? parish.takeTurns() : NONE;
    }

    public int best(int what) {
        if (!stands() || !within(what, 0, 1)) {
            return HIDDEN;
        }
        pairs.look(parish, 1);
        housing.seekBest(parish, pairs);
        return what == 0 ? housing.bestSum : housing.bestLiving;
    }

    public boolean risk(int v) {
        if (!within(v, 0, MOST_RISK)) {
            return false;
        }
        parish.risk = v;
        return true;
    }

    public void seed(long v) {
        parish.now.draws = v;
    }

    public int days(int n) {
        if (!stands() || !isSpan(n) || parish.now.today + n > LAST_DAY) {
            return NONE;
        }
        for (int k = 0; k < n; k++) {
            parish.goOn();
        }
        return parish.now.moved;
    }

    public int free(int person, int days) {
        if (!isPerson(person) || !isSpan(days)) {
            return NONE;
        }
        int found = 0;
        for (int house = 0; house < parish.houses; house++) {
            if (parish.mayLive(person, house, NONE, days)) {
                found |= 1 << house;
            }
        }
        return found;
    }

    public int till(int person) {
        if (!isPerson(person) || parish.now.home[person] == NONE) {
            return NONE;
        }
        return parish.peaceAtHome(person, LONGEST_SPAN);
    }

    public int swap(int i) {
        if (!stands() || i < NONE) {
            return NONE;
        }
        int many = 0;
        for (int one = 0; one < parish.people; one++) {
            for (int other = one + 1; other < parish.people; other++) {
                if (parish.mayChange(one, other)) {
                    if (many == i) {
                        return 10 * one + other;
                    }
                    many++;
                }
            }
        }
        return i == NONE ? many : NONE;
    }

    public int peak(int days, int what) {
        if (!stands() || !isSpan(days) || !within(what, 0, 1)) {
            return NONE;
        }
        pairs.look(parish, days);
        int top = pairs.busiest();
        return what == 0 ? parish.now.today + top : Integer.bitCount(pairs.on[top]);
    }

    public int wants(int days, int houses) {
        if (!stands() || !isSpan(days) || !within(houses, 1, MOST_PARTS)) {
            return NONE;
        }
        pairs.look(parish, days);
        return housing.leastRooms(parish.people, pairs, houses);
    }

    public int guests(int house, int days, int what) {
        if (!isHouse(house) || !isSpan(days) || !within(what, 0, 1)) {
            return NONE;
        }
        pairs.look(parish, days);
        int found = 0;
        for (int set = 1; set <= everybody(); set++) {
            boolean fits = Integer.bitCount(set) <= parish.rooms[house] && pairs.everAtOdds(set) == 0;
            if (fits && isGreater(set, found)) {
                found = set;
            }
        }
        return what == 0 ? Integer.bitCount(found) : found;
    }

    public int twins(int what) {
        if (parish.people < 2 || !within(what, 0, 1)) {
            return NONE;
        }
        int nearest = NONE;
        int found = NONE;
        for (int one = 0; one < parish.people; one++) {
            for (int other = one + 1; other < parish.people; other++) {
                int apart = Math.abs(parish.now.born[one] - parish.now.born[other]);
                if (nearest == NONE || apart < nearest) {
                    nearest = apart;
                    found = 10 * one + other;
                }
            }
        }
        return what == 0 ? found : nearest;
    }

    public int image() {
        if (!stands()) {
            return NONE;
        }
        parish.image.copy(parish.now);
        parish.imaged = true;
        return parish.now.today;
    }

    public int back() {
        if (!parish.imaged) {
            return NONE;
        }
        parish.now.copy(parish.image);
        return parish.now.today;
    }

    public int count(int what) {
        switch (what) {
            case 0:
                return parish.people;
            case 1:
                return parish.houses;
            case 2:
                return parish.laws.kept;
            case 3:
                return tape.length;
            case 4:
                return parish.now.today;
            case 5:
                return parish.said;
            case 6:
                return parish.now.moved;
            case 7:
                return parish.now.dead;
            case 8:
                return parish.homeless();
            default:
                return HIDDEN;
        }
    }

    private boolean stands() {
        return parish.people > 0;
    }

    private boolean isPerson(int person) {
        return within(person, 0, parish.people - 1);
    }

    private boolean isHouse(int house) {
        return within(house, 0, parish.houses - 1);
    }

    private boolean areTwo(int one, int other) {
        return isPerson(one) && isPerson(other) && one != other;
    }

    private boolean isSmallParish() {
        return stands() && parish.people <= MOST_MOVERS && parish.houses <= MOST_MOVERS_HOUSES;
    }

    private int everybody() {
        return (1 << parish.people) - 1;
    }

    private static boolean isSpan(int days) {
        return within(days, 1, LONGEST_SPAN);
    }

    private static boolean within(int v, int low, int high) {
        return v >= low && v <= high;
    }

    private static int dateOf(int day) {
        return Math.floorMod(day, YEAR) + 1;
    }

    private static int ageOn(int day, int born) {
        return Math.floorDiv(day - born, YEAR);
    }

    private static int bornOf(int years, int date) {
        return date - 1 - YEAR * years;
    }

    /** Fewer people; of as many, the one that has the lower person where the two first differ. */
    private static boolean isSmaller(int set, int than) {
        int more = Integer.bitCount(set) - Integer.bitCount(than);
        return more < 0 || (more == 0 && hasLowerOne(set, than));
    }

    private static boolean isGreater(int set, int than) {
        int more = Integer.bitCount(set) - Integer.bitCount(than);
        return more > 0 || (more == 0 && hasLowerOne(set, than));
    }

    private static boolean hasLowerOne(int set, int than) {
        int unlike = set ^ than;
        return (set & unlike & -unlike) != 0;
    }

    /** The bit of a pair; one is the lower. */
    private static int pairBit(int one, int other) {
        return 1 << (other * (other - 1) / 2 + one);
    }

    /** The bytes that were fed, with a head that reads them and remembers where it went wrong. */
    private static final class Tape {
        private static final int MOST_BYTES = 160;
        private static final int BLANK = 32;

        private final int[] bytes;
        private int length;
        private int at;
        private int wrong;

        Tape() {
            bytes = new int[MOST_BYTES];
            length = 0;
            at = 0;
            wrong = NONE;
        }

        boolean add(int a, int b, int c, int d, int e) {
            int more = signsIn(a) + signsIn(b) + signsIn(c) + signsIn(d) + signsIn(e);
            if (length + more > MOST_BYTES) {
                return false;
            }
            put(a);
            put(b);
            put(c);
            put(d);
            put(e);
            return true;
        }

        boolean cut(int n) {
            if (n < 0 || n > length) {
                return false;
            }
            length = n;
            return true;
        }

        private static int signsIn(int four) {
            int many = 0;
            for (int shift = 24; shift >= 0; shift -= 8) {
                if ((four >>> shift & 255) != 0) {
                    many++;
                }
            }
            return many;
        }

        private void put(int four) {
            for (int shift = 24; shift >= 0; shift -= 8) {
                int sign = four >>> shift & 255;
                if (sign != 0 && length < MOST_BYTES) {
                    bytes[length] = sign;
                    length++;
                }
            }
        }

        void rewind() {
            at = 0;
            wrong = NONE;
        }

        /** The sign under the head, NONE behind the last one. */
        private int here() {
            return at < length ? bytes[at] : NONE;
        }

        /** The next sign that is no blank; the head then stands on it. */
        int ahead() {
            while (at < length && bytes[at] == BLANK) {
                at++;
            }
            return at < length ? bytes[at] : NONE;
        }

        boolean ended() {
            return ahead() == NONE;
        }

        void step() {
            at++;
        }

        /** Reads this sign, or is wrong at what stands there instead. */
        boolean pass(int sign) {
            if (ahead() != sign) {
                return fail();
            }
            step();
            return true;
        }

        boolean fail() {
            wrong = at;
            return false;
        }

        /** A number of at most so many digits; NONE if there is none, or one digit too many. */
        int number(int digits) {
            ahead();
            int value = 0;
            int read = 0;
            while (read < digits && isDigit(here())) {
                value = 10 * value + here() - '0';
                read++;
                at++;
            }
            if (read == 0 || isDigit(here())) {
                fail();
                return NONE;
            }
            return value;
        }

        int numberWithin(int digits, int low, int high) {
            int value = number(digits);
            if (value != NONE && !within(value, low, high)) {
                wrong = at - 1;
                return NONE;
            }
            return value;
        }

        private static boolean isDigit(int sign) {
            return sign >= '0' && sign <= '9';
        }
    }

    /** Reads the tape as a parish; what it read stays here till it reads again. */
    private static final class ParishReader {
        private static final int DIGITS = 3;
        private static final int MOST_CLAUSES = 10;
        private static final int YEARS = 0;
        private static final int DATE = 1;
        private static final int HOME = 2;
        private static final int ROOMS = 3;
        private static final int PRICE = 4;
        private static final int KINDS = 5;
        private static final char[] LETTERS = {'y', 'd', 'h', 'm', 'c'};
        private static final int[] LEAST = {0, 1, 0, 1, 0};
        private static final int[] MOST = {99, 360, 3, 6, 99};
        private static final int[] WITHOUT = {30, 1, NONE, 3, 10};

        private int people;
        private int houses;
        private final int[] born;
        private final int[] home;
        private final int[] rooms;
        private final int[] prices;
        private final int[] items;

        ParishReader() {
            people = 0;
            houses = 0;
            born = new int[MOST_PEOPLE];
            home = new int[MOST_PEOPLE];
            rooms = new int[MOST_HOUSES];
            prices = new int[MOST_HOUSES];
            items = new int[KINDS];
        }

        boolean reads(Tape tape) {
            people = 0;
            houses = 0;
            tape.rewind();
            for (int k = 0; k < MOST_CLAUSES; k++) {
                if (!readClause(tape)) {
                    return false;
                }
                if (tape.ended()) {
                    return isWhole() || tape.fail();
                }
                if (!tape.pass(';')) {
                    return false;
                }
            }
            // Ten clauses are all that there may be: whatever follows their ; is one too many.
            tape.ahead();
            return tape.fail();
        }

        private boolean readClause(Tape tape) {
            int sign = tape.ahead();
            if (sign == 'p' && people < MOST_PEOPLE) {
                tape.step();
                return readPerson(tape);
            }
            if (sign == 'r' && houses < MOST_HOUSES) {
                tape.step();
                return readHouse(tape);
            }
            return tape.fail();
        }

        private boolean readPerson(Tape tape) {
            if (!readItems(tape, YEARS, HOME)) {
                return false;
            }
            born[people] = bornOf(items[YEARS], items[DATE]);
            home[people] = items[HOME];
            people++;
            return true;
        }

        private boolean readHouse(Tape tape) {
            if (!readItems(tape, ROOMS, PRICE)) {
                return false;
            }
            rooms[houses] = items[ROOMS];
            prices[houses] = items[PRICE];
            houses++;
            return true;
        }

        /** Reads items till a sign that is none of these, or was there: the clause's end is then due. */
        private boolean readItems(Tape tape, int first, int last) {
            int seen = 0;
            for (int kind = first; kind <= last; kind++) {
                items[kind] = WITHOUT[kind];
            }
            for (int k = first; k <= last; k++) {
                int kind = kindOf(tape.ahead(), first, last);
                if (kind == NONE || (seen >> kind & 1) != 0) {
                    return true;
                }
                seen |= 1 << kind;
                tape.step();
                items[kind] = tape.numberWithin(DIGITS, LEAST[kind], MOST[kind]);
                if (items[kind] == NONE) {
                    return false;
                }
            }
            return true;
        }

        private static int kindOf(int sign, int first, int last) {
            for (int kind = first; kind <= last; kind++) {
                if (LETTERS[kind] == sign) {
                    return kind;
                }
            }
            return NONE;
        }

        private boolean isWhole() {
            for (int person = 0; person < people; person++) {
                if (home[person] >= houses) {
                    return false;
                }
            }
            return people > 0 && houses > 0;
        }
    }

    /** Reads the tape as a law, and writes what it says as steps into a draft. */
    private static final class LawReader {
        private static final int DIGITS = 4;
        private static final int DEEPEST = 6;

        private final Program draft;

        LawReader() {
            draft = new Program();
        }

        boolean reads(Tape tape) {
            draft.clear();
            tape.rewind();
            for (int k = 0; k < Tape.MOST_BYTES; k++) {
                if (!readClause(tape)) {
                    return false;
                }
                if (tape.ended()) {
                    return true;
                }
                if (!tape.pass(';')) {
                    return false;
                }
            }
            return tape.fail();
        }

        private boolean readClause(Tape tape) {
            if (!tape.pass('y') || !tape.pass(':')) {
                return false;
            }
            int sign = tape.ahead();
            if (sign == '!' || sign == '(') {
                return condition(tape, 0) && guarded(tape);
            }
            if (!sum(tape, 0)) {
                return false;
            }
            // Only behind its first sum can be seen whether the clause began with a condition.
            if (Program.relation(tape.ahead()) != NONE) {
                return relation(tape, 0) && moreUnits(tape, 0) && moreTruths(tape, 0) && guarded(tape);
            }
            draft.add(Program.ANSWER);
            return true;
        }

        private boolean guarded(Tape tape) {
            if (!tape.pass('?')) {
                return false;
            }
            int gap = draft.addBranch();
            if (!sum(tape, 0)) {
                return false;
            }
            draft.add(Program.ANSWER);
            draft.landHere(gap);
            return true;
        }

        private boolean condition(Tape tape, int depth) {
            return truth(tape, depth) && moreTruths(tape, depth);
        }

        private boolean moreTruths(Tape tape, int depth) {
            for (int k = 0; k < Tape.MOST_BYTES && tape.ahead() == '|'; k++) {
                tape.step();
                if (!truth(tape, depth)) {
                    return false;
                }
                draft.add(Program.OR);
            }
            return true;
        }

        private boolean truth(Tape tape, int depth) {
            return unit(tape, depth) && moreUnits(tape, depth);
        }

        private boolean moreUnits(Tape tape, int depth) {
            for (int k = 0; k < Tape.MOST_BYTES && tape.ahead() == '&'; k++) {
                tape.step();
                if (!unit(tape, depth)) {
                    return false;
                }
                draft.add(Program.AND);
            }
            return true;
        }

        private boolean unit(Tape tape, int depth) {
            int sign = tape.ahead();
            if (sign != '!' && sign != '(') {
                return sum(tape, depth) && relation(tape, depth);
            }
            if (depth >= DEEPEST) {
                return tape.fail();
            }
            tape.step();
            if (sign == '(') {
                return condition(tape, depth + 1) && tape.pass(')');
            }
            if (!unit(tape, depth + 1)) {
                return false;
            }
            draft.add(Program.NOT);
            return true;
        }

        private boolean relation(Tape tape, int depth) {
            int step = Program.relation(tape.ahead());
            if (step == NONE) {
                return tape.fail();
            }
            tape.step();
            if (!sum(tape, depth)) {
                return false;
            }
            draft.add(step);
            return true;
        }

        private boolean sum(Tape tape, int depth) {
            if (!term(tape, depth)) {
                return false;
            }
            int sign = tape.ahead();
            for (int k = 0; k < Tape.MOST_BYTES && (sign == '+' || sign == '-'); k++) {
                tape.step();
                if (!term(tape, depth)) {
                    return false;
                }
                draft.add(sign == '+' ? Program.PLUS : Program.MINUS);
                sign = tape.ahead();
            }
            return true;
        }

        private boolean term(Tape tape, int depth) {
            if (!atom(tape, depth)) {
                return false;
            }
            int sign = tape.ahead();
            for (int k = 0; k < Tape.MOST_BYTES && (sign == '*' || sign == '/'); k++) {
                tape.step();
                if (!atom(tape, depth)) {
                    return false;
                }
                draft.add(sign == '*' ? Program.TIMES : Program.BY);
                sign = tape.ahead();
            }
            return true;
        }

        private boolean atom(Tape tape, int depth) {
            int sign = tape.ahead();
            if (sign == '[') {
                if (depth >= DEEPEST) {
                    return tape.fail();
                }
                tape.step();
                return sum(tape, depth + 1) && tape.pass(']');
            }
            int letter = Program.letter(sign);
            if (letter != NONE) {
                tape.step();
                draft.add(letter);
                return true;
            }
            int value = tape.number(DIGITS);
            if (value == NONE) {
                return false;
            }
            draft.add(Program.NUMBER + value);
            return true;
        }
    }

    /** A law as steps for a stack: operands first, then what is done with them. */
    private static final class Program {
        // A sign of the tape gives one step at most, a ? two, the end of a clause one more.
        private static final int MOST_STEPS = 400;
        private static final int MOST_HIGH = 100;
        private static final int MOST_NUMBER = 1000000;

        private static final int A = 0;
        private static final int B = 1;
        private static final int X = 2;
        private static final int Y = 3;
        private static final int N = 4;
        private static final int LETTERS = 5;
        private static final int PLUS = 5;
        private static final int MINUS = 6;
        private static final int TIMES = 7;
        private static final int BY = 8;
        private static final int EQUAL = 9;
        private static final int LESS = 10;
        private static final int MORE = 11;
        private static final int AND = 12;
        private static final int OR = 13;
        private static final int NOT = 14;
        private static final int UNLESS = 15;
        private static final int ANSWER = 16;
        private static final int NUMBER = 100;

        private final int[] steps;
        private int length;
        private final int[] stack;
        private final int[] letters;
        private boolean dated;

        Program() {
            steps = new int[MOST_STEPS];
            length = 0;
            stack = new int[MOST_HIGH];
            letters = new int[LETTERS];
            dated = false;
        }

        static int letter(int sign) {
            switch (sign) {
                case 'a':
                    return A;
                case 'b':
                    return B;
                case 'x':
                    return X;
                case 'y':
                    return Y;
                case 'n':
                    return N;
                default:
                    return NONE;
            }
        }

        static int relation(int sign) {
            switch (sign) {
                case '=':
                    return EQUAL;
                case '<':
                    return LESS;
                case '>':
                    return MORE;
                default:
                    return NONE;
            }
        }

        void clear() {
            length = 0;
            dated = false;
        }

        void add(int step) {
            if (length < MOST_STEPS) {
                steps[length] = step;
                length++;
            }
            if (step == Y) {
                dated = true;
            }
        }

        /** A branch whose goal is told later; answers where that goal is to be written. */
        int addBranch() {
            add(UNLESS);
            add(NUMBER);
            return length - 1;
        }

        void landHere(int gap) {
            if (gap >= 0 && gap < length) {
                steps[gap] = length;
            }
        }

        void copy(Program other) {
            System.arraycopy(other.steps, 0, steps, 0, MOST_STEPS);
            length = other.length;
            dated = other.dated;
        }

        int worthFor(int a, int b, int x, int date, int people) {
            letters[A] = a;
            letters[B] = b;
            letters[X] = x;
            letters[Y] = date;
            letters[N] = people;
            int high = 0;
            int at = 0;
            // Branches go forwards alone, so there are never more steps than the law has.
            for (int k = 0; k < length && at >= 0 && at < length; k++) {
                int step = steps[at];
                at++;
                if (step >= NUMBER || (step >= 0 && step < LETTERS)) {
                    if (high >= MOST_HIGH) {
                        return 0;
                    }
                    stack[high] = step >= NUMBER ? step - NUMBER : letters[step];
                    high++;
                    continue;
                }
                if (high < 1) {
                    return 0;
                }
                int right = stack[high - 1];
                if (step == ANSWER) {
                    return right;
                }
                if (step == NOT) {
                    stack[high - 1] = 1 - right;
                    continue;
                }
                high--;
                if (step == UNLESS) {
                    at = right != 0 || at >= length ? at + 1 : steps[at];
                } else if (high >= 1) {
                    stack[high - 1] = join(step, stack[high - 1], right);
                }
            }
            return 0;
        }

        private static int join(int step, int left, int right) {
            long v;
            switch (step) {
                case PLUS:
                    v = (long) left + right;
                    break;
                case MINUS:
                    v = (long) left - right;
                    break;
                case TIMES:
                    v = (long) left * right;
                    break;
                case BY:
                    v = right == 0 ? 0 : left / right;
                    break;
                case EQUAL:
                    v = left == right ? 1 : 0;
                    break;
                case LESS:
                    v = left < right ? 1 : 0;
                    break;
                case MORE:
                    v = left > right ? 1 : 0;
                    break;
                case AND:
                    v = left & right;
                    break;
                default:
                    v = left | right;
                    break;
            }
            return v > MOST_NUMBER ? MOST_NUMBER : v < -MOST_NUMBER ? -MOST_NUMBER : (int) v;
        }
    }

    /** The laws that were told, and which of them holds. */
    private static final class Laws {
        private final Program[] programs;
        private int kept;
        private int holding;

        Laws() {
            programs = new Program[MOST_LAWS];
            for (int k = 0; k < MOST_LAWS; k++) {
                programs[k] = new Program();
            }
            kept = 0;
            holding = NONE;
        }

        int keep(Program draft) {
            if (kept >= MOST_LAWS) {
                return NONE;
            }
            programs[kept].copy(draft);
            kept++;
            return kept - 1;
        }

        /** Whether two who were born on these days clash on a day. */
        boolean forbid(int bornOne, int bornOther, int day, int people) {
            // Who was born first is never younger, and of one age the two letters are the same.
            int elder = ageOn(day, Math.min(bornOne, bornOther));
            int younger = ageOn(day, Math.max(bornOne, bornOther));
            if (holding < 0 || holding >= kept) {
                return elder == younger;
            }
            int apart = Math.abs(bornOne - bornOther);
            return programs[holding].worthFor(elder, younger, apart, dateOf(day), people) > 0;
        }

        /** On how many days from this one on the answer for two births can't change: till a birthday of one. */
        int steadyDays(int bornOne, int bornOther, int day) {
            if (holding >= 0 && holding < kept && programs[holding].dated) {
                return 1;
            }
            return Math.min(daysTillBirthday(bornOne, day), daysTillBirthday(bornOther, day));
        }

        private static int daysTillBirthday(int born, int day) {
            return YEAR - Math.floorMod(day - born, YEAR);
        }
    }

    /** What an image keeps. */
    private static final class State {
        private int today;
        private int moved;
        private int dead;
        private long draws;
        private final int[] born;
        private final int[] home;

        State() {
            today = 0;
            moved = 0;
            dead = 0;
            draws = 0L;
            born = new int[MOST_PEOPLE];
            home = new int[MOST_PEOPLE];
        }

        void copy(State other) {
            today = other.today;
            moved = other.moved;
            dead = other.dead;
            draws = other.draws;
            System.arraycopy(other.born, 0, born, 0, MOST_PEOPLE);
            System.arraycopy(other.home, 0, home, 0, MOST_PEOPLE);
        }
    }

    /** The people and houses, where everybody lives, and what they do by themselves. */
    private static final class Parish {
        private static final long DRAW_FACTOR = 6364136223846793005L;
        private static final long DRAW_ADDEND = 1442695040888963407L;

        private int people;
        private int houses;
        private final int[] rooms;
        private final int[] prices;
        private final int[] worths;
        private final Laws laws;
        private final State now;
        private final State image;
        private boolean imaged;
        private int risk;
        private int said;
        private final int[] saidPerson;
        private final int[] saidDay;
        private final int[] homesBefore;

        Parish() {
            people = 0;
            houses = 0;
            rooms = new int[MOST_HOUSES];
            prices = new int[MOST_HOUSES];
            worths = new int[MOST_PEOPLE * MOST_HOUSES];
            laws = new Laws();
            now = new State();
            image = new State();
            imaged = false;
            risk = 0;
            said = 0;
            saidPerson = new int[MOST_SAID];
            saidDay = new int[MOST_SAID];
            homesBefore = new int[MOST_PEOPLE];
        }

        void settle(ParishReader told) {
            people = told.people;
            houses = told.houses;
            System.arraycopy(told.rooms, 0, rooms, 0, MOST_HOUSES);
            System.arraycopy(told.prices, 0, prices, 0, MOST_HOUSES);
            System.arraycopy(told.born, 0, now.born, 0, MOST_PEOPLE);
            System.arraycopy(told.home, 0, now.home, 0, MOST_PEOPLE);
            for (int k = 0; k < MOST_PEOPLE * MOST_HOUSES; k++) {
                worths[k] = 0;
            }
            now.today = 0;
            now.moved = 0;
            now.dead = 0;
            laws.holding = NONE;
            imaged = false;
            said = 0;
        }

        boolean atOdds(int one, int other, int day) {
            return laws.forbid(now.born[one], now.born[other], day, people);
        }

        int daysAtOdds(int one, int other, int span) {
            int many = 0;
            int k = 0;
            while (k < span) {
                int steady = Math.max(1, steadyFrom(one, other, k));
                many += atOdds(one, other, now.today + k) ? Math.min(steady, span - k) : 0;
                k += steady;
            }
            return many;
        }

        /** For how many days, from k days behind today on, two surely stay as they then are to each other. */
        int steadyFrom(int one, int other, int k) {
            return laws.steadyDays(now.born[one], now.born[other], now.today + k);
        }

        /** How many days pass from today before two births clash; the whole span if they don't in it. */
        int daysOfPeace(int bornOne, int bornOther, int span) {
            int k = 0;
            while (k < span) {
                if (laws.forbid(bornOne, bornOther, now.today + k, people)) {
                    return k;
                }
                k += Math.max(1, laws.steadyDays(bornOne, bornOther, now.today + k));
            }
            return span;
        }

        int dwellers(int house) {
            int found = 0;
            for (int person = 0; person < people; person++) {
                if (now.home[person] == house) {
                    found |= 1 << person;
                }
            }
            return found;
        }

        int homeless() {
            return Integer.bitCount(dwellers(NONE));
        }

        boolean underOneRoof(int one, int other) {
            return now.home[one] != NONE && now.home[one] == now.home[other];
        }

        /** Whether a person may live in a house on these days; who is gone is not looked at. */
        boolean mayLive(int person, int house, int gone, int span) {
            int others = 0;
            for (int other = 0; other < people; other++) {
                if (other != person && other != gone && now.home[other] == house) {
                    others++;
                    if (daysOfPeace(now.born[person], now.born[other], span) < span) {
                        return false;
                    }
                }
            }
            return others < rooms[house];
        }

        boolean mayChange(int one, int other) {
            int homeOfOne = now.home[one];
            int homeOfOther = now.home[other];
            if (homeOfOne == NONE || homeOfOther == NONE || homeOfOne == homeOfOther) {
                return false;
            }
            return mayLive(one, homeOfOther, other, 1) && mayLive(other, homeOfOne, one, 1);
        }

        int peaceAtHome(int person, int span) {
            int least = span;
            for (int other = 0; other < people; other++) {
                if (other != person && underOneRoof(person, other)) {
                    least = daysOfPeace(now.born[person], now.born[other], least);
                }
            }
            return least;
        }

        boolean bearsLodger(int house, int born, int span) {
            for (int person = 0; person < people; person++) {
                if (now.home[person] == house && daysOfPeace(born, now.born[person], span) < span) {
                    return false;
                }
            }
            return true;
        }

        int remember(int person, int day) {
            if (said < MOST_SAID) {
                saidPerson[said] = person;
                saidDay[said] = day;
                said++;
            }
            return said;
        }

        boolean agreesWithSaid(int born) {
            for (int k = 0; k < said; k++) {
                if (laws.forbid(born, now.born[saidPerson[k]], saidDay[k], people)) {
                    return false;
                }
            }
            return true;
        }

        int gainOf(int person, int house) {
            return house == NONE ? 0 : worths[person * MOST_HOUSES + house] - prices[house];
        }

        int wishOf(int person) {
            int most = gainOf(person, now.home[person]);
            int found = NONE;
            for (int house = 0; house < houses; house++) {
                int gain = gainOf(person, house);
                if (gain > most && mayLive(person, house, NONE, 1)) {
                    most = gain;
                    found = house;
                }
            }
            return found;
        }

        int takeTurns() {
            System.arraycopy(now.home, 0, homesBefore, 0, MOST_PEOPLE);
            int made = 0;
            for (int round = 0; made <= MOST_TURNS && round <= MOST_TURNS; round++) {
                int before = made;
                for (int person = 0; person < people; person++) {
                    int house = wishOf(person);
                    if (house != NONE) {
                        now.home[person] = house;
                        made++;
                    }
                }
                if (made == before) {
                    return made;
                }
            }
            System.arraycopy(homesBefore, 0, now.home, 0, MOST_PEOPLE);
            return NONE;
        }

        void goOn() {
            now.today++;
            int date = dateOf(now.today);
            for (int person = 0; person < people; person++) {
                if (dateOf(now.born[person]) == date && peaceAtHome(person, 1) == 0) {
                    shift(person, lowestOpen(person));
                }
            }
            for (int person = 0; person < people; person++) {
                int house = now.home[person] == NONE ? lowestOpen(person) : NONE;
                if (house != NONE) {
                    shift(person, house);
                }
            }
            if (date == YEAR && risk > 0) {
                drawDeaths();
            }
        }

        private int lowestOpen(int person) {
            for (int house = 0; house < houses; house++) {
                if (mayLive(person, house, NONE, 1)) {
                    return house;
                }
            }
            return NONE;
        }

        private void shift(int person, int house) {
            now.home[person] = house;
            now.moved++;
        }

        private void drawDeaths() {
            for (int person = 0; person < people; person++) {
                now.draws = now.draws * DRAW_FACTOR + DRAW_ADDEND;
                if ((now.draws >>> 33) % 100 < risk) {
                    now.born[person] = now.today;
                    now.dead++;
                }
            }
        }
    }

    /** Which pairs clash on which of some days from today on: a bit for each pair. */
    private static final class Pairs {
        private int people;
        private int span;
        private int ever;
        private final int[] on;

        Pairs() {
            people = 0;
            span = 0;
            ever = 0;
            on = new int[LONGEST_SPAN];
        }

        void look(Parish parish, int days) {
            people = parish.people;
            span = Math.min(days, LONGEST_SPAN);
            ever = 0;
            for (int k = 0; k < span; k++) {
                on[k] = 0;
            }
            for (int one = 0; one < people; one++) {
                for (int other = one + 1; other < people; other++) {
                    lookAtPair(parish, one, other);
                }
            }
        }

        private void lookAtPair(Parish parish, int one, int other) {
            int bit = pairBit(one, other);
            int k = 0;
            while (k < span) {
                int next = Math.min(span, k + Math.max(1, parish.steadyFrom(one, other, k)));
                if (parish.atOdds(one, other, parish.now.today + k)) {
                    ever |= bit;
                    for (int day = k; day < next; day++) {
                        on[day] |= bit;
                    }
                }
                k = next;
            }
        }

        /** All pairs of a set of people. */
        private int pairsOf(int set) {
            int found = 0;
            for (int one = 0; one < people; one++) {
                for (int other = one + 1; other < people; other++) {
                    if ((set >> one & set >> other & 1) != 0) {
                        found |= pairBit(one, other);
                    }
                }
            }
            return found;
        }

        int everAtOdds(int set) {
            return pairsOf(set) & ever;
        }

        boolean atOddsWithin(int set, int k) {
            return (pairsOf(set) & on[k]) != 0;
        }

        /** Those with whom a person clashes on one of the days. */
        int foesOf(int person) {
            int found = 0;
            for (int other = 0; other < people; other++) {
                int low = Math.min(person, other);
                int high = Math.max(person, other);
                if (low != high && (ever & pairBit(low, high)) != 0) {
                    found |= 1 << other;
                }
            }
            return found;
        }

        /** How many days pass before the living is unlawful; all of them if it stays lawful. */
        int firstUnlawful(Parish parish) {
            int mates = 0;
            for (int house = 0; house < parish.houses; house++) {
                int set = parish.dwellers(house);
                mates |= pairsOf(set);
                if (Integer.bitCount(set) > parish.rooms[house]) {
                    return 0;
                }
            }
            for (int k = 0; k < span; k++) {
                if ((on[k] & mates) != 0) {
                    return k;
                }
            }
            return span;
        }

        int unlawfulHouse(Parish parish, int k) {
            for (int house = 0; house < parish.houses; house++) {
                int set = parish.dwellers(house);
                if (Integer.bitCount(set) > parish.rooms[house] || atOddsWithin(set, k)) {
                    return house;
                }
            }
            return NONE;
        }

        /** The greatest number of people of whom each two clash on one and the same day. */
        int greatestQuarrel() {
            int most = 1;
            for (int set = 1; set < 1 << people; set++) {
                int size = Integer.bitCount(set);
                if (size > most && allAtOddsOnce(pairsOf(set))) {
                    most = size;
                }
            }
            return most;
        }

        private boolean allAtOddsOnce(int wanted) {
            for (int k = 0; k < span; k++) {
                if ((on[k] & wanted) == wanted) {
                    return true;
                }
            }
            return false;
        }

        /** The first of the days on which most pairs clash. */
        int busiest() {
            int top = 0;
            for (int k = 1; k < span; k++) {
                if (Integer.bitCount(on[k]) > Integer.bitCount(on[top])) {
                    top = k;
                }
            }
            return top;
        }
    }

    /** Puts people into houses, one after the other, so that no two foes share one. */
    private static final class Housing {
        private static final int LIVING_BASE = 4;
        private static final int BEST_BASE = 5;

        private int people;
        private int houses;
        private int wanted;
        private final int[] rooms;
        private final int[] foes;
        private final int[] inside;
        private final int[] gains;
        private int bestSum;
        private int bestLiving;

        Housing() {
            people = 0;
            houses = 0;
            wanted = 0;
            rooms = new int[MOST_PARTS];
            foes = new int[MOST_PEOPLE];
            inside = new int[MOST_PARTS];
            gains = new int[MOST_PEOPLE * MOST_HOUSES];
            bestSum = 0;
            bestLiving = 0;
        }

        int fewestParts(int everybody, Pairs pairs) {
            for (int parts = 1; parts <= MOST_PARTS; parts++) {
                if (partsHold(everybody, pairs, parts, MOST_PEOPLE)) {
                    return parts;
                }
            }
            return NONE;
        }

        int leastRooms(int everybody, Pairs pairs, int parts) {
            for (int each = 1; each <= MOST_PEOPLE; each++) {
                if (partsHold(everybody, pairs, parts, each)) {
                    return each;
                }
            }
            return NONE;
        }

        private boolean partsHold(int everybody, Pairs pairs, int parts, int each) {
            prepare(everybody, parts, pairs);
            for (int part = 0; part < houses; part++) {
                rooms[part] = each;
            }
            wanted = (1 << people) - 1;
            return place(0, 0) != NONE;
        }

        /** The lowest living of a set of people in the houses told, NONE if there is none. */
        int lowestLiving(Parish parish, Pairs pairs, int set) {
            prepareTold(parish, pairs);
            wanted = set;
            return place(0, 0);
        }

        void seekBest(Parish parish, Pairs pairs) {
            prepareTold(parish, pairs);
            for (int person = 0; person < people; person++) {
                for (int house = 0; house < parish.houses; house++) {
                    gains[person * MOST_HOUSES + house] = parish.gainOf(person, house);
                }
            }
            bestSum = NONE;
            bestLiving = 0;
            seek(0, 0, 0);
        }

        private void prepareTold(Parish parish, Pairs pairs) {
            prepare(parish.people, parish.houses, pairs);
            for (int house = 0; house < parish.houses; house++) {
                rooms[house] = parish.rooms[house];
            }
        }

        private void prepare(int howMany, int parts, Pairs pairs) {
            people = Math.min(howMany, MOST_PEOPLE);
            houses = Math.min(parts, MOST_PARTS);
            for (int house = 0; house < houses; house++) {
                inside[house] = 0;
            }
            for (int person = 0; person < people; person++) {
                foes[person] = pairs.foesOf(person);
            }
        }

        private boolean takes(int house, int person) {
            return Integer.bitCount(inside[house]) < rooms[house] && (inside[house] & foes[person]) == 0;
        }

        /** Tries houses from the lowest on, so that the first living found is the lowest. */
        private int place(int person, int living) {
            if (person >= people) {
                return living;
            }
            if ((wanted >> person & 1) == 0) {
                return place(person + 1, living * LIVING_BASE);
            }
            for (int house = 0; house < houses; house++) {
                if (takes(house, person)) {
                    inside[house] |= 1 << person;
                    int found = place(person + 1, living * LIVING_BASE + house);
                    inside[house] &= ~(1 << person);
                    if (found != NONE) {
                        return found;
                    }
                }
            }
            return NONE;
        }

        /** Goes from low livings to high ones; a house that gains nothing is never better than none. */
        private void seek(int person, int sum, int living) {
            if (person >= people) {
                if (sum > bestSum) {
                    bestSum = sum;
                    bestLiving = living;
                }
                return;
            }
            seek(person + 1, sum, living * BEST_BASE);
            for (int house = 0; house < houses && house < MOST_HOUSES; house++) {
                int gain = gains[person * MOST_HOUSES + house];
                if (gain > 0 && takes(house, person)) {
                    inside[house] |= 1 << person;
                    seek(person + 1, sum + gain, living * BEST_BASE + house + 1);
                    inside[house] &= ~(1 << person);
                }
            }
        }
    }

    /** All livings of a small parish as states, a digit to the base of its houses for each person. */
    private static final class Livings {
        private static final int MOST_STATES = 243;
        private static final int FAR = 1000000;

        private int people;
        private int houses;
        private int states;
        private final int[] weights;
        private final int[] mates;
        private final boolean[] roomy;
        private final int[] costs;
        private final int[] queue;

        Livings() {
            people = 0;
            houses = 0;
            states = 0;
            weights = new int[MOST_MOVERS];
            mates = new int[MOST_STATES];
            roomy = new boolean[MOST_STATES];
            costs = new int[MOST_STATES];
            queue = new int[MOST_STATES];
        }

        void lay(Parish parish) {
            people = Math.min(parish.people, MOST_MOVERS);
            houses = Math.min(parish.houses, MOST_MOVERS_HOUSES);
            states = 1;
            for (int person = people - 1; person >= 0; person--) {
                weights[person] = states;
                states *= houses;
            }
            for (int state = 0; state < states; state++) {
                mates[state] = matesIn(state);
                roomy[state] = hasRooms(parish, state);
            }
        }

        private int homeIn(int state, int person) {
            int weight = weights[person];
            return weight > 0 && houses > 0 ? state / weight % houses : 0;
        }

        private int matesIn(int state) {
            int found = 0;
            for (int one = 0; one < people; one++) {
                for (int other = one + 1; other < people; other++) {
                    if (homeIn(state, one) == homeIn(state, other)) {
                        found |= pairBit(one, other);
                    }
                }
            }
            return found;
        }

        private boolean hasRooms(Parish parish, int state) {
            for (int house = 0; house < houses; house++) {
                int many = 0;
                for (int person = 0; person < people; person++) {
                    many += homeIn(state, person) == house ? 1 : 0;
                }
                if (many > parish.rooms[house]) {
                    return false;
                }
            }
            return true;
        }

        private boolean isLawful(int state, int atOdds) {
            return roomy[state] && (mates[state] & atOdds) == 0;
        }

        int fewestMoves(Parish parish, Pairs pairs) {
            for (int state = 0; state < states; state++) {
                costs[state] = movesInto(parish, state);
            }
            shut(pairs.on[0]);
            for (int k = 1; k < pairs.span; k++) {
                // On a day like the one ahead of it nobody need move.
                if (pairs.on[k] != pairs.on[k - 1]) {
                    spread();
                    shut(pairs.on[k]);
                }
            }
            int least = FAR;
            for (int state = 0; state < states; state++) {
                least = Math.min(least, costs[state]);
            }
            return least < FAR ? least : NONE;
        }

        private int movesInto(Parish parish, int state) {
            int many = 0;
            for (int person = 0; person < people; person++) {
                many += parish.now.home[person] == homeIn(state, person) ? 0 : 1;
            }
            return many;
        }

        private void shut(int atOdds) {
            for (int state = 0; state < states; state++) {
                if (!isLawful(state, atOdds)) {
                    costs[state] = FAR;
                }
            }
        }

        /** A night on which anybody may move, each for 1: one person after the other. */
        private void spread() {
            for (int person = 0; person < people; person++) {
                for (int state = 0; state < states; state++) {
                    if (homeIn(state, person) == 0) {
                        spreadFor(person, state);
                    }
                }
            }
        }

        private void spreadFor(int person, int state) {
            int least = FAR;
            for (int house = 0; house < houses; house++) {
                least = Math.min(least, costs[stateWith(state, person, house)]);
            }
            for (int house = 0; house < houses; house++) {
                int goal = stateWith(state, person, house);
                costs[goal] = Math.min(costs[goal], least + 1);
            }
        }

        private int stateWith(int state, int person, int house) {
            return state + (house - homeIn(state, person)) * weights[person];
        }

        /** The living as it is; everybody must be housed. */
        int stateOf(Parish parish) {
            int state = 0;
            for (int person = 0; person < people; person++) {
                state += Math.max(0, parish.now.home[person]) * weights[person];
            }
            return state;
        }

        /** A living told as digits to the base 4, NONE if it is none of these people and houses. */
        int stateTold(int living) {
            int rest = living;
            int state = 0;
            for (int person = people - 1; person >= 0; person--) {
                int house = rest & 3;
                if (house >= houses) {
                    return NONE;
                }
                state += house * weights[person];
                rest >>= 2;
            }
            return rest == 0 ? state : NONE;
        }

        /** The fewest steps, each into a lawful state; costs then tell how far each state is from the goal. */
        int stepsBetween(int from, int to, int atOdds) {
            if (from == to) {
                return 0;
            }
            measure(to, atOdds);
            int least = FAR;
            for (int person = 0; person < people; person++) {
                for (int house = 0; house < houses; house++) {
                    // The state as it is counts for no step, lawful or not.
                    if (house != homeIn(from, person)) {
                        least = Math.min(least, costs[stateWith(from, person, house)]);
                    }
                }
            }
            return least < FAR ? least + 1 : NONE;
        }

        private void measure(int to, int atOdds) {
            for (int state = 0; state < states; state++) {
                costs[state] = FAR;
            }
            if (!isLawful(to, atOdds)) {
                return;
            }
            costs[to] = 0;
            queue[0] = to;
            int filled = 1;
            for (int k = 0; k < filled && k < states; k++) {
                filled = measureFrom(queue[k], atOdds, filled);
            }
        }

        private int measureFrom(int state, int atOdds, int filled) {
            int end = filled;
            for (int person = 0; person < people; person++) {
                for (int house = 0; house < houses; house++) {
                    int next = stateWith(state, person, house);
                    if (costs[next] == FAR && isLawful(next, atOdds) && end < MOST_STATES) {
                        costs[next] = costs[state] + 1;
                        queue[end] = next;
                        end++;
                    }
                }
            }
            return end;
        }

        /** The k-th step of the first of all shortest rows; costs must be those of its goal. */
        int stepOfRow(int from, int steps, int k) {
            int state = from;
            int step = NONE;
            for (int made = 0; made <= k && made < steps; made++) {
                step = stepTowards(state, steps - made - 1);
                if (step == NONE) {
                    return NONE;
                }
                state = stateWith(state, step / 10, step % 10);
            }
            return step;
        }

        private int stepTowards(int state, int left) {
            for (int person = 0; person < people; person++) {
                for (int house = 0; house < houses; house++) {
                    if (house != homeIn(state, person) && costs[stateWith(state, person, house)] == left) {
                        return 10 * person + house;
                    }
                }
            }
            return NONE;
        }
    }

    /** The dates of a year, each marked as one that can be or not. */
    private static final class Dates {
        private final boolean[] marks;

        Dates() {
            marks = new boolean[YEAR];
        }

        void mark(int date, boolean can) {
            if (date >= 1 && date <= YEAR) {
                marks[date - 1] = can;
            }
        }

        int many() {
            int found = 0;
            for (int k = 0; k < YEAR; k++) {
                found += marks[k] ? 1 : 0;
            }
            return found;
        }

        int least() {
            for (int k = 0; k < YEAR; k++) {
                if (marks[k]) {
                    return k + 1;
                }
            }
            return NONE;
        }

        int greatest() {
            for (int k = YEAR - 1; k >= 0; k--) {
                if (marks[k]) {
                    return k + 1;
                }
            }
            return NONE;
        }

        int longestRow() {
            int longest = 0;
            int row = 0;
            for (int k = 0; k < YEAR; k++) {
                row = marks[k] ? row + 1 : 0;
                longest = Math.max(longest, row);
            }
            return longest;
        }
    }
}
