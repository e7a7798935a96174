import java.util.NoSuchElementException;

/** A method for each promise of the document: ordinary calls, the edges that it names, and wrong ones. */
public final class PromisesTest {
    private static final int NONE = AgeRoofs.NONE;
    private static final int HIDDEN = AgeRoofs.HIDDEN;
    /** Ages of 29, 29 and 28 on day 0; the first two in the house of two rooms, the third in that of one. */
    private static final String THREE = "pd100h0;py30d200h0;py29d300h1;rm2;rm1c5";
    private static int wrong = 0;

    public static void main(String[] args) {
        promises1To9();
        promises10To19();
        promises20To29();
        promises30To39();
        System.out.println(wrong == 0 ? "PromisesTest: all answers are as due" : "PromisesTest: " + wrong + " wrong");
        if (wrong != 0) {
            System.exit(1);
        }
    }

    private static void promises1To9() {
        newObject();
        feed();
        end();
        fault();
        faultOfLaw();
        textOfParish();
        textOfLaw();
        person();
        house();
        law();
        lawWorths();
        today();
    }

    private static void promises10To19() {
        clash();
        clashes();
        move();
        judge();
        worst();
        fewest();
        lasts();
        bars();
        moves();
        night();
    }

    private static void promises20To29() {
        lodger();
        say();
        known();
        worth();
        rather();
        turn();
        best();
        risk();
        seed();
        days();
    }

    private static void promises30To39() {
        free();
        till();
        swap();
        peak();
        wants();
        guests();
        twins();
        image();
        back();
        count();
    }

    private static void due(String call, long got, long want) {
        if (got != want) {
            wrong++;
            System.out.println(call + " answered " + got + ", due is " + want);
        }
    }

    private static void due(String call, boolean got, boolean want) {
        due(call, got ? 1 : 0, want ? 1 : 0);
    }

    private static int put(AgeRoofs x, String text) {
        int answer = 0;
        for (int at = 0; at < text.length(); at += 20) {
            int[] five = new int[5];
            for (int k = 0; k < 20 && at + k < text.length(); k++) {
                five[k / 4] |= text.charAt(at + k) << 24 - 8 * (k % 4);
            }
            answer = x.feed(five[0], five[1], five[2], five[3], five[4]);
        }
        return answer;
    }

    private static AgeRoofs parish(String text) {
        AgeRoofs x = new AgeRoofs();
        put(x, text);
        if (x.text(0) < 1) {
            due("text(0) of " + text, x.fault(0), NONE);
        }
        return x;
    }

    private static int addLaw(AgeRoofs x, String text) {
        x.end(0);
        put(x, text);
        return x.text(1);
    }

    private static AgeRoofs parish(String text, String law) {
        AgeRoofs x = parish(text);
        due("law " + law, x.law(addLaw(x, law)), true);
        return x;
    }

    private static boolean throwsFor(AgeRoofs x, int person, int what) {
        try {
            x.person(person, what);
            return false;
        } catch (NoSuchElementException e) {
            return true;
        }
    }

    private static void newObject() {
        AgeRoofs x = new AgeRoofs();
        for (int what = 0; what <= 8; what++) {
            due("new: count(" + what + ")", x.count(what), 0);
        }
        due("new: house", x.house(0, 0), NONE);
        due("new: law", x.law(NONE), false);
        due("new: today", x.today(0), false);
        due("new: clash", x.clash(0, 1, 0), NONE);
        due("new: clashes", x.clashes(0, 1, 1, 0), HIDDEN);
        due("new: move", x.move(0, NONE), false);
        due("new: judge", x.judge(1, 0), HIDDEN);
        due("new: worst", x.worst(1), NONE);
        due("new: fewest", x.fewest(1, 1), NONE);
        due("new: lasts", x.lasts(1), NONE);
        due("new: bars", x.bars(1), NONE);
        due("new: moves", x.moves(1), NONE);
        due("new: night", x.night(0, NONE), NONE);
        due("new: lodger", x.lodger(0, 1, 1, 0), HIDDEN);
        due("new: say", x.say(0, 0), NONE);
        due("new: known", x.known(1, 0), HIDDEN);
        due("new: worth", x.worth(0, 0, 0), false);
        due("new: rather", x.rather(0), NONE);
        due("new: turn", x.turn(), NONE);
        due("new: best", x.best(0), HIDDEN);
        due("new: days", x.days(1), NONE);
        due("new: free", x.free(0, 1), NONE);
        due("new: till", x.till(0), NONE);
        due("new: swap", x.swap(NONE), NONE);
        due("new: peak", x.peak(1, 1), NONE);
        due("new: wants", x.wants(1, 6), NONE);
        due("new: guests", x.guests(0, 1, 0), NONE);
        due("new: twins", x.twins(1), NONE);
        due("new: image", x.image(), NONE);
        due("new: back", x.back(), NONE);
        due("new: person throws", throwsFor(x, 0, 0), true);
    }

    private static void feed() {
        AgeRoofs x = new AgeRoofs();
        due("feed of nothing", x.feed(0, 0, 0, 0, 0), 0);
        due("feed leaves zeros out", x.feed(0x70000000, 0x00003b00, 0, 0x00720000, 0x00000020), 4);
        due("feed: highest byte first", x.fault(0), NONE);
        due("feed of signs above 127", x.feed(0xff000000, 0, 0, 0, 0xff), 6);
        due("feed: wrong at such a sign", x.fault(0), 4);
        x.end(0);
        for (int k = 1; k <= 8; k++) {
            due("feed of twenty", x.feed(0x20202020, 0x20202020, 0x20202020, 0x20202020, 0x20202020), 20 * k);
        }
        due("feed of one more than 160", x.feed(0, 0, 0, 0, 1), NONE);
        due("feed of zeros at 160", x.feed(0, 0, 0, 0, 0), 160);
        x.end(159);
        due("feed of two at 159", x.feed(1, 0, 0, 0, 1), NONE);
        due("feed of two more at 159", x.feed(1, 1, 0, 0, 0), NONE);
        due("feed of two others at 159", x.feed(0, 0, 1, 1, 0), NONE);
        due("feed of two in one number at 159", x.feed(0, 0, 257, 0, 0), NONE);
        due("feed that was refused adds nothing", x.count(3), 159);
        due("feed up to 160", x.feed(0, 0, 1, 0, 0), 160);
    }

    private static void end() {
        AgeRoofs x = new AgeRoofs();
        put(x, "p;rz");
        due("end(5)", x.end(5), false);
        due("end(-1)", x.end(-1), false);
        due("end left all", x.count(3), 4);
        due("end(4)", x.end(4), true);
        due("fault at z", x.fault(0), 3);
        due("end(3)", x.end(3), true);
        due("end took z away", x.fault(0), NONE);
        due("end(0)", x.end(0), true);
        due("nothing is left", x.count(3), 0);
    }

    private static void faultIs(int sort, String text, int want) {
        AgeRoofs x = new AgeRoofs();
        put(x, text);
        due("fault(" + sort + ") of \"" + text + "\"", x.fault(sort), want);
        due("fault leaves the tape \"" + text + "\"", x.count(3), text.length());
    }

    private static void fault() {
        faultIs(0, "", 0);
        faultIs(0, "   ", 3);
        faultIs(0, "p;r", NONE);
        faultIs(0, "r;p", NONE);
        faultIs(0, "r ; p", NONE);
        faultIs(0, "p;r  ", NONE);
        faultIs(0, "p;", 2);
        faultIs(0, "p;r;", 4);
        faultIs(0, "p;;r", 2);
        faultIs(0, ";p;r", 0);
        faultIs(0, "p;p", 3);
        faultIs(0, "pr", 1);
        faultIs(0, "p y 99 d 360 h 3 ; r ; r ; r ; r m 6 c 99", NONE);
        faultIs(0, "pd1y0h0;rc0m1", NONE);
        faultIs(0, "py007d001h00;rm06", NONE);
        faultIs(0, "py1 2;r", 4);
        faultIs(0, "py;r", 2);
        faultIs(0, "pyd;r", 2);
        faultIs(0, "py100;r", 4);
        faultIs(0, "py999", 4);
        faultIs(0, "py9999;r", 5);
        faultIs(0, "py0001;r", 5);
        faultIs(0, "pd0;r", 2);
        faultIs(0, "pd00 ;r", 3);
        faultIs(0, "pd361", 4);
        faultIs(0, "ph4;r", 2);
        faultIs(0, "ph10;r", 3);
        faultIs(0, "p;rm0", 4);
        faultIs(0, "p;rm7", 4);
        faultIs(0, "p;rc100", 6);
        faultIs(0, "p;ry1", 3);
        faultIs(0, "pc1;r", 1);
        faultIs(0, "py1d1y1;r", 5);
        faultIs(0, "p;rm1c1m1", 7);
        faultIs(0, "ph3;r;r;r", 9);
        faultIs(0, "ph3;r;r;r;r", NONE);
        faultIs(0, "ph3;r;r;x", 8);
        faultIs(0, "p;p;p;p;p;p;r;r;r;r", NONE);
        faultIs(0, "p;p;p;p;p;p;r;p", 14);
        faultIs(0, "p;r;r;r;r;r", 10);
        faultIs(0, "p;p;p;p;p;p;r;r;r;r;x", 20);
        faultIs(0, "P;r", 0);
        AgeRoofs x = parish(THREE);
        due("fault(2)", x.fault(2), -2);
        due("fault(-1)", x.fault(-1), -2);
        put(x, "p;r");
        x.fault(0);
        due("fault changes no parish", x.count(0), 3);
    }

    private static void faultOfLaw() {
        faultIs(1, "", 0);
        faultIs(1, "y", 1);
        faultIs(1, "y:", 2);
        faultIs(1, "y:0", NONE);
        faultIs(1, " y : 1 + a * [ b - x ] / y - n ", NONE);
        faultIs(1, "y:1;y:2", NONE);
        faultIs(1, "y:1;", 4);
        faultIs(1, "y:1,", 3);
        faultIs(1, "x:1", 0);
        faultIs(1, "y1", 1);
        faultIs(1, "y:a?1", 3);
        faultIs(1, "y:a=1", 5);
        faultIs(1, "y:a=1?", 6);
        faultIs(1, "y:a=1?1", NONE);
        faultIs(1, "y:a=1=1?1", 5);
        faultIs(1, "y:(a)?1", 4);
        faultIs(1, "y:(a=1)", 7);
        faultIs(1, "y:(a=1)?1", NONE);
        faultIs(1, "y:(a=1?1", 6);
        faultIs(1, "y:!a?1", 4);
        faultIs(1, "y:!a=1|b<2&(x>3|y=4)?n", NONE);
        faultIs(1, "y:a&b=1?1", 3);
        faultIs(1, "y:a=1&?1", 6);
        faultIs(1, "y:[a=1]?1", 4);
        faultIs(1, "y:a=1?b=1", 7);
        faultIs(1, "y:-1", 2);
        faultIs(1, "y:1+", 4);
        faultIs(1, "y:1*;y:1", 4);
        faultIs(1, "y:a=?1", 4);
        faultIs(1, "y:a=1|?1", 6);
        faultIs(1, "y:a b", 4);
        faultIs(1, "y:1 2", 4);
        faultIs(1, "y:9999", NONE);
        faultIs(1, "y:12345", 6);
        faultIs(1, "y:00000", 6);
        faultIs(1, "y:1a", 3);
        faultIs(1, "y:c", 2);
        faultIs(1, "y:[[[[[[1]]]]]]", NONE);
        faultIs(1, "y:[[[[[[[1]]]]]]]", 8);
        faultIs(1, "y:!!!!!!a=1?1", NONE);
        faultIs(1, "y:!!!!!!!a=1?1", 8);
        faultIs(1, "y:!(!(!([1]=1)))?1", 8);
        faultIs(1, "y:!(!(!(1=1)))?1", NONE);
        faultIs(1, "y:((((((1=1))))))?1", NONE);
        faultIs(1, "y:(((((([1]=1))))))?1", 8);
        faultIs(1, "y:!a=1&!b=1&!x=1&!y=1&!n=1&!a=2&!b=2?1", NONE);
        faultIs(1, "y:[a]+[b]*[[[[[[1]]]]]]", NONE);
        faultIs(1, "y:[a", 4);
        faultIs(1, "y:[a)", 4);
    }

    private static void textOfParish() {
        AgeRoofs x = parish(THREE);
        due("text: people", x.count(0), 3);
        due("text empties the tape", x.count(3), 0);
        due("text of an empty tape", x.text(0), NONE);
        due("text(2)", x.text(2), NONE);
        due("text(-1)", x.text(-1), NONE);
        due("law", addLaw(x, "y:1"), 0);
        x.law(0);
        x.today(5);
        x.worth(0, 0, 99);
        x.say(0, 0);
        x.risk(100);
        x.seed(77L);
        x.image();
        x.move(0, NONE);
        put(x, "p;x");
        due("text with a fault", x.text(0), NONE);
        due("text with a fault keeps the tape", x.count(3), 3);
        due("text with a fault keeps the parish", x.count(4), 5);
        x.end(0);
        put(x, "py20d7;p;rm1;r;rc20");
        due("text of another parish", x.text(0), 2);
        due("another: houses", x.count(1), 3);
        due("another: laws stay", x.count(2), 1);
        due("another: TODAY", x.count(4), 0);
        due("another: SAID", x.count(5), 0);
        due("another: nobody is housed", x.count(8), 2);
        due("another: no image", x.back(), NONE);
        due("another: no law holds", x.clash(0, 1, 0), 0);
        due("another: worths are gone", x.rather(0), NONE);
        due("another: born", x.person(0, 3), 6 - 7200);
        due("without years and date", x.person(1, 3), -10800);
        due("rooms", x.house(0, 0), 1);
        due("rooms without", x.house(1, 0), 3);
        due("price without", x.house(1, 1), 10);
        due("price", x.house(2, 1), 20);
        x.today(358);
        x.days(1);
        due("another: the risk stays", x.count(7), 2);
        put(x, "p;r");
        x.text(0);
        due("another: MOVED", x.count(6), 0);
        due("another: DEAD", x.count(7), 0);
    }

    private static void textOfLaw() {
        AgeRoofs x = new AgeRoofs();
        due("a law without a parish", addLaw(x, "y:1"), 0);
        due("its tape is empty then", x.count(3), 0);
        due("a law with a fault", addLaw(x, "y:"), NONE);
        due("its tape stays", x.count(3), 2);
        due("second", addLaw(x, "y:2"), 1);
        due("third", addLaw(x, "y:0"), 2);
        due("fourth", addLaw(x, "y:4"), 3);
        due("fifth", addLaw(x, "y:5"), NONE);
        due("its tape stays, too", x.count(3), 3);
        due("laws", x.count(2), 4);
    }

    private static void person() {
        AgeRoofs x = parish("py0d360h0;py99d1;py30d100;r");
        due("age ahead of birth", x.person(0, 0), -1);
        due("date", x.person(0, 1), 360);
        due("home", x.person(0, 2), 0);
        due("no home", x.person(1, 2), NONE);
        due("born", x.person(0, 3), 359);
        due("born long ago", x.person(1, 3), -35640);
        due("age on the birthday", x.person(1, 0), 99);
        due("age", x.person(2, 0), 29);
        x.today(99);
        due("age on day 99", x.person(2, 0), 30);
        x.today(359);
        due("age on the day of birth", x.person(0, 0), 0);
        due("person(-1)", throwsFor(x, -1, 0), true);
        due("person(3)", throwsFor(x, 3, 0), true);
        due("what -1", throwsFor(x, 0, -1), true);
        due("what 4", throwsFor(x, 0, 4), true);
    }

    private static void house() {
        AgeRoofs x = parish(THREE);
        int[] want = {2, 10, 2, 3, 1, 5, 1, 4};
        for (int k = 0; k < 8; k++) {
            due("house(" + k / 4 + ", " + k % 4 + ")", x.house(k / 4, k % 4), want[k]);
        }
        due("house(2, 0)", x.house(2, 0), NONE);
        due("house(-1, 3)", x.house(-1, 3), NONE);
        due("house(0, 4)", x.house(0, 4), NONE);
        due("house(0, -1)", x.house(0, -1), NONE);
    }

    private static void law() {
        AgeRoofs x = new AgeRoofs();
        addLaw(x, "y:1");
        due("law without a parish", x.law(0), false);
        due("no law without a parish", x.law(NONE), false);
        put(x, "py20;py40;r");
        x.text(0);
        due("no law: ages", x.clash(0, 1, 0), 0);
        due("law(0)", x.law(0), true);
        due("law 0 holds", x.clash(0, 1, 0), 1);
        due("law(1)", x.law(1), false);
        due("law(-2)", x.law(-2), false);
        due("law 0 still holds", x.clash(0, 1, 0), 1);
        due("law(NONE)", x.law(NONE), true);
        due("none holds", x.clash(0, 1, 0), 0);
    }

    /** Whether the law's worth is above 0 for two of 40 and 20 on day 10 (date 11), 7200 days apart, of 3 people. */
    private static void clashesBy(String law, boolean want) {
        AgeRoofs x = parish("py20;py40;p;r", law);
        due("law " + law, x.clash(0, 1, 10), want ? 1 : 0);
        due("law, the other way, " + law, x.clash(1, 0, 10), want ? 1 : 0);
    }

    private static void lawWorths() {
        clashesBy("y:a=40&b=20&x=7200&y=11&n=3?1", true);
        clashesBy("y:!a=40|!b=20|!x=7200|!y=11|!n=3?1", false);
        clashesBy("y:0", false);
        clashesBy("y:0-1", false);
        clashesBy("y:1", true);
        clashesBy("y:a=1?0;y:a=40?1;y:0", true);
        clashesBy("y:a=40?0;y:1", false);
        clashesBy("y:a=1?1", false);
        clashesBy("y:2+3*4=14?1", true);
        clashesBy("y:[2+3]*4=20?1", true);
        clashesBy("y:10-3-2=5?1", true);
        clashesBy("y:100/10/5=2?1", true);
        clashesBy("y:2*7/4=3?1", true);
        clashesBy("y:[0-7]/2=0-3?1", true);
        clashesBy("y:7/0=0?1", true);
        clashesBy("y:9999*9999=1000*1000?1", true);
        clashesBy("y:9999*9999-1=999999?1", false);
        clashesBy("y:9999*9999-1=1000*1000-1?1", true);
        clashesBy("y:[0-9999]*9999+1=0-1000*1000+1?1", true);
        clashesBy("y:9999*9999/1000=1000?1", true);
        clashesBy("y:1=2|1=1&1=1?1", true);
        clashesBy("y:1=1|1=1&1=2?1", true);
        clashesBy("y:(1=1|1=1)&1=2?1", false);
        clashesBy("y:!1=2&1=1?1", true);
        clashesBy("y:!(1=2|1=1)?1", false);
        clashesBy("y:!!1=1?1", true);
        clashesBy("y:1<2&2>1&!1>1&!1<1?1", true);
        AgeRoofs x = parish("py20d5;py20d5;r", "y:a=b&x=0?1");
        due("born on one day", x.clash(1, 0, 0), 1);
        x = parish("py20d1;py20d2;r", "y:a-b");
        due("a is of the one born first", x.clash(1, 0, 0), 1);
        due("in the same year of life", x.clash(0, 1, 1), 0);
        x = parish("py20;py40;r", "y:y=180?1");
        due("the date of the day decides", x.clashes(0, 1, 720, 0), 2);
        due("first on it", x.clashes(0, 1, 720, 1), 179);
        x = parish("py20;py40;r", "y:n=2?1");
        due("of two people", x.clash(0, 1, 0), 1);
        put(x, "py20;py40;p;r");
        x.text(0);
        x.law(0);
        due("of three people", x.clash(0, 1, 0), 0);
    }

    private static void today() {
        AgeRoofs x = parish(THREE);
        due("today(9999)", x.today(9999), true);
        due("today(10000)", x.today(10000), false);
        due("today(-1)", x.today(-1), false);
        due("TODAY", x.count(4), 9999);
        due("today(0)", x.today(0), true);
        due("TODAY again", x.count(4), 0);
    }

    private static void clash() {
        AgeRoofs x = parish(THREE);
        due("clash on day 98", x.clash(0, 1, 98), 1);
        due("clash on day 99", x.clash(0, 1, 99), 0);
        due("clash on day 198", x.clash(1, 0, 198), 0);
        due("clash on day 199", x.clash(1, 0, 199), 1);
        due("clash on day 9999", x.clash(0, 1, 9999), 1);
        due("clash on day 10000", x.clash(0, 1, 10000), NONE);
        due("clash on day -1", x.clash(0, 1, -1), NONE);
        due("clash of one", x.clash(1, 1, 0), NONE);
        due("clash with nobody", x.clash(1, 3, 0), NONE);
        due("clash of nobody", x.clash(-1, 0, 0), NONE);
    }

    private static void clashes() {
        AgeRoofs x = parish(THREE);
        due("clashes in a year", x.clashes(0, 1, 360, 0), 260);
        x.today(99);
        due("clashes from 99 on", x.clashes(0, 1, 101, 0), 1);
        due("first from 99 on", x.clashes(1, 0, 101, 1), 199);
        due("none in 100", x.clashes(0, 1, 100, 1), NONE);
        due("0 in 100", x.clashes(0, 1, 100, 0), 0);
        x.today(9999);
        due("days beyond the last TODAY count", x.clashes(0, 1, 720, 0), 520);
        due("clashes of one", x.clashes(0, 0, 1, 0), HIDDEN);
        due("clashes with nobody", x.clashes(0, 3, 1, 0), HIDDEN);
        due("clashes on 0 days", x.clashes(0, 1, 0, 0), HIDDEN);
        due("clashes on 721 days", x.clashes(0, 1, 721, 1), HIDDEN);
        due("clashes what 2", x.clashes(0, 1, 1, 2), HIDDEN);
    }

    private static void move() {
        AgeRoofs x = parish(THREE);
        due("move into a full house", x.move(0, 1), true);
        due("two live there", x.house(1, 3), 5);
        due("move where it lives", x.move(0, 1), false);
        due("move to none", x.move(0, NONE), true);
        due("move to none again", x.move(0, NONE), false);
        due("move to no house", x.move(0, 2), false);
        due("move to -2", x.move(0, -2), false);
        due("move of nobody", x.move(3, 0), false);
        due("move of -1", x.move(-1, 0), false);
        due("it lives nowhere", x.person(0, 2), NONE);
        due("moves by hand are not MOVED", x.count(6), 0);
    }

    private static void judge() {
        AgeRoofs x = parish("py20h1;py40h1;py20d2h0;py40d2h0;rm1;rm2");
        due("too many: day", x.judge(1, 0), 0);
        due("too many: why", x.judge(1, 1), 2);
        due("too many: house", x.judge(1, 2), 0);
        x.move(2, 1);
        due("clash: why", x.judge(720, 1), 2);
        due("the lowest house with anything wrong", x.judge(720, 2), 1);
        x.move(1, NONE);
        due("lawful on day 0", x.judge(1, 0), NONE);
        due("lawful: why", x.judge(1, 1), 0);
        due("lawful: house", x.judge(1, 2), NONE);
        due("clash on day 1", x.judge(2, 0), 1);
        due("clash: why", x.judge(2, 1), 1);
        due("clash: house", x.judge(2, 2), 1);
        x.move(1, 1);
        x.today(1);
        due("clash ahead of too many", x.judge(1, 1), 1);
        due("judge(0, 0)", x.judge(0, 0), HIDDEN);
        due("judge(721, 0)", x.judge(721, 0), HIDDEN);
        due("judge(1, 3)", x.judge(1, 3), HIDDEN);
        due("judge(1, -1)", x.judge(1, -1), HIDDEN);
        x = parish("p;p;r");
        due("two who live nowhere", x.judge(720, 0), NONE);
    }

    private static void worst() {
        AgeRoofs x = parish("pd11h0;pd1h0;pd31h0;p;pd31h1;pd31h1;rm6;r");
        due("worst of a year", x.worst(360), 45);
        x.move(4, NONE);
        due("of those in one house", x.worst(360), 1);
        due("of those who clash at all", x.worst(1), 2);
        x.move(2, NONE);
        x.today(5);
        due("none clashes", x.worst(5), NONE);
        due("on the sixth day", x.worst(6), 1);
        due("worst(0)", x.worst(0), NONE);
        due("worst(721)", x.worst(721), NONE);
        x = parish("ph0;ph0;ph0;r");
        due("of several the first", x.worst(720), 1);
    }

    private static void fewest() {
        // Each two clash on one of three days, but never all on one.
        AgeRoofs x = parish("py20;py21;py22;r", "y:y=1&x=360&b=20?1;y:y=2&x=360&b=21?1;y:y=3&x=720?1");
        due("three in three days", x.fewest(3, 0), 3);
        due("but two on a day", x.fewest(3, 1), 2);
        due("two in two days", x.fewest(2, 0), 2);
        due("two on one day", x.fewest(1, 1), 2);
        x.today(5);
        due("nobody", x.fewest(300, 0), 1);
        due("one alone clashes with nobody", x.fewest(300, 1), 1);
        due("fewest(0, 0)", x.fewest(0, 0), NONE);
        due("fewest(721, 0)", x.fewest(721, 0), NONE);
        due("fewest(1, 2)", x.fewest(1, 2), NONE);
        due("fewest(1, -1)", x.fewest(1, -1), NONE);
        x = parish("p;p;p;p;p;p;r");
        due("six of one age", x.fewest(1, 0), 6);
        due("six of whom each two clash", x.fewest(1, 1), 6);
    }

    private static void lasts() {
        AgeRoofs x = parish(THREE);
        due("lasts", x.lasts(360), 4);
        x.today(99);
        due("lasts a hundred days", x.lasts(100), 1);
        due("lasts(0)", x.lasts(0), NONE);
        due("lasts(721)", x.lasts(721), NONE);
        due("rooms for all", parish("p;py40;r").lasts(720), 0);
        due("too few rooms", parish("p;py40;rm1").lasts(1), NONE);
        due("too few houses", parish("p;p;r").lasts(1), NONE);
        due("each alone", parish("p;p;p;p;r;r;r;r").lasts(1), 27);
    }

    private static void bars() {
        due("two of one age", parish("p;py40;p;r").bars(1), 5);
        due("none bars", parish("p;py40;p;r;r").bars(1), NONE);
        due("too few rooms for three", parish("p;py40;py50;rm1;rm1").bars(1), 7);
        due("the lower one where two first differ", parish("py20;py30;py30;py20;r").bars(1), 9);
        due("fewer ahead of lower", parish("py20;py30;py40;py50;py50;rm3").bars(1), 24);
        due("bars(0)", parish("p;p;r").bars(0), NONE);
        due("bars(721)", parish("p;p;r").bars(721), NONE);
    }

    private static void moves() {
        AgeRoofs x = parish(THREE);
        due("moves", x.moves(1), 2);
        x.today(99);
        due("nobody moves for a hundred days", x.moves(100), 0);
        due("on the next two change", x.moves(101), 2);
        due("to come in from none counts", parish("p;py40;r").moves(1), 2);
        due("there and back", parish("py20h0;py21h1;py40h0;rm2;rm2", "y:y=2&b=20&a=21?0;y:y=2&b=20?1").moves(3), 1);
        due("both ways", parish("py20h0;py40h0;py60h1;rm2;rm2", "y:y=2&x=7200&b=20?1;y:y=4&a=60&b=20?1;y:y=4&b=40?1").moves(4), 2);
        due("none is lawful on day 1", parish("py20;py40;r", "y:y=2?1").moves(2), NONE);
        due("but on day 0", parish("py20;py40;r", "y:y=2?1").moves(1), 2);
        due("six people", parish("p;p;p;p;p;p;r;r;r").moves(1), NONE);
        due("four houses", parish("p;r;r;r;r").moves(1), NONE);
        due("five and three", parish("py1;py2;py3;py4;py5;rm1;rm1;rm3").moves(720), 5);
        due("moves(0)", x.moves(0), NONE);
        due("moves(721)", x.moves(721), NONE);
    }

    private static void night() {
        AgeRoofs x = parish("py20h0;py20h1;py40h0;r;r;r");
        due("as it is", x.night(4, NONE), 0);
        due("no step of it", x.night(4, 0), NONE);
        // 0 and 1 change houses: one goes round by house 2, and the lower one does so first.
        due("round by the third house", x.night(16, NONE), 3);
        due("first step", x.night(16, 0), 2);
        due("second step", x.night(16, 1), 10);
        due("third step", x.night(16, 2), 1);
        due("no fourth", x.night(16, 3), NONE);
        due("k -2", x.night(16, -2), NONE);
        due("an unlawful goal", x.night(0, NONE), NONE);
        due("no such house", x.night(3, NONE), NONE);
        due("too long", x.night(64, NONE), NONE);
        due("below 0", x.night(-1, NONE), NONE);
        x = parish("py20h0;py20h1;r;r");
        due("it can't be", x.night(4, NONE), NONE);
        x = parish("py20h0;py20h0;r;r");
        due("as it is, not lawful", x.night(0, NONE), 0);
        due("out of an unlawful one", x.night(1, NONE), 1);
        due("by one step", x.night(1, 0), 11);
        x.move(0, NONE);
        due("not all are housed", x.night(1, NONE), NONE);
        due("six people", parish("ph0;ph0;ph0;ph0;ph0;ph0;r").night(0, NONE), NONE);
        due("four houses", parish("ph0;r;r;r;r").night(0, NONE), NONE);
        due("five and three", parish("ph0;py2h0;py3h0;py4h0;py5h0;rm6;r;r").night(1023 - 341, NONE), NONE);
        due("five and three rooms", parish("ph0;py2h0;py3h0;py4h0;py5h0;rm6;rm6;r").night(341, NONE), 5);
    }

    private static void lodger() {
        AgeRoofs x = parish(THREE);
        x.today(99);
        // Who was born as the first one is 30 till day 458; the second 29 till day 198.
        due("dates of 30 years", x.lodger(0, 30, 1, 0), 0);
        due("least of none", x.lodger(0, 30, 1, 1), NONE);
        due("longest of none", x.lodger(0, 30, 1, 2), 0);
        due("dates of 29 years", x.lodger(1, 29, 1, 0), 100);
        due("dates of 40 years", x.lodger(0, 40, 720, 0), 360);
        due("least of all", x.lodger(0, 40, 720, 1), 1);
        due("longest of all", x.lodger(0, 40, 720, 2), 360);
        x.move(1, NONE);
        due("least", x.lodger(0, 30, 1, 1), 101);
        due("longest", x.lodger(0, 30, 1, 2), 260);
        due("days that follow", x.lodger(0, 30, 2, 0), 259);
        x = parish("pd5h0;rm1;r", "y:x=7100?1;y:x=7000?1;y:n>1?1");
        due("two dates are barred, rooms are not looked at", x.lodger(0, 50, 1, 0), 358);
        x = parish("pd5h0;rm1;r", "y:x=7200+100|x=7200-100?1");
        due("barred in the middle", x.lodger(0, 50, 1, 0), 359);
        due("the longest row behind it", x.lodger(0, 50, 1, 2), 255);
        due("the row does not go round", x.lodger(0, 10, 1, 2), 255);
        due("an empty house", x.lodger(1, 0, 720, 0), 360);
        due("no such house", x.lodger(2, 30, 1, 0), HIDDEN);
        due("house -1", x.lodger(-1, 30, 1, 0), HIDDEN);
        due("years -1", x.lodger(0, -1, 1, 0), HIDDEN);
        due("years 100", x.lodger(0, 100, 1, 0), HIDDEN);
        due("years 99", x.lodger(0, 99, 1, 0), 360);
        due("0 days", x.lodger(0, 30, 0, 0), HIDDEN);
        due("721 days", x.lodger(0, 30, 721, 0), HIDDEN);
        due("what 3", x.lodger(0, 30, 1, 3), HIDDEN);
        due("what -1", x.lodger(0, 30, 1, -1), HIDDEN);
    }

    private static void say() {
        AgeRoofs x = parish(THREE);
        due("say of nobody", x.say(3, 0), NONE);
        due("say of -1", x.say(-1, 0), NONE);
        due("say on day -1", x.say(0, -1), NONE);
        due("say on day 10000", x.say(0, 10000), NONE);
        for (int k = 1; k <= 20; k++) {
            due("say", x.say(k % 3, k == 1 ? 9999 : 0), k);
        }
        due("a 21st", x.say(0, 0), NONE);
        due("SAID", x.count(5), 20);
    }

    private static void known() {
        AgeRoofs x = parish(THREE);
        due("nothing said: many", x.known(0, 0), 360);
        due("nothing said: least", x.known(0, 1), 1);
        due("nothing said: greatest", x.known(0, 2), 360);
        x.say(0, 99);
        due("many", x.known(30, 0), 260);
        due("least", x.known(30, 1), 101);
        due("greatest of 31", x.known(31, 2), 100);
        x.say(1, 99);
        due("both sorts barred", x.known(30, 0), 0);
        due("least of none", x.known(30, 1), NONE);
        due("greatest of none", x.known(30, 2), NONE);
        due("years -1", x.known(-1, 0), HIDDEN);
        due("years 100", x.known(100, 0), HIDDEN);
        due("years 99", x.known(99, 0), 360);
        due("what 3", x.known(30, 3), HIDDEN);
        due("what -1", x.known(30, -1), HIDDEN);
        addLaw(x, "y:x=10?1");
        x.law(0);
        due("by the law that holds now", x.known(30, 0), 360 - 4);
        x = parish("p;r", "y:x<360?1");
        x.say(0, 0);
        due("one date alone", x.known(31, 0), 1);
        due("it is the least", x.known(31, 1), 1);
        due("it is the greatest", x.known(31, 2), 1);
    }

    private static void worth() {
        AgeRoofs x = parish("ph0;py40;r;rc99");
        due("worth", x.worth(0, 1, 99), true);
        due("worth 100", x.worth(0, 1, 100), false);
        due("worth -1", x.worth(0, 1, -1), false);
        due("no such house", x.worth(0, 2, 1), false);
        due("house -1", x.worth(0, -1, 1), false);
        due("no such person", x.worth(2, 0, 1), false);
        due("person -1", x.worth(-1, 0, 1), false);
        due("99 less 99 is more than 0 less 10", x.rather(0), 1);
        due("worth 89", x.worth(0, 1, 89), true);
        due("89 less 99 is no more", x.rather(0), NONE);
        due("worth 0", x.worth(0, 1, 0), true);
        due("the other's is its own", x.rather(1), NONE);
    }

    private static void rather() {
        AgeRoofs x = parish("py20;py20h1;py40h2;rc10;rc0;rm1c0;rc5");
        x.worth(0, 0, 10);
        due("no more than nowhere", x.rather(0), NONE);
        x.worth(0, 1, 50);
        due("it clashes there", x.rather(0), NONE);
        x.worth(0, 2, 60);
        due("that is full", x.rather(0), NONE);
        x.worth(0, 3, 6);
        due("one more than nowhere", x.rather(0), 3);
        x.worth(0, 0, 11);
        due("of several the lowest", x.rather(0), 0);
        x.worth(0, 3, 7);
        due("the greatest", x.rather(0), 3);
        x.move(2, NONE);
        due("free now", x.rather(0), 2);
        x.today(720);
        addLaw(x, "y:0");
        x.law(0);
        due("still", x.rather(0), 2);
        x.move(0, 2);
        due("it lives in the best", x.rather(0), NONE);
        due("rather of nobody", x.rather(3), NONE);
        due("rather of -1", x.rather(-1), NONE);
    }

    private static void turn() {
        AgeRoofs x = parish("py20h0;py30h1;rm1c0;rm1c0;rm1c0");
        due("nobody moves", x.turn(), 0);
        x.worth(0, 1, 9);
        x.worth(0, 2, 1);
        x.worth(1, 0, 9);
        // 0 to 2, 1 to 0, then 0 to 1.
        due("three moves", x.turn(), 3);
        due("where 0 lives", x.person(0, 2), 1);
        due("where 1 lives", x.person(1, 2), 0);
        due("they are not MOVED", x.count(6), 0);
        due("and none again", x.turn(), 0);
    }

    private static void best() {
        AgeRoofs x = parish("py20;py20;py30;rm2c0;rm2c0");
        due("all worth nothing", x.best(0), 0);
        due("nobody housed is the least", x.best(1), 0);
        x.worth(0, 0, 5);
        x.worth(1, 0, 5);
        due("one of two who clash", x.best(0), 5);
        due("the least living", x.best(1), 5);
        x.worth(1, 1, 2);
        due("both", x.best(0), 7);
        due("0 in 0, 1 in 1", x.best(1), 1 * 25 + 2 * 5);
        x.worth(2, 0, 3);
        due("all three", x.best(0), 10);
        due("as digits", x.best(1), 1 * 25 + 2 * 5 + 1);
        due("who lives where is not asked", x.count(8), 3);
        due("best(2)", x.best(2), HIDDEN);
        due("best(-1)", x.best(-1), HIDDEN);
        x = parish("py20h0;py40h0;rm1c99");
        due("a house that costs", x.best(0), 0);
        x.worth(0, 0, 99);
        due("no gain", x.best(1), 0);
        x = parish("py1;py2;py3;py4;py5;py6;rm6c0;rm6c0;rm6c0;rm6c0");
        for (int k = 0; k < 24; k++) {
            x.worth(k / 4, k % 4, 50 + k % 4);
        }
        due("six in the last house", x.best(1), 15624);
        due("six times 53", x.best(0), 318);
    }

    private static void risk() {
        AgeRoofs x = new AgeRoofs();
        due("risk(0)", x.risk(0), true);
        due("risk(100)", x.risk(100), true);
        due("risk(101)", x.risk(101), false);
        due("risk(-1)", x.risk(-1), false);
        put(x, "p;p;r");
        x.text(0);
        x.today(358);
        x.days(1);
        due("100 is for all", x.count(7), 2);
        x.risk(0);
        x.days(360);
        due("0 is for none", x.count(7), 2);
    }

    /** How many of six die in ten years, drawn here by the document's words. */
    private static int deaths(long seed, int risk) {
        long v = seed;
        int dead = 0;
        for (int k = 0; k < 60; k++) {
            v = v * 6364136223846793005L + 1442695040888963407L;
            dead += (v >>> 33) % 100 < risk ? 1 : 0;
        }
        return dead;
    }

    private static void seed() {
        long[] seeds = {0L, 1L, -1L, Long.MIN_VALUE, 123456789012345L};
        for (long seed : seeds) {
            AgeRoofs x = parish("p;p;p;p;p;p;r");
            x.risk(37);
            x.seed(seed);
            for (int k = 0; k < 5; k++) {
                x.days(720);
            }
            due("deaths by seed " + seed, x.count(7), deaths(seed, 37));
        }
        AgeRoofs x = parish("p;p;p;p;p;p;r");
        x.risk(37);
        for (int k = 0; k < 5; k++) {
            x.days(720);
        }
        due("0 without a seed", x.count(7), deaths(0L, 37));
        for (long seed = 1; seed <= 20; seed++) {
            x = parish("p;p;p;p;p;p;r");
            x.risk(1);
            x.seed(seed);
            for (int k = 0; k < 5; k++) {
                x.days(720);
            }
            due("deaths at the least risk by seed " + seed, x.count(7), deaths(seed, 1));
        }
    }

    private static void days() {
        AgeRoofs x = parish("py20d5h0;py20d9h0;py20d9h0;rm2;r");
        // On day 4 the first is 20, on day 8 the others, too: 1 goes to the other house, 2 clashes in both.
        due("a birthday without a clash", x.days(4), 0);
        due("day 8", x.days(4), 2);
        due("1 looked for a room", x.person(1, 2), 1);
        due("2 found none", x.person(2, 2), NONE);
        due("who lives nowhere", x.count(8), 1);
        due("TODAY", x.count(4), 8);
        due("nothing in the year", x.days(355), 2);
        due("TODAY a year later", x.count(4), 363);
        due("0 has its birthday, so 2 may live with it", x.days(1), 3);
        due("2 lives with 0", x.person(2, 2), 0);
        due("days(0)", x.days(0), NONE);
        due("days(721)", x.days(721), NONE);
        due("days(-1)", x.days(-1), NONE);
        x.today(9279);
        x.move(0, NONE);
        due("up to the last day", x.days(720) >= 3 ? 1 : 0, 1);
        due("the last day", x.count(4), 9999);
        due("days beyond", x.days(1), NONE);
        due("still the last day", x.count(4), 9999);
        deathsInDays();
    }

    private static void deathsInDays() {
        AgeRoofs x = parish("py20h0;py21h1;r;r");
        x.risk(100);
        due("to date 359", x.days(358), 0);
        due("nobody died yet", x.count(7), 0);
        x.days(1);
        due("all died on date 360", x.count(7), 2);
        due("born then", x.person(0, 3), 359);
        due("who lives there", x.person(1, 2), 1);
        due("of age 0", x.person(1, 0), 0);
        x.move(1, 0);
        due("their birthday is date 360", x.days(359), 0);
        due("then one moves", x.days(1), 1);
        due("the lower one", x.person(0, 2), 1);
        due("and all die again", x.count(7), 4);
    }

    private static void free() {
        AgeRoofs x = parish(THREE);
        due("free", x.free(0, 1), 0);
        due("free of the third", x.free(2, 1), 2);
        x.move(2, NONE);
        due("now the second house", x.free(0, 1), 2);
        x.today(99);
        due("both for a hundred days", x.free(0, 100), 3);
        due("one for more", x.free(0, 101), 2);
        due("two rooms hold no third", x.free(2, 1), 2);
        due("free of nobody", x.free(3, 1), NONE);
        due("free of -1", x.free(-1, 1), NONE);
        due("free(0, 0)", x.free(0, 0), NONE);
        due("free(0, 721)", x.free(0, 721), NONE);
    }

    private static void till() {
        AgeRoofs x = parish(THREE);
        due("now", x.till(0), 0);
        due("never", x.till(2), 720);
        x.today(100);
        due("in 99 days", x.till(1), 99);
        x.move(1, NONE);
        due("it lives nowhere", x.till(1), NONE);
        due("alone now", x.till(0), 720);
        due("till of nobody", x.till(3), NONE);
        due("till of -1", x.till(-1), NONE);
        x = parish("py20h0;py40h0;rm1", "y:y=360?1");
        due("on the 360th day", x.till(0), 359);
        x = parish("py20d360h0;py20d1h0;rm1", "y:a=22&b=22?1");
        due("beyond 720 days", x.till(0), 720);
    }

    private static void swap() {
        AgeRoofs x = parish("py20h0;py30h0;py20h1;py40h1;py50;rm2;rm2;r");
        // 0 may not live with 2, so that only they and 1 with 3 may change.
        due("swaps", x.swap(NONE), 2);
        due("first", x.swap(0), 2);
        due("second", x.swap(1), 13);
        due("no third", x.swap(2), NONE);
        due("swap(-2)", x.swap(-2), NONE);
        x.move(4, 0);
        due("into a house that is too full", x.swap(NONE), 0);
        x = parish("py20h0;py30h0;r;r");
        due("in one house", x.swap(NONE), 0);
    }

    private static void peak() {
        AgeRoofs x = parish("py20d10;py20d20;py21d15;r");
        due("peak on day 0: none clashes but two", x.peak(1, 1), 1);
        due("the day", x.peak(720, 0), 0);
        due("how many", x.peak(720, 1), 1);
        x.today(9);
        due("from day 9 on", x.peak(5, 0), 9);
        due("0 with 2", x.peak(5, 1), 1);
        x.today(14);
        due("none clashes", x.peak(5, 1), 0);
        due("the first then", x.peak(5, 0), 14);
        due("the first with a clash", x.peak(6, 0), 19);
        due("peak(0, 0)", x.peak(0, 0), NONE);
        due("peak(721, 0)", x.peak(721, 0), NONE);
        due("peak(1, 2)", x.peak(1, 2), NONE);
        due("peak(1, -1)", x.peak(1, -1), NONE);
        due("all fifteen", parish("p;p;p;p;p;p;r").peak(1, 1), 15);
    }

    private static void wants() {
        AgeRoofs x = parish("py20;py20;py30;py40;py50;r");
        due("one house", x.wants(1, 1), NONE);
        due("two houses", x.wants(1, 2), 3);
        due("three", x.wants(1, 3), 2);
        due("four", x.wants(1, 4), 2);
        due("five", x.wants(1, 5), 1);
        due("six", x.wants(1, 6), 1);
        due("none", x.wants(1, 0), NONE);
        due("seven", x.wants(1, 7), NONE);
        due("wants(0, 2)", x.wants(0, 2), NONE);
        due("wants(721, 2)", x.wants(721, 2), NONE);
        due("all in one", parish("py1;py2;py3;py4;py5;py6;r").wants(720, 1), 6);
    }

    private static void guests() {
        AgeRoofs x = parish("py20;py20;py30;py30;py40;rm2;rm6");
        due("within two rooms", x.guests(0, 1, 0), 2);
        due("who", x.guests(0, 1, 1), 5);
        due("in six rooms", x.guests(1, 1, 0), 3);
        due("who then", x.guests(1, 1, 1), 21);
        due("the lower one where two first differ", parish("py20;py30;py30;py20;rm2").guests(0, 1, 1), 3);
        due("which is not the lower number", parish("py30;py29;py31;py50;rm2", "y:x=360?1").guests(0, 1, 1), 9);
        due("no such house", x.guests(2, 1, 0), NONE);
        due("house -1", x.guests(-1, 1, 0), NONE);
        due("guests on 0 days", x.guests(0, 0, 0), NONE);
        due("guests on 721 days", x.guests(0, 721, 0), NONE);
        due("what 2", x.guests(0, 1, 2), NONE);
        due("what -1", x.guests(0, 1, -1), NONE);
        x = parish("py20;py20d2;rm6");
        due("together today", x.guests(0, 1, 0), 2);
        due("not tomorrow", x.guests(0, 2, 0), 1);
    }

    private static void twins() {
        AgeRoofs x = parish("py20d10;py40d5;py40d1;py20d14;r");
        due("twins", x.twins(0), 3);
        due("days apart", x.twins(1), 4);
        due("twins(2)", x.twins(2), NONE);
        due("twins(-1)", x.twins(-1), NONE);
        due("two", parish("pd3;pd7;r").twins(1), 4);
        due("one alone", parish("p;r").twins(0), NONE);
        due("one alone, days", parish("p;r").twins(1), NONE);
        due("all alike", parish("p;p;p;r").twins(0), 1);
        due("no day apart", parish("p;p;p;r").twins(1), 0);
    }

    private static void image() {
        AgeRoofs x = parish(THREE);
        x.today(7);
        due("image", x.image(), 7);
        x.today(8);
        due("another instead", x.image(), 8);
        x.today(9);
        due("back to the other", x.back(), 8);
    }

    private static void back() {
        AgeRoofs x = parish(THREE);
        due("no image", x.back(), NONE);
        x.risk(50);
        x.seed(5L);
        x.days(300);
        int moved = x.count(6);
        x.image();
        x.days(720);
        int dead = x.count(7);
        int born = x.person(1, 3);
        int home = x.person(2, 2);
        x.move(0, NONE);
        x.say(0, 0);
        x.worth(0, 0, 33);
        due("back", x.back(), 300);
        due("TODAY", x.count(4), 300);
        due("MOVED", x.count(6), moved);
        due("DEAD", x.count(7), 0);
        due("births", x.person(1, 3), 199 - 10800);
        due("SAID is not of the image", x.count(5), 1);
        x.days(720);
        due("the same draws", x.count(7), dead);
        due("the same births", x.person(1, 3), born);
        due("the same home", x.person(2, 2), home);
        due("back once more", x.back(), 300);
        put(x, "p;r");
        x.text(0);
        due("no image of this parish", x.back(), NONE);
    }

    private static void count() {
        AgeRoofs x = parish("py20h0;py30;p;r;r", "y:0");
        put(x, "abc");
        x.say(0, 1);
        x.say(0, 1);
        int[] want = {3, 2, 1, 3, 0, 2, 0, 0, 2};
        for (int what = 0; what < want.length; what++) {
            due("count(" + what + ")", x.count(what), want[what]);
        }
        x.risk(100);
        x.days(360);
        due("TODAY", x.count(4), 360);
        due("MOVED", x.count(6), 2);
        due("DEAD", x.count(7), 3);
        due("nobody lives nowhere", x.count(8), 0);
        due("count(9)", x.count(9), HIDDEN);
        due("count(-1)", x.count(-1), HIDDEN);
    }
}
