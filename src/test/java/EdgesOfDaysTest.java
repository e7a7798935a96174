/** Boundary cases of the terms' part 2 and of promises 6 to 14: ages, laws' worths, clashes, livings judged. */
public final class EdgesOfDaysTest {
    private static final int NONE = Edges.NONE;
    private static final int HIDDEN = Edges.HIDDEN;
    /** Ages of 29, 29 and 28 on day 0; the first two in the house of two rooms, the third in that of one. */
    private static final String THREE = "pd100h0;py30d200h0;py29d300h1;rm2;rm1c5";
    private static final Edges E = new Edges("EdgesOfDaysTest");

    public static void main(String[] args) {
        sums();
        quotients();
        conditions();
        worths();
        letters();
        dates();
        ages();
        person();
        house();
        law();
        today();
        clash();
        clashes();
        clashesRefused();
        move();
        judgeRooms();
        judgeDays();
        judgeRefused();
        worst();
        E.finish();
    }

    /** Whether a condition holds for two of 40 and 20 on day 10 (date 11), 7200 days apart, of 3 people. */
    private static void holds(String condition, boolean want) {
        AgeRoofs x = Edges.parish("py20;py40;p;r", "y:" + condition + "?1");
        E.due(x.clash(0, 1, 10), want ? 1 : 0);
        E.due(x.clash(1, 0, 10), want ? 1 : 0);
    }

    private static void sums() {
        E.edge("T1: behind each sign within 1,000,000: *", () -> {
            holds("1000*1000-1=999*1000+999", true);
            holds("1000*1001=1000*1000", true);
            holds("9999*9999=1000*1000", true);
            holds("9999*9999*9999*9999=1000*1000", true);
            holds("9999*9999*[0-1]=0-1000*1000", true);
        });
        E.edge("T1: behind each sign within -1,000,000: *", () -> {
            holds("[0-1000]*1001=[0-1000]*1000", true);
            holds("[0-9999]*9999+1=1-1000*1000", true);
            holds("[0-9999]*[0-9999]=1000*1000", true);
        });
        E.edge("T1: behind each sign within 1,000,000: +", () -> {
            holds("1000*1000+0=1000*1000", true);
            holds("1000*1000+1=1000*1000", true);
            holds("1000*1000+1000*1000-1000*1000=0", true);
            holds("999*1000+1000=1000*1000", true);
            holds("999*1000+999<1000*1000", true);
        });
        E.edge("T1: behind each sign within -1,000,000: -", () -> {
            holds("0-1000*1000-1=0-1000*1000", true);
            holds("0-1000*1000-1000*1000+1000*1000=0", true);
            holds("0-999*1000-1000=0-1000*1000", true);
            holds("0-999*1000-999>0-1000*1000", true);
        });
        E.edge("T1: behind each sign, not at the end of the SUM", () -> {
            holds("9999*9999/9999=100", true);
            holds("9999*9999-9999*9999+5=5", true);
        });
        E.edge("T1: 0 of numbers", () -> {
            holds("0=0000", true);
            holds("0*9999=0", true);
            holds("0-0=0", true);
        });
    }

    private static void quotients() {
        E.edge("T1: / cuts towards 0", () -> {
            holds("7/2=3", true);
            holds("[0-7]/2=0-3", true);
            holds("7/[0-2]=0-3", true);
            holds("[0-7]/[0-2]=3", true);
            holds("1/2=0", true);
            holds("[0-1]/2=0", true);
            holds("8/2=4", true);
        });
        E.edge("T1: / by 0 gives 0", () -> {
            holds("7/0=0", true);
            holds("0/0=0", true);
            holds("[0-7]/0=0", true);
            holds("5/[a-a]+1=1", true);
            holds("1000*1000/0=0", true);
        });
        E.edge("T1: / by -1 at the bound", () -> holds("[0-1000*1000]/[0-1]=1000*1000", true));
        E.edge("T1: * and / from the left, ahead of + and -", () -> {
            holds("100/10*10=100", true);
            holds("100/[10*10]=1", true);
            holds("7*2/4=3", true);
            holds("2/4*7=0", true);
            holds("1+2*3-4/2=5", true);
            holds("9-4-3=2", true);
            holds("9-[4-3]=8", true);
        });
    }

    private static void conditions() {
        E.edge("T1: < and > of equal numbers do not hold", () -> {
            holds("1<1", false);
            holds("1>1", false);
            holds("1=1", true);
            holds("1<2&2>1", true);
            holds("2<1|1>2|1=2", false);
        });
        E.edge("T1: & binds ahead of |", () -> {
            holds("1=1|1=1&1=2", true);
            holds("1=2&1=1|1=1", true);
            holds("(1=1|1=1)&1=2", false);
            holds("1=1&1=2|1=2&1=1", false);
        });
        E.edge("T1: ! is of the next UNIT alone", () -> {
            holds("!1=2|1=1", true);
            holds("!1=1|1=1", true);
            holds("!1=1&1=2", false);
            holds("!(1=2&1=2)", true);
            holds("!!1=1", true);
            holds("!!!1=1", false);
            holds("!!!!!!1=1", true);
        });
        E.edge("T1: six of ( within one another are worked out", () -> {
            holds("((((((1=1))))))", true);
            holds("((((((1=2))))))", false);
            holds("!(!(!(1=2)))", true);
            holds("[[[[[[7200]]]]]]=x", true);
        });
    }

    private static void worths() {
        E.edge("T2: a WORTH above 0: 1, not 0, not -1", () -> {
            E.due(Edges.parish("p;p;r", "y:1").clash(0, 1, 0), 1);
            E.due(Edges.parish("p;p;r", "y:0").clash(0, 1, 0), 0);
            E.due(Edges.parish("p;p;r", "y:0-1").clash(0, 1, 0), 0);
            E.due(Edges.parish("p;p;r", "y:9999*9999").clash(0, 1, 0), 1);
        });
        E.edge("T1: the first CLAUSE whose CONDITION holds", () -> {
            E.due(Edges.parish("p;p;r", "y:1=1?0;y:1=1?1").clash(0, 1, 0), 0);
            E.due(Edges.parish("p;p;r", "y:1=2?0;y:1=1?1;y:0").clash(0, 1, 0), 1);
        });
        E.edge("T1: .. or has none", () -> {
            E.due(Edges.parish("p;p;r", "y:0;y:1").clash(0, 1, 0), 0);
            E.due(Edges.parish("p;p;r", "y:1;y:0").clash(0, 1, 0), 1);
            E.due(Edges.parish("p;p;r", "y:1=2?0;y:1;y:0").clash(0, 1, 0), 1);
        });
        E.edge("T1: 0 without", () -> E.due(Edges.parish("p;p;r", "y:1=2?1;y:1=2?1").clash(0, 1, 0), 0));
        E.edge("T2: a LAW that holds is all there is: one age alone is no clash then", () ->
            E.due(Edges.parish("p;p;r", "y:a=b?0;y:1").clash(0, 1, 0), 0));
    }

    private static void letters() {
        E.edge("T2: a of the one born first, whichever is named first", () -> {
            AgeRoofs x = Edges.parish("py20d2;py20d1;r", "y:a-b");
            E.due(x.clash(0, 1, 0), 1);
            E.due(x.clash(1, 0, 0), 1);
            E.due(x.clash(0, 1, 1), 0);
        });
        E.edge("T2: both born on one DAY", () -> {
            AgeRoofs x = Edges.parish("py20d5;py20d5;r", "y:x=0&a=b?1");
            E.due(x.clash(0, 1, 0), 1);
            E.due(x.clash(1, 0, 9999), 1);
        });
        E.edge("T2: x of the births farthest from each other", () -> {
            AgeRoofs x = Edges.parish("py99d1;py0d360;r", "y:x-9999-9999-9999=6002?1");
            E.due(x.clash(0, 1, 0), 1);
            E.due(x.clash(1, 0, 0), 1);
        });
        E.edge("T2: a and b below 0 ahead of birth", () -> {
            AgeRoofs x = Edges.parish("py0d2;py0d3;r", "y:a=0-1&b=0-1?1");
            E.due(x.clash(0, 1, 0), 1);
            E.due(x.clash(0, 1, 1), 0);
        });
        E.edge("T2: n from two to six PEOPLE", () -> {
            for (int n = 2; n <= 6; n++) {
                String people = Edges.times("p;", n) + "r";
                E.due(Edges.parish(people, "y:n=" + n + "?1").clash(0, 1, 0), 1);
                E.due(Edges.parish(people, "y:n<" + n + "?1").clash(0, 1, 0), 0);
            }
        });
    }

    private static void dates() {
        E.edge("T2: DATE of DAY 0 is 1", () -> {
            AgeRoofs x = Edges.parish("p;p;r", "y:y=1?1");
            E.due(x.clash(0, 1, 0), 1);
            E.due(x.clash(0, 1, 1), 0);
        });
        E.edge("T2: a year has 360 DAYS: DATE goes round", () -> {
            AgeRoofs x = Edges.parish("p;p;r", "y:y=360?1");
            E.due(x.clash(0, 1, 358), 0);
            E.due(x.clash(0, 1, 359), 1);
            E.due(x.clash(0, 1, 360), 0);
            E.due(x.clash(0, 1, 719), 1);
            x = Edges.parish("p;p;r", "y:y=1?1");
            E.due(x.clash(0, 1, 359), 0);
            E.due(x.clash(0, 1, 360), 1);
            E.due(x.clash(0, 1, 720), 1);
        });
        E.edge("T2: DATE of the last DAY", () -> {
            E.due(Edges.parish("p;p;r", "y:y=280?1").clash(0, 1, 9999), 1);
            E.due(Edges.parish("p;p;r", "y:y=279|y=281?1").clash(0, 1, 9999), 0);
        });
    }

    private static void ages() {
        E.edge("T2: AGE is cut downwards", () -> {
            AgeRoofs x = Edges.parish("py30d2;py30d1;r");
            E.due(x.person(0, 0), 29);
            E.due(x.person(1, 0), 30);
            x.today(1);
            E.due(x.person(0, 0), 30);
            x.today(359);
            E.due(x.person(1, 0), 30);
            x.today(360);
            E.due(x.person(1, 0), 31);
            E.due(x.person(0, 0), 30);
        });
        E.edge("T2: AGE below 0 ahead of birth", () -> {
            AgeRoofs x = Edges.parish("py0d360;py0d2;r");
            E.due(x.person(0, 0), -1);
            E.due(x.person(1, 0), -1);
            x.today(1);
            E.due(x.person(1, 0), 0);
            x.today(358);
            E.due(x.person(0, 0), -1);
            x.today(359);
            E.due(x.person(0, 0), 0);
        });
        E.edge("T2: AGE on the last DAY", () -> {
            AgeRoofs x = Edges.parish("py99d1;py0d360;r");
            x.today(9999);
            E.due(x.person(0, 0), 126);
            E.due(x.person(1, 0), 26);
        });
        E.edge("T2: without a LAW, if AGES are equal: ahead of birth, too", () -> {
            AgeRoofs x = Edges.parish("py0d200;py0d300;r");
            E.due(x.clash(0, 1, 0), 1);
            E.due(x.clash(0, 1, 198), 1);
            E.due(x.clash(0, 1, 199), 0);
            E.due(x.clash(0, 1, 298), 0);
            E.due(x.clash(0, 1, 299), 1);
        });
        E.edge("T2: without a LAW: 360 DAYS apart never, 359 for one DAY of the year", () -> {
            AgeRoofs x = Edges.parish("py31d1;py30d1;py31d2;r");
            E.due(x.clashes(0, 1, 720, 0), 0);
            E.due(x.clashes(1, 2, 720, 0), 2);
            E.due(x.clashes(1, 2, 720, 1), 0);
        });
    }

    private static void person() {
        E.edge("6: the last PERSON of one and of six", () -> {
            E.due(Edges.parish("py7;r").person(0, 0), 7);
            E.due(Edges.parish("p;p;p;p;p;py7;r").person(5, 0), 7);
        });
        E.edge("6: DATE of 1 and of 360", () -> {
            AgeRoofs x = Edges.parish("py50d1;py50d360;py0d1;py0d360;r");
            E.due(x.person(0, 1), 1);
            E.due(x.person(1, 1), 360);
            E.due(x.person(2, 1), 1);
            E.due(x.person(3, 1), 360);
        });
        E.edge("6: the HOUSE (NONE)", () -> {
            AgeRoofs x = Edges.parish("p;ph3;r;r;r;r");
            E.due(x.person(0, 2), NONE);
            E.due(x.person(1, 2), 3);
        });
        E.edge("6: the DAY it was born, first and last", () -> {
            AgeRoofs x = Edges.parish("py99d1;py0d360;r");
            E.due(x.person(0, 3), -35640);
            E.due(x.person(1, 3), 359);
        });
        E.edge("6: NoSuchElementException: no such PERSON", () -> {
            AgeRoofs x = Edges.parish(THREE);
            E.due(Edges.throwsFor(x, 2, 0), false);
            E.due(Edges.throwsFor(x, 3, 0), true);
            E.due(Edges.throwsFor(x, -1, 0), true);
            for (int person : Edges.NO_SUCH) {
                E.due(Edges.throwsFor(x, person, 0), true);
            }
        });
        E.edge("6: NoSuchElementException: no such what", () -> {
            AgeRoofs x = Edges.parish(THREE);
            E.due(Edges.throwsFor(x, 0, 3), false);
            E.due(Edges.throwsFor(x, 0, 4), true);
            E.due(Edges.throwsFor(x, 0, -1), true);
            for (int what : Edges.NO_SUCH) {
                E.due(Edges.throwsFor(x, 0, what), true);
            }
        });
        E.refused("6: what throws", () -> Edges.parish(THREE), x -> E.due(Edges.throwsFor(x, 3, 4), true));
    }

    private static void house() {
        E.edge("7: the last HOUSE of one and of four", () -> {
            E.due(Edges.parish("p;rm5").house(0, 0), 5);
            E.due(Edges.parish("p;r;r;r;rm5").house(3, 0), 5);
        });
        E.edge("7: nobody lives there", () -> {
            AgeRoofs x = Edges.parish("p;r");
            E.due(x.house(0, 2), 0);
            E.due(x.house(0, 3), 0);
        });
        E.edge("7: all six live there, more than its ROOMS", () -> {
            AgeRoofs x = Edges.parish("ph0;ph0;ph0;ph0;ph0;ph0;rm1");
            E.due(x.house(0, 2), 6);
            E.due(x.house(0, 3), 63);
        });
        E.edge("7: NONE: no such HOUSE", () -> {
            AgeRoofs x = Edges.parish(THREE);
            E.due(x.house(2, 0), NONE);
            E.due(x.house(-1, 2), NONE);
            for (int house : Edges.NO_SUCH) {
                E.due(x.house(house, 0), NONE);
            }
        });
        E.edge("7: NONE: no such what", () -> {
            AgeRoofs x = Edges.parish(THREE);
            E.due(x.house(0, 4), NONE);
            E.due(x.house(0, -1), NONE);
            for (int what : Edges.NO_SUCH) {
                E.due(x.house(0, what), NONE);
            }
        });
    }

    private static void law() {
        E.edge("8: the last of four LAWS", () -> {
            AgeRoofs x = Edges.parish("py20;py40;r");
            for (int k = 0; k < 3; k++) {
                Edges.tell(x, "y:0");
            }
            E.due(x.law(3), false);
            Edges.tell(x, "y:1");
            E.due(x.law(3), true);
            E.due(x.clash(0, 1, 0), 1);
            E.due(x.law(4), false);
            E.due(x.law(2), true);
            E.due(x.clash(0, 1, 0), 0);
        });
        E.edge("8: NONE: none, with and without LAWS told", () -> {
            AgeRoofs x = Edges.parish("p;p;r");
            E.due(x.law(NONE), true);
            E.due(x.clash(0, 1, 0), 1);
            Edges.tell(x, "y:0");
            x.law(0);
            E.due(x.clash(0, 1, 0), 0);
            E.due(x.law(NONE), true);
            E.due(x.clash(0, 1, 0), 1);
        });
        E.edge("8: False: no PARISH", () -> {
            AgeRoofs x = new AgeRoofs();
            Edges.tell(x, "y:0");
            E.due(x.law(0), false);
            E.due(x.law(NONE), false);
            Edges.put(x, "p;p;r");
            x.text(0);
            E.due(x.clash(0, 1, 0), 1);
        });
        E.refused("8: False: no such one", () -> Edges.parish(THREE, "y:1"), x -> {
            E.due(x.law(1), false);
            for (int law : Edges.NO_SUCH) {
                E.due(x.law(law), false);
            }
        });
        E.edge("8: False: no LAW was told", () -> E.due(Edges.parish("p;r").law(0), false));
    }

    private static void today() {
        E.edge("9: 0 .. 9,999", () -> {
            AgeRoofs x = Edges.parish("p;r");
            E.due(x.count(4), 0);
            E.due(x.today(9999), true);
            E.due(x.count(4), 9999);
            E.due(x.today(0), true);
            E.due(x.count(4), 0);
            E.due(x.today(0), true);
        });
        E.refused("9: False: out of bounds", () -> {
            AgeRoofs x = Edges.parish(THREE);
            x.today(77);
            return x;
        }, x -> {
            for (int day : new int[] {-1, 10000, HIDDEN, Edges.LEAST, Edges.MOST}) {
                E.due(x.today(day), false);
            }
        });
        E.edge("9: False: no PARISH", () -> {
            AgeRoofs x = new AgeRoofs();
            E.due(x.today(5), false);
            E.due(x.count(4), 0);
        });
        E.edge("9: TODAY moves nobody", () -> {
            AgeRoofs x = Edges.parish("p;ph0;r");
            x.today(5000);
            E.due(x.count(8), 1);
            E.due(x.count(6), 0);
        });
    }

    private static void clash() {
        E.edge("10: DAY 0 and DAY 9,999", () -> {
            AgeRoofs x = Edges.parish("p;p;r");
            E.due(x.clash(0, 1, 0), 1);
            E.due(x.clash(0, 1, 9999), 1);
        });
        E.edge("10: NONE: no such DAY", () -> {
            AgeRoofs x = Edges.parish("p;p;r");
            for (int day : new int[] {-1, 10000, HIDDEN, Edges.LEAST, Edges.MOST}) {
                E.due(x.clash(0, 1, day), NONE);
            }
        });
        E.edge("10: NONE: no such PEOPLE", () -> {
            AgeRoofs x = Edges.parish("p;p;r");
            E.due(x.clash(0, 2, 0), NONE);
            E.due(x.clash(2, 0, 0), NONE);
            E.due(x.clash(-1, 0, 0), NONE);
            E.due(x.clash(0, -1, 0), NONE);
            for (int person : Edges.NO_SUCH) {
                E.due(x.clash(0, person, 0), NONE);
                E.due(x.clash(person, 0, 0), NONE);
            }
        });
        E.edge("10: NONE: alike", () -> {
            AgeRoofs x = Edges.parish("p;p;r");
            E.due(x.clash(0, 0, 0), NONE);
            E.due(x.clash(1, 1, 0), NONE);
        });
        E.edge("10: the DAY told, not TODAY", () -> {
            AgeRoofs x = Edges.parish(THREE);
            x.today(99);
            E.due(x.clash(0, 1, 98), 1);
            E.due(x.clash(0, 1, 99), 0);
        });
    }

    private static void clashes() {
        E.edge("11: one DAY is TODAY alone", () -> {
            AgeRoofs x = Edges.parish("py20;py40;r", "y:y=180?1");
            x.today(178);
            E.due(x.clashes(0, 1, 1, 0), 0);
            x.today(179);
            E.due(x.clashes(0, 1, 1, 0), 1);
            E.due(x.clashes(0, 1, 1, 1), 179);
            x.today(180);
            E.due(x.clashes(0, 1, 1, 0), 0);
        });
        E.edge("11: on all of 720 DAYS", () -> {
            AgeRoofs x = Edges.parish("p;p;r");
            E.due(x.clashes(0, 1, 720, 0), 720);
            E.due(x.clashes(0, 1, 720, 1), 0);
        });
        E.edge("11: the last of the DAYS counts, the next one does not", () -> {
            AgeRoofs x = Edges.parish("py20;py40;r", "y:y=360?1");
            x.today(1);
            E.due(x.clashes(0, 1, 359, 0), 1);
            E.due(x.clashes(0, 1, 359, 1), 359);
            E.due(x.clashes(0, 1, 358, 0), 0);
            E.due(x.clashes(0, 1, 358, 1), NONE);
            x.today(0);
            E.due(x.clashes(0, 1, 720, 0), 2);
            E.due(x.clashes(0, 1, 719, 0), 1);
        });
        E.edge("11: NONE: none", () -> E.due(Edges.parish("p;py40;r").clashes(0, 1, 720, 1), NONE));
        E.edge("11: DAYS behind the last TODAY count, too", () -> {
            AgeRoofs x = Edges.parish("py20;py40;r", "y:y=281?1");
            x.today(9999);
            E.due(x.clashes(0, 1, 1, 1), NONE);
            E.due(x.clashes(0, 1, 2, 1), 10000);
            E.due(x.clashes(1, 0, 720, 0), 2);
        });
        E.edge("11: DATE goes round in the DAYS", () -> {
            AgeRoofs x = Edges.parish("py20;py40;r", "y:y<3?1");
            x.today(358);
            E.due(x.clashes(0, 1, 4, 0), 2);
            E.due(x.clashes(0, 1, 4, 1), 360);
        });
        E.edge("11: two birthdays in the midst of the DAYS, the second alone brings a CLASH", () -> {
            AgeRoofs x = Edges.parish("py20d11;py20d21;r", "y:b=20?1");
            E.due(x.clashes(0, 1, 20, 1), NONE);
            E.due(x.clashes(0, 1, 21, 1), 20);
            E.due(x.clashes(0, 1, 720, 0), 360);
        });
        E.edge("11: a birthday in the midst of the DAYS", () -> {
            AgeRoofs x = Edges.parish(THREE);
            E.due(x.clashes(0, 1, 99, 0), 99);
            E.due(x.clashes(0, 1, 100, 0), 99);
            E.due(x.clashes(0, 1, 199, 0), 99);
            E.due(x.clashes(0, 1, 200, 0), 100);
        });
    }

    private static void clashesRefused() {
        E.edge("11: HIDDEN: no such DAYS", () -> {
            AgeRoofs x = Edges.parish("p;p;r");
            for (int days : Edges.NO_DAYS) {
                E.due(x.clashes(0, 1, days, 0), HIDDEN);
                E.due(x.clashes(0, 1, days, 1), HIDDEN);
            }
        });
        E.edge("11: HIDDEN: no such what", () -> {
            AgeRoofs x = Edges.parish("p;p;r");
            E.due(x.clashes(0, 1, 1, 2), HIDDEN);
            E.due(x.clashes(0, 1, 1, -1), HIDDEN);
            for (int what : Edges.NO_SUCH) {
                E.due(x.clashes(0, 1, 1, what), HIDDEN);
            }
        });
        E.edge("11: HIDDEN: no such PEOPLE", () -> {
            AgeRoofs x = Edges.parish("p;p;r");
            E.due(x.clashes(0, 2, 1, 0), HIDDEN);
            E.due(x.clashes(2, 0, 1, 1), HIDDEN);
            E.due(x.clashes(-1, 0, 1, 0), HIDDEN);
            E.due(x.clashes(0, -1, 1, 0), HIDDEN);
            for (int person : Edges.NO_SUCH) {
                E.due(x.clashes(person, 0, 1, 0), HIDDEN);
                E.due(x.clashes(0, person, 1, 0), HIDDEN);
            }
        });
        E.edge("11: HIDDEN: alike", () -> {
            AgeRoofs x = Edges.parish("p;p;r");
            E.due(x.clashes(0, 0, 1, 0), HIDDEN);
            E.due(x.clashes(1, 1, 1, 1), HIDDEN);
        });
    }

    private static void move() {
        E.edge("12: LAWFUL or not: into a house that is full of those of its age", () -> {
            AgeRoofs x = Edges.parish("ph0;p;rm1");
            E.due(x.move(1, 0), true);
            E.due(x.house(0, 3), 3);
            E.due(x.judge(1, 1), 1);
        });
        E.edge("12: NONE: none", () -> {
            AgeRoofs x = Edges.parish("ph0;r");
            E.due(x.move(0, NONE), true);
            E.due(x.person(0, 2), NONE);
        });
        E.edge("12: to the last HOUSE", () -> {
            AgeRoofs x = Edges.parish("p;p;p;p;p;p;r;r;r;r");
            E.due(x.move(5, 3), true);
            E.due(x.house(3, 3), 32);
        });
        E.edge("12: moves by hand are not MOVED", () -> {
            AgeRoofs x = Edges.parish("p;r");
            x.move(0, 0);
            E.due(x.count(6), 0);
        });
        E.refused("12: False: it lives there", () -> Edges.parish("ph0;p;py20h1;r;r"), x -> {
            E.due(x.move(0, 0), false);
            E.due(x.move(1, NONE), false);
            E.due(x.move(2, 1), false);
        });
        E.refused("12: False: no such HOUSE", () -> Edges.parish(THREE), x -> {
            E.due(x.move(0, 2), false);
            for (int house : Edges.NO_SUCH) {
                E.due(x.move(0, house), false);
            }
        });
        E.refused("12: False: no such PERSON", () -> Edges.parish(THREE), x -> {
            E.due(x.move(3, 0), false);
            E.due(x.move(-1, 0), false);
            E.due(x.move(-1, NONE), false);
            for (int person : Edges.NO_SUCH) {
                E.due(x.move(person, 0), false);
            }
        });
    }

    private static void judgeRooms() {
        E.edge("13: as many as ROOMS are not too many", () -> {
            E.due(Edges.parish("py1h0;rm1").judge(720, 0), NONE);
            E.due(Edges.parish("py1h0;py2h0;py3h0;py4h0;py5h0;py6h0;rm6").judge(720, 0), NONE);
        });
        E.edge("13: one more than ROOMS are too many", () -> {
            AgeRoofs x = Edges.parish("py1h0;py2h0;rm1");
            x.today(40);
            E.due(x.judge(1, 0), 40);
            E.due(x.judge(1, 1), 2);
            E.due(x.judge(1, 2), 0);
            x = Edges.parish("py1h3;py2h3;py3h3;py4h3;py5h3;py6h3;r;r;r;rm5");
            E.due(x.judge(720, 1), 2);
            E.due(x.judge(720, 2), 3);
        });
        E.edge("13: who lives nowhere clashes with nobody", () -> {
            AgeRoofs x = Edges.parish("p;p;ph0;r");
            E.due(x.judge(720, 0), NONE);
            E.due(x.judge(720, 1), 0);
            E.due(x.judge(720, 2), NONE);
        });
        E.edge("13: those of one age in two houses are lawful", () ->
            E.due(Edges.parish("ph0;ph1;r;r").judge(720, 0), NONE));
        E.edge("13: the HOUSE (the lowest): of two in which two clash", () -> {
            AgeRoofs x = Edges.parish("ph2;ph2;ph1;ph1;r;r;r");
            E.due(x.judge(1, 2), 1);
            E.due(x.judge(1, 1), 1);
        });
        E.edge("13: a clash in the first of four HOUSES, none in those behind it", () -> {
            AgeRoofs x = Edges.parish("ph0;ph0;py20h1;py40h3;r;r;r;r");
            E.due(x.judge(1, 0), 0);
            E.due(x.judge(1, 2), 0);
        });
        E.edge("13: LAWFUL in all of four HOUSES", () -> {
            AgeRoofs x = Edges.parish("ph0;ph1;ph2;ph3;rm1;rm1;rm1;rm1");
            E.due(x.judge(720, 0), NONE);
            E.due(x.judge(720, 1), 0);
            E.due(x.judge(720, 2), NONE);
        });
        E.edge("13: a HOUSE that is full, below one in which two clash", () -> {
            AgeRoofs x = Edges.parish("py20h0;ph1;ph1;rm1;r");
            E.due(x.judge(1, 2), 1);
            E.due(x.judge(1, 1), 1);
        });
        E.edge("13: the HOUSE (the lowest): too many there, a clash in another", () -> {
            AgeRoofs x = Edges.parish("py20h0;py30h0;ph1;ph1;rm1;r");
            E.due(x.judge(1, 2), 0);
            E.due(x.judge(1, 1), 2);
        });
        E.edge("13: the HOUSE (the lowest): a clash there, too many in another", () -> {
            AgeRoofs x = Edges.parish("py20h1;py30h1;ph0;ph0;r;rm1");
            E.due(x.judge(1, 2), 0);
            E.due(x.judge(1, 1), 1);
        });
        E.edge("13: too many, of whom two clash", () -> {
            AgeRoofs x = Edges.parish("ph0;ph0;rm1");
            E.due(x.judge(1, 1), 1);
        });
    }

    private static void judgeDays() {
        E.edge("13: the last of the DAYS is judged, the next one is not", () -> {
            AgeRoofs x = Edges.parish("py20h0;py40h0;r", "y:y=360?1");
            E.due(x.judge(359, 0), NONE);
            E.due(x.judge(359, 1), 0);
            E.due(x.judge(360, 0), 359);
            E.due(x.judge(360, 1), 1);
            E.due(x.judge(360, 2), 0);
        });
        E.edge("13: the 720th of the DAYS", () -> {
            AgeRoofs x = Edges.parish("py20h0;py40h0;r", "y:y=360&a=41?1");
            E.due(x.judge(719, 0), NONE);
            E.due(x.judge(720, 0), 719);
        });
        E.edge("13: the first of the DAYS, TODAY itself", () -> {
            AgeRoofs x = Edges.parish("ph0;ph0;r");
            x.today(9999);
            E.due(x.judge(1, 0), 9999);
        });
        E.edge("13: a DAY behind the last TODAY", () -> {
            AgeRoofs x = Edges.parish("py20h0;py40h0;r", "y:y=281?1");
            x.today(9999);
            E.due(x.judge(1, 0), NONE);
            E.due(x.judge(2, 0), 10000);
        });
        E.edge("13: the HOUSE is that of the first such DAY", () -> {
            AgeRoofs x = Edges.parish("py20h1;py40h1;py20h0;py50h0;r;r", "y:y=5&x=7200?1;y:y=6?1");
            E.due(x.judge(720, 0), 4);
            E.due(x.judge(720, 2), 1);
        });
    }

    private static void judgeRefused() {
        E.edge("13: HIDDEN: no such DAYS", () -> {
            AgeRoofs x = Edges.parish("ph0;ph0;r");
            for (int days : Edges.NO_DAYS) {
                for (int what = 0; what <= 2; what++) {
                    E.due(x.judge(days, what), HIDDEN);
                }
            }
        });
        E.edge("13: HIDDEN: no such what", () -> {
            AgeRoofs x = Edges.parish("ph0;ph0;r");
            E.due(x.judge(1, 3), HIDDEN);
            E.due(x.judge(1, -1), HIDDEN);
            for (int what : Edges.NO_SUCH) {
                E.due(x.judge(1, what), HIDDEN);
            }
        });
    }

    private static void worst() {
        E.edge("14: of several the first", () -> {
            E.due(Edges.parish("ph1;ph0;ph0;ph1;r;r").worst(720), 3);
            E.due(Edges.parish("ph0;ph0;ph0;r").worst(1), 1);
            E.due(Edges.parish("py20h0;ph0;ph0;ph0;r").worst(1), 12);
        });
        E.edge("14: the last pair", () -> E.due(Edges.parish("p;p;p;p;ph3;ph3;r;r;r;r").worst(1), 45));
        E.edge("14: one DAY more decides", () -> {
            AgeRoofs x = Edges.parish("py20d11h0;py20d1h0;py20d12h1;py20d1h1;r;r");
            E.due(x.worst(1), NONE);
            x.today(10);
            E.due(x.worst(1), 1);
            x.today(0);
            E.due(x.worst(359), 1);
        });
        E.edge("14: a CLASH on the last of the DAYS alone", () -> {
            AgeRoofs x = Edges.parish("py20h0;py40h0;r", "y:y=360?1");
            E.due(x.worst(359), NONE);
            E.due(x.worst(360), 1);
        });
        E.edge("14: NONE: none CLASHES", () -> {
            E.due(Edges.parish("ph0;py40h0;r").worst(720), NONE);
            E.due(Edges.parish("ph0;ph1;p;p;r;r").worst(720), NONE);
            E.due(Edges.parish("ph0;r").worst(720), NONE);
        });
        E.edge("14: NONE: no such DAYS", () -> {
            AgeRoofs x = Edges.parish("ph0;ph0;r");
            E.due(x.worst(720), 1);
            for (int days : Edges.NO_DAYS) {
                E.due(x.worst(days), NONE);
            }
        });
    }
}
