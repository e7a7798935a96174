/** Boundary cases of the terms' part 1 and of promises 1 to 5: the tape, parishes and laws as texts, faults. */
public final class EdgesOfTextsTest {
    private static final int NONE = Edges.NONE;
    private static final int HIDDEN = Edges.HIDDEN;
    private static final String SIX_FOUR = "p;p;p;p;p;p;r;r;r;r";
    private static final Edges E = new Edges("EdgesOfTextsTest");

    public static void main(String[] args) {
        newObject();
        feed();
        feedRefused();
        end();
        clauses();
        items();
        bounds();
        digits();
        defaults();
        blanks();
        tooEarly();
        homes();
        lawClauses();
        lawConditions();
        lawNumbers();
        lawDepth();
        lawTooEarly();
        fault();
        textOfParish();
        textLeavesAndTakes();
        textOfLaw();
        textRefused();
        fullTapes();
        E.finish();
    }

    private static void newObject() {
        E.edge("1: no PARISH: no people, no houses, no laws, no tape, day 0, nothing said", () -> {
            for (int what = 0; what <= 8; what++) {
                E.due(new AgeRoofs().count(what), 0);
            }
        });
        E.edge("1: no PARISH: what answers NONE", () -> {
            AgeRoofs x = new AgeRoofs();
            int[] got = {
                x.house(0, 0), x.clash(0, 1, 0), x.worst(1), x.fewest(1, 0), x.fewest(1, 1), x.lasts(1), x.bars(1),
                x.moves(1), x.night(0, NONE), x.night(0, 0), x.say(0, 0), x.rather(0), x.turn(), x.days(1),
                x.free(0, 1), x.till(0), x.swap(NONE), x.swap(0), x.peak(1, 0), x.peak(1, 1), x.wants(1, 1),
                x.guests(0, 1, 0), x.twins(0), x.twins(1), x.image(), x.back()
            };
            for (int answer : got) {
                E.due(answer, NONE);
            }
        });
        E.edge("1: no PARISH: what is HIDDEN", () -> {
            AgeRoofs x = new AgeRoofs();
            int[] got = {
                x.clashes(0, 1, 1, 0), x.judge(1, 0), x.judge(1, 1), x.judge(1, 2), x.lodger(0, 30, 1, 0),
                x.known(30, 0), x.known(30, 1), x.known(30, 2), x.best(0), x.best(1)
            };
            for (int answer : got) {
                E.due(answer, HIDDEN);
            }
        });
        E.edge("1: no PARISH: what is false", () -> {
            AgeRoofs x = new AgeRoofs();
            E.due(x.law(NONE) || x.law(0) || x.today(0) || x.move(0, 0) || x.move(0, NONE) || x.worth(0, 0, 0), false);
        });
        E.edge("1: no PARISH: person throws", () -> {
            for (int what = 0; what <= 3; what++) {
                E.due(Edges.throwsFor(new AgeRoofs(), 0, what), true);
            }
        });
    }

    private static void feed() {
        E.edge("2: twenty bytes more", () -> {
            AgeRoofs x = new AgeRoofs();
            E.due(x.feed(0x01010101, 0x01010101, 0x01010101, 0x01010101, 0x01010101), 20);
            E.due(x.feed(0x01010101, 0x01010101, 0x01010101, 0x01010101, 0x01010101), 40);
        });
        E.edge("2: of each number the highest first", () -> {
            AgeRoofs x = new AgeRoofs();
            E.due(x.feed(0x70793132, 0x3b206439, 0, 0, 0), 8);
            E.due(x.fault(0), 6);
            E.due(Edges.parish("py12d34;r").person(0, 3), 33 - 12 * 360);
        });
        E.edge("2: bytes of 0 are left out, wherever they stand", () -> {
            AgeRoofs x = new AgeRoofs();
            E.due(x.feed(0x70000000, 0x00790000, 0x00003700, 0x0000003b, 0x00000072), 5);
            E.due(x.text(0), 1);
            E.due(x.person(0, 0), 7);
        });
        E.edge("2: nothing but bytes of 0", () -> E.due(new AgeRoofs().feed(0, 0, 0, 0, 0), 0));
        E.edge("2: bytes above 127 count", () -> {
            AgeRoofs x = new AgeRoofs();
            E.due(x.feed(-1, 0x80008000, 0, 0, 0xff), 7);
            E.due(x.fault(0), 0);
        });
        E.edge("2: 160 bytes are not more than 160", () -> {
            AgeRoofs x = Edges.tape(Edges.times(" ", 140));
            E.due(x.feed(0x20202020, 0x20202020, 0x20202020, 0x20202020, 0x20202020), 160);
        });
        E.edge("2: nothing more on a full tape is not too much", () -> {
            AgeRoofs x = Edges.tape(Edges.times(" ", 160));
            E.due(x.feed(0, 0, 0, 0, 0), 160);
        });
    }

    private static void feedRefused() {
        E.edge("2: NONE: one byte more than 160, in each place", () -> {
            AgeRoofs x = Edges.tape(Edges.times(" ", 160));
            for (int shift = 0; shift < 32; shift += 8) {
                int v = 1 << shift;
                E.due(x.feed(v, 0, 0, 0, 0), NONE);
                E.due(x.feed(0, v, 0, 0, 0), NONE);
                E.due(x.feed(0, 0, v, 0, 0), NONE);
                E.due(x.feed(0, 0, 0, v, 0), NONE);
                E.due(x.feed(0, 0, 0, 0, v), NONE);
            }
            E.due(x.count(3), 160);
        });
        E.edge("2: NONE: twenty at 141, of which nineteen would do", () -> {
            AgeRoofs x = Edges.tape(Edges.times(" ", 141));
            E.due(x.feed(0x20202020, 0x20202020, 0x20202020, 0x20202020, 0x20202020), NONE);
            E.due(x.count(3), 141);
            E.due(x.feed(0x20202020, 0x20202020, 0x20202020, 0x20202020, 0x20202000), 160);
        });
        E.refused("2: NONE: more than 160", () -> Edges.tape("p;r" + Edges.times(" ", 150)),
            x -> E.due(x.feed(0x3b3b3b3b, 0x3b3b3b3b, 0, 0, 0), NONE));
    }

    private static void end() {
        E.edge("3: its first n bytes alone: none of them", () -> {
            AgeRoofs x = Edges.tape("p;r");
            E.due(x.end(0), true);
            E.due(x.count(3), 0);
        });
        E.edge("3: none of an empty tape", () -> E.due(new AgeRoofs().end(0), true));
        E.edge("3: all of them", () -> {
            AgeRoofs x = Edges.tape("p;r");
            E.due(x.end(3), true);
            E.due(x.text(0), 1);
        });
        E.edge("3: a full tape's 160", () -> E.due(Edges.tape(Edges.times(" ", 160)).end(160), true));
        E.edge("3: what comes then stands behind the first n", () -> {
            AgeRoofs x = Edges.tape("p;rrrr");
            E.due(x.end(2), true);
            E.due(Edges.put(x, "rm6"), 5);
            x.text(0);
            E.due(x.house(0, 0), 6);
        });
        E.edge("3: False: one more than there are", () -> {
            E.due(new AgeRoofs().end(1), false);
            E.due(Edges.tape("p;r").end(4), false);
            E.due(Edges.tape(Edges.times(" ", 160)).end(161), false);
        });
        E.edge("3: False: below 0", () -> E.due(Edges.tape("p;r").end(-1), false));
        E.edge("3: bytes that were cut do not come back", () -> {
            AgeRoofs x = Edges.tape("p;r");
            x.end(1);
            E.due(x.end(2), false);
            E.due(x.count(3), 1);
        });
        E.refused("3: False: n", () -> Edges.tape("p;r"), x -> {
            for (int n : new int[] {4, -1, 161, Edges.LEAST, Edges.MOST}) {
                E.due(x.end(n), false);
            }
        });
    }

    private static void clauses() {
        E.edge("T1: one PERSON and one HOUSE are enough", () -> E.due(Edges.fault(0, "p;r"), NONE));
        E.edge("T1: six PEOPLE and four HOUSES are not too many", () -> E.due(Edges.fault(0, SIX_FOUR), NONE));
        E.edge("T1: in any order", () -> {
            E.due(Edges.fault(0, "r;p"), NONE);
            E.due(Edges.fault(0, "r;p;p;r;p;r;p;p;r;p"), NONE);
            AgeRoofs x = Edges.parish("rm5;ph1;rm6;ph0");
            E.due(x.house(0, 0), 5);
            E.due(x.person(0, 2), 1);
        });
        E.edge("T1: FAULT: a seventh p at it", () -> {
            E.due(Edges.fault(0, "p;p;p;p;p;p;p"), 12);
            E.due(Edges.fault(0, "p;p;p;p;p;p;r; p"), 15);
            E.due(Edges.fault(0, SIX_FOUR + ";p"), 20);
        });
        E.edge("T1: FAULT: a fifth r at it", () -> {
            E.due(Edges.fault(0, "r;r;r;r;r"), 8);
            E.due(Edges.fault(0, "r;r;r;r;p;r"), 10);
            E.due(Edges.fault(0, SIX_FOUR + ";r"), 20);
        });
        E.edge("T1: FAULT: blanks ahead of a seventh p and a fifth r, behind six and four", () -> {
            E.due(Edges.fault(0, SIX_FOUR + ";  p"), 22);
            E.due(Edges.fault(0, SIX_FOUR + ";  r"), 22);
            E.due(Edges.fault(0, SIX_FOUR + ";  "), 22);
            E.due(Edges.fault(0, SIX_FOUR + ";z"), 20);
        });
        E.edge("T1: FAULT: no clause", () -> {
            E.due(Edges.fault(0, ";"), 0);
            E.due(Edges.fault(0, "p;;r"), 2);
            E.due(Edges.fault(0, "p;x"), 2);
            E.due(Edges.fault(0, "P;r"), 0);
            E.due(Edges.fault(0, "p;R"), 2);
        });
        E.edge("T1: FAULT: no ; between clauses", () -> {
            E.due(Edges.fault(0, "pr"), 1);
            E.due(Edges.fault(0, "pp;r"), 1);
            E.due(Edges.fault(0, "py5r"), 3);
            E.due(Edges.fault(0, "p,r"), 1);
        });
    }

    private static void items() {
        E.edge("T1: ITEMS, none", () -> E.due(Edges.fault(0, "p;r"), NONE));
        E.edge("T1: ITEMS, all of them, in each order", () -> {
            for (String text : new String[] {"y1d2h0", "y1h0d2", "d2y1h0", "d2h0y1", "h0y1d2", "h0d2y1"}) {
                AgeRoofs x = Edges.parish("p" + text + ";rm4c5");
                E.due(x.person(0, 3), 1 - 360);
                E.due(x.person(0, 2), 0);
                E.due(x.house(0, 0) * 100 + x.house(0, 1), 405);
                E.due(Edges.parish("p" + text + ";rc5m4").house(0, 0), 4);
            }
        });
        E.edge("T1: FAULT: a letter that was there in the CLAUSE, at it", () -> {
            E.due(Edges.fault(0, "py1y1;r"), 3);
            E.due(Edges.fault(0, "pd1 d1;r"), 4);
            E.due(Edges.fault(0, "ph0h0;r"), 3);
            E.due(Edges.fault(0, "py1d1y1;r"), 5);
            E.due(Edges.fault(0, "pd1h0d1;r"), 5);
            E.due(Edges.fault(0, "ph0y1h0;r"), 5);
            E.due(Edges.fault(0, "py1d1h0y1;r"), 7);
            E.due(Edges.fault(0, "py1d1h0h0;r"), 7);
            E.due(Edges.fault(0, "p;rm1m1"), 5);
            E.due(Edges.fault(0, "p;rc1c1"), 5);
            E.due(Edges.fault(0, "p;rm1c1m1"), 7);
        });
        E.edge("T1: the same letter in the next CLAUSE is no fault", () ->
            E.due(Edges.fault(0, "py1d1h0;py1d1h0;rm1c1;rm1c1"), NONE));
        E.edge("T1: FAULT: a letter of the other sort of CLAUSE", () -> {
            E.due(Edges.fault(0, "pm1;r"), 1);
            E.due(Edges.fault(0, "pc1;r"), 1);
            E.due(Edges.fault(0, "p;ry1"), 3);
            E.due(Edges.fault(0, "p;rd1"), 3);
            E.due(Edges.fault(0, "p;rh0"), 3);
        });
    }

    private static void bounds() {
        E.edge("T1: YEARS 0 .. 99", () -> {
            E.due(Edges.parish("py0;r").person(0, 3), 0);
            E.due(Edges.parish("py99;r").person(0, 3), -99 * 360);
            E.due(Edges.fault(0, "py100;r"), 4);
            E.due(Edges.fault(0, "py999;r"), 4);
        });
        E.edge("T1: DATE 1 .. 360", () -> {
            E.due(Edges.parish("pd1;r").person(0, 1), 1);
            E.due(Edges.parish("pd360;r").person(0, 1), 360);
            E.due(Edges.fault(0, "pd0;r"), 2);
            E.due(Edges.fault(0, "pd361;r"), 4);
        });
        E.edge("T1: h 0 .. 3", () -> {
            E.due(Edges.parish("ph0;r").person(0, 2), 0);
            E.due(Edges.parish("ph3;r;r;r;r").person(0, 2), 3);
            E.due(Edges.fault(0, "ph4;r;r;r;r"), 2);
        });
        E.edge("T1: ROOMS 1 .. 6", () -> {
            E.due(Edges.parish("p;rm1").house(0, 0), 1);
            E.due(Edges.parish("p;rm6").house(0, 0), 6);
            E.due(Edges.fault(0, "p;rm0"), 4);
            E.due(Edges.fault(0, "p;rm7"), 4);
        });
        E.edge("T1: PRICE 0 .. 99", () -> {
            E.due(Edges.parish("p;rc0").house(0, 1), 0);
            E.due(Edges.parish("p;rc99").house(0, 1), 99);
            E.due(Edges.fault(0, "p;rc100"), 6);
        });
        E.edge("T1: FAULT: a number out of bounds is wrong at its last digit, whatever stands behind it", () -> {
            E.due(Edges.fault(0, "pd00;r"), 3);
            E.due(Edges.fault(0, "pd000;r"), 4);
            E.due(Edges.fault(0, "pd0 "), 2);
            E.due(Edges.fault(0, "pd0"), 2);
            E.due(Edges.fault(0, "py 100x"), 5);
            E.due(Edges.fault(0, "p;rm10"), 5);
            E.due(Edges.fault(0, "ph010;r"), 4);
        });
    }

    private static void digits() {
        E.edge("T1: a number has one digit at least", () -> {
            E.due(Edges.fault(0, "py;r"), 2);
            E.due(Edges.fault(0, "pyd1;r"), 2);
            E.due(Edges.fault(0, "p;rm"), 4);
            E.due(Edges.fault(0, "py-1;r"), 2);
            E.due(Edges.fault(0, "py/;r"), 2);
            E.due(Edges.fault(0, "py:;r"), 2);
        });
        E.edge("T1: a number has three digits at most", () -> {
            E.due(Edges.parish("py007d012;r").person(0, 3), 11 - 7 * 360);
            E.due(Edges.parish("p;rm001c000").house(0, 1), 0);
        });
        E.edge("T1: FAULT: a fourth digit itself, whatever the three ahead of it", () -> {
            E.due(Edges.fault(0, "py0001;r"), 5);
            E.due(Edges.fault(0, "py9999;r"), 5);
            E.due(Edges.fault(0, "pd0000;r"), 5);
            E.due(Edges.fault(0, "ph0000;r"), 5);
            E.due(Edges.fault(0, "p;rm7777"), 7);
            E.due(Edges.fault(0, "p;rc10000"), 7);
        });
        E.edge("T1: digits are 0 to 9", () -> E.due(Edges.parish("py90d189;r").person(0, 3), 188 - 90 * 360));
    }

    private static void defaults() {
        E.edge("T1: YEARS 30 without", () -> E.due(Edges.parish("pd1;r").person(0, 3), -10800));
        E.edge("T1: DATE 1 without", () -> E.due(Edges.parish("py1;r").person(0, 1), 1));
        E.edge("T1: no HOUSE without", () -> E.due(Edges.parish("p;r").person(0, 2), NONE));
        E.edge("T1: ROOMS 3 without", () -> E.due(Edges.parish("p;rc1").house(0, 0), 3));
        E.edge("T1: PRICE 10 without", () -> E.due(Edges.parish("p;rm1").house(0, 1), 10));
        E.edge("T1: what one CLAUSE told is not told in the next", () -> {
            AgeRoofs x = Edges.parish("py5d6h0;p;rm1c2;r");
            E.due(x.person(1, 3), -10800);
            E.due(x.person(1, 2), NONE);
            E.due(x.house(1, 0) * 100 + x.house(1, 1), 310);
        });
    }

    private static void blanks() {
        E.edge("T1: blanks may stand between all signs of a PARISH", () ->
            E.due(Edges.parish("  p  y  9  d  8  h  0  ;  r  m  2  c  7  ").person(0, 3), 7 - 9 * 360));
        E.edge("T1: FAULT: a blank within a number of a PARISH: at the digit behind it", () -> {
            E.due(Edges.fault(0, "py1 2;r"), 4);
            E.due(Edges.fault(0, "p;rm 1 1"), 7);
        });
        E.edge("T1: blanks may stand between all signs of a LAW", () ->
            E.due(Edges.fault(1, " y : ( ! a = 1 | b < 2 & x > 3 ) ? [ 4 + y ] * n / 5 - 6 ; y : 7 "), NONE));
        E.edge("T1: FAULT: a blank within a number of a LAW: at the digit behind it", () ->
            E.due(Edges.fault(1, "y:1 2"), 4));
        E.edge("T1: only 32 is a blank", () -> {
            E.due(Edges.fault(0, "p\t;r"), 1);
            E.due(Edges.fault(0, "p\n;r"), 1);
            E.due(Edges.fault(0, "p!;r"), 1);
            E.due(Edges.fault(0, "p" + (char) 160 + ";r"), 1);
            E.due(Edges.fault(1, "y\t:1"), 1);
        });
    }

    private static void tooEarly() {
        E.edge("T1: FAULT: the length of an empty text", () -> E.due(Edges.fault(0, ""), 0));
        E.edge("T1: FAULT: the length of blanks alone", () -> E.due(Edges.fault(0, "     "), 5));
        E.edge("T1: FAULT: the length, if it ends too early", () -> {
            E.due(Edges.fault(0, "p;"), 2);
            E.due(Edges.fault(0, "p;r;"), 4);
            E.due(Edges.fault(0, "p;r;  "), 6);
            E.due(Edges.fault(0, "p;ry"), 3);
            E.due(Edges.fault(0, "p;rm"), 4);
            E.due(Edges.fault(0, "p;rc  "), 6);
            E.due(Edges.fault(0, SIX_FOUR + ";"), 20);
        });
        E.edge("T1: FAULT: the length, without a PERSON", () -> {
            E.due(Edges.fault(0, "r"), 1);
            E.due(Edges.fault(0, "r;r;r;r  "), 9);
        });
        E.edge("T1: FAULT: the length, without a HOUSE", () -> {
            E.due(Edges.fault(0, "p"), 1);
            E.due(Edges.fault(0, "p;p;p;p;p;p"), 11);
            E.due(Edges.fault(0, "ph0"), 3);
        });
    }

    private static void homes() {
        E.edge("T1: FAULT: the length, with an h that is no HOUSE told", () -> {
            E.due(Edges.fault(0, "ph1;r"), 5);
            E.due(Edges.fault(0, "ph2;r;r "), 8);
            E.due(Edges.fault(0, "ph3;r;r;r"), 9);
            E.due(Edges.fault(0, "p;p;p;p;p;ph1;r"), 15);
        });
        E.edge("T1: an h that is the last HOUSE told", () -> {
            E.due(Edges.fault(0, "ph0;r"), NONE);
            E.due(Edges.fault(0, "ph1;r;r"), NONE);
            E.due(Edges.fault(0, "ph2;r;r;r"), NONE);
            E.due(Edges.fault(0, "r;r;r;r;ph3"), NONE);
        });
        E.edge("T1: FAULT: what is wrong earlier comes first", () -> E.due(Edges.fault(0, "ph3;r;z"), 6));
    }

    private static void lawClauses() {
        E.edge("T1: a LAW has one CLAUSE at least", () -> {
            E.due(Edges.fault(1, ""), 0);
            E.due(Edges.fault(1, "  "), 2);
            E.due(Edges.fault(1, "y:1"), NONE);
        });
        E.edge("T1: a LAW's CLAUSES with ; between", () -> {
            E.due(Edges.fault(1, "y:1;y:2;y:3"), NONE);
            E.due(Edges.fault(1, "y:1;;y:2"), 4);
            E.due(Edges.fault(1, ";y:1"), 0);
            E.due(Edges.fault(1, "y:1y:2"), 3);
            E.due(Edges.fault(1, "y:1,y:2"), 3);
            E.due(Edges.fault(1, "y:1;x:2"), 4);
        });
        E.edge("T1: a CLAUSE begins with y and :", () -> {
            E.due(Edges.fault(1, "x:1"), 0);
            E.due(Edges.fault(1, ":1"), 0);
            E.due(Edges.fault(1, "y1"), 1);
            E.due(Edges.fault(1, "yy:1"), 1);
            E.due(Edges.fault(1, "y::1"), 2);
        });
        E.edge("T1: a LAW is no PARISH, a PARISH is no LAW", () -> {
            E.due(Edges.fault(0, "y:1"), 0);
            E.due(Edges.fault(1, "p;r"), 0);
        });
    }

    private static void lawConditions() {
        E.edge("T1: a CLAUSE that goes on with ! or ( behind its : has a CONDITION", () -> {
            E.due(Edges.fault(1, "y:(1=1)"), 7);
            E.due(Edges.fault(1, "y:!1=1"), 6);
            E.due(Edges.fault(1, "y:!1=1;y:1"), 6);
            E.due(Edges.fault(1, "y:(1)?1"), 4);
            E.due(Edges.fault(1, "y:(1=1)+1"), 7);
        });
        E.edge("T1: a SUM alone is no CONDITION", () -> {
            E.due(Edges.fault(1, "y:1?1"), 3);
            E.due(Edges.fault(1, "y:a&b=1?1"), 3);
            E.due(Edges.fault(1, "y:a=1&b?1"), 7);
            E.due(Edges.fault(1, "y:a=1|b"), 7);
        });
        E.edge("T1: a CONDITION is no SUM", () -> {
            E.due(Edges.fault(1, "y:a=1"), 5);
            E.due(Edges.fault(1, "y:a=1?b=1"), 7);
            E.due(Edges.fault(1, "y:a=1?!b"), 6);
            E.due(Edges.fault(1, "y:a=1?(b)"), 6);
            E.due(Edges.fault(1, "y:[a=1]"), 4);
        });
        E.edge("T1: one of = < > alone", () -> {
            E.due(Edges.fault(1, "y:a<=1?1"), 4);
            E.due(Edges.fault(1, "y:a==1?1"), 4);
            E.due(Edges.fault(1, "y:1=1=1?1"), 5);
        });
        E.edge("T1: one ? alone", () -> {
            E.due(Edges.fault(1, "y:a=1??1"), 6);
            E.due(Edges.fault(1, "y:a=1?1?1"), 7);
            E.due(Edges.fault(1, "y:?1"), 2);
        });
        E.edge("T1: FAULT: nothing stands where a UNIT or a SUM must", () -> {
            E.due(Edges.fault(1, "y:1=1|?1"), 6);
            E.due(Edges.fault(1, "y:1=1&?1"), 6);
            E.due(Edges.fault(1, "y:|1=1?1"), 2);
            E.due(Edges.fault(1, "y:&1=1?1"), 2);
            E.due(Edges.fault(1, "y:!?1"), 3);
            E.due(Edges.fault(1, "y:1=?1"), 4);
            E.due(Edges.fault(1, "y:=1?1"), 2);
            E.due(Edges.fault(1, "y:(1=1|)?1"), 7);
            E.due(Edges.fault(1, "y:(1=1&)?1"), 7);
            E.due(Edges.fault(1, "y:(1=)?1"), 5);
            E.due(Edges.fault(1, "y:(!)?1"), 4);
        });
        E.edge("T1: FAULT: nothing stands where a TERM or an ATOM must", () -> {
            E.due(Edges.fault(1, "y:;y:1"), 2);
            E.due(Edges.fault(1, "y:1=1?;y:1"), 6);
            E.due(Edges.fault(1, "y:1+;y:1"), 4);
            E.due(Edges.fault(1, "y:1*;y:1"), 4);
            E.due(Edges.fault(1, "y:1+*1"), 4);
            E.due(Edges.fault(1, "y:1/=1?1"), 4);
            E.due(Edges.fault(1, "y:[1-]"), 5);
            E.due(Edges.fault(1, "y:[1/]"), 5);
        });
        E.edge("T1: FAULT: a sign that closes what was not opened so", () -> {
            E.due(Edges.fault(1, "y:1]"), 3);
            E.due(Edges.fault(1, "y:1)"), 3);
            E.due(Edges.fault(1, "y:[1)"), 4);
            E.due(Edges.fault(1, "y:(1=1]?1"), 6);
            E.due(Edges.fault(1, "y:()?1"), 3);
            E.due(Edges.fault(1, "y:[]"), 3);
        });
    }

    private static void lawNumbers() {
        E.edge("T1: a LAW's number has 1 to 4 digits", () -> {
            E.due(Edges.fault(1, "y:1"), NONE);
            E.due(Edges.fault(1, "y:9999"), NONE);
            E.due(Edges.fault(1, "y:0000"), NONE);
        });
        E.edge("T1: FAULT: a fifth digit in a LAW itself", () -> {
            E.due(Edges.fault(1, "y:12345"), 6);
            E.due(Edges.fault(1, "y:00000"), 6);
            E.due(Edges.fault(1, "y:a=10000?1"), 8);
            E.due(Edges.fault(1, "y:123456"), 6);
        });
        E.edge("T1: a LAW's number has no sign", () -> {
            E.due(Edges.fault(1, "y:-1"), 2);
            E.due(Edges.fault(1, "y:+1"), 2);
            E.due(Edges.fault(1, "y:1--1"), 4);
        });
        E.edge("T1: the letters a b x y n alone", () -> {
            E.due(Edges.fault(1, "y:a+b+x+y+n"), NONE);
            E.due(Edges.fault(1, "y:c"), 2);
            E.due(Edges.fault(1, "y:z"), 2);
            E.due(Edges.fault(1, "y:A"), 2);
            E.due(Edges.fault(1, "y:ab"), 3);
            E.due(Edges.fault(1, "y:1a"), 3);
            E.due(Edges.fault(1, "y:a1"), 3);
        });
    }

    private static void lawDepth() {
        E.edge("T1: six of [ within one another", () -> E.due(Edges.fault(1, "y:[[[[[[1]]]]]]"), NONE));
        E.edge("T1: six of ( within one another", () -> E.due(Edges.fault(1, "y:((((((1=1))))))?1"), NONE));
        E.edge("T1: six of ! within one another", () -> E.due(Edges.fault(1, "y:!!!!!!1=1?1"), NONE));
        E.edge("T1: six of ( [ ! within one another", () -> E.due(Edges.fault(1, "y:!(!([[1]]=1))?1"), NONE));
        E.edge("T1: six within one another, behind the first of = & |", () -> {
            E.due(Edges.fault(1, "y:1=[[[[[[1]]]]]]?1"), NONE);
            E.due(Edges.fault(1, "y:1=1&((((((1=1))))))?1"), NONE);
            E.due(Edges.fault(1, "y:1=1|!!!!!!1=1?1"), NONE);
            E.due(Edges.fault(1, "y:1=[[[[[[[1]]]]]]]?1"), 10);
            E.due(Edges.fault(1, "y:1=1&(((((((1=1)))))))?1"), 12);
            E.due(Edges.fault(1, "y:1=1|!!!!!!!1=1?1"), 12);
        });
        E.edge("T1: FAULT: a seventh of ( [ ! at it", () -> {
            E.due(Edges.fault(1, "y:[[[[[[[1]]]]]]]"), 8);
            E.due(Edges.fault(1, "y:(((((((1=1)))))))?1"), 8);
            E.due(Edges.fault(1, "y:!!!!!!!1=1?1"), 8);
            E.due(Edges.fault(1, "y:!!!!!!(1=1)?1"), 8);
            E.due(Edges.fault(1, "y:!!!!!![1]=1?1"), 8);
            E.due(Edges.fault(1, "y:!!!!!!1=[1]?1"), 10);
            E.due(Edges.fault(1, "y:((((((!1=1))))))?1"), 8);
            E.due(Edges.fault(1, "y:(((((([1]=1))))))?1"), 8);
            E.due(Edges.fault(1, "y:((((((1=[1]))))))?1"), 10);
            E.due(Edges.fault(1, "y:!(!(!([1]=1)))?1"), 8);
            E.due(Edges.fault(1, "y:1=1?[[[[[[[1]]]]]]]"), 12);
        });
        E.edge("T1: those beside one another are not within one another", () -> {
            E.due(Edges.fault(1, "y:[1]+[1]+[1]+[1]+[1]+[1]+[1]"), NONE);
            E.due(Edges.fault(1, "y:!1=1&!1=1&!1=1&!1=1&!1=1&!1=1&!1=1?1"), NONE);
            E.due(Edges.fault(1, "y:(1=1)|(1=1)|(1=1)|(1=1)|(1=1)|(1=1)|((((((1=1))))))?1"), NONE);
            E.due(Edges.fault(1, "y:!!!!!!1=1&[1]=1?[[[[[[1]]]]]];y:[[[[[[1]]]]]]"), NONE);
        });
    }

    private static void lawTooEarly() {
        E.edge("T1: FAULT: the length, if a LAW ends too early", () -> {
            String law = "y:(!a=1|[b]<2)&x>3?[y]*4-n;y:5";
            // The text may end behind these many bytes, and behind all.
            int[] whole = {22, 24, 26};
            for (int n = 0; n < law.length(); n++) {
                boolean ends = n == whole[0] || n == whole[1] || n == whole[2];
                E.due(Edges.fault(1, law.substring(0, n)), ends ? NONE : n);
                E.due(Edges.fault(1, law.substring(0, n) + "   "), ends ? NONE : n + 3);
            }
            E.due(Edges.fault(1, law), NONE);
        });
    }

    private static void fault() {
        E.edge("4: -2: no such sort", () -> {
            for (int sort : Edges.NO_SUCH) {
                E.due(Edges.tape("p;r").fault(sort), -2);
            }
            E.due(new AgeRoofs().fault(2), -2);
            E.due(new AgeRoofs().fault(-1), -2);
        });
        E.edge("4: the last byte of a full tape can be wrong", () -> {
            E.due(Edges.fault(0, "p;r" + Edges.times(" ", 156) + "z"), 159);
            E.due(Edges.fault(1, "y:1" + Edges.times(" ", 156) + "z"), 159);
        });
        E.edge("4: a full tape can end too early", () -> {
            E.due(Edges.fault(0, "p;" + Edges.times(" ", 158)), 160);
            E.due(Edges.fault(1, "y:1+" + Edges.times(" ", 156)), 160);
        });
        E.refused("4: fault only looks", () -> {
            AgeRoofs x = Edges.parish("p;py20h0;r", "y:1");
            Edges.put(x, "py99h1;p;rm6;r");
            return x;
        }, x -> {
            E.due(x.fault(0), NONE);
            E.due(x.fault(1), 0);
            E.due(x.fault(2), -2);
        });
    }

    private static void textOfParish() {
        E.edge("5: how many PEOPLE, from one to six", () -> {
            for (int n = 1; n <= 6; n++) {
                AgeRoofs x = Edges.tape(Edges.times("p;", n) + "r");
                E.due(x.text(0), n);
                E.due(x.count(0), n);
            }
        });
        E.edge("5: HOUSES from one to four", () -> {
            for (int n = 1; n <= 4; n++) {
                E.due(Edges.parish("p" + Edges.times(";r", n)).count(1), n);
            }
        });
        E.edge("5: the TAPE is empty then", () -> {
            AgeRoofs x = Edges.parish("p;r");
            E.due(x.count(3), 0);
            E.due(x.text(0), NONE);
            E.due(x.count(0), 1);
        });
        E.edge("5: a smaller PARISH behind a greater one has none of its people and houses", () -> {
            AgeRoofs x = Edges.parish("ph0;ph1;ph2;ph3;p;p;r;r;r;r");
            Edges.put(x, "p;r");
            E.due(x.text(0), 1);
            E.due(Edges.throwsFor(x, 1, 0), true);
            E.due(x.house(1, 0), NONE);
            E.due(x.count(8), 1);
        });
        E.edge("5: nobody goes to a HOUSE of the PARISH ahead", () -> {
            AgeRoofs x = Edges.parish("ph0;ph1;ph2;p;r;r;r;r");
            Edges.put(x, "py20d2h0;py20d2h0;r");
            x.text(0);
            E.due(x.moves(1), NONE);
            E.due(x.night(1, NONE), NONE);
            E.due(x.free(0, 1), 0);
            E.due(x.days(1), 1);
            E.due(x.person(0, 2), NONE);
        });
        E.edge("5: nobody gains by a HOUSE of the PARISH ahead", () -> {
            AgeRoofs x = Edges.parish("py1;py2;rc0;rc0;rc0;rc0");
            for (int house = 0; house < 4; house++) {
                x.worth(0, house, 9);
            }
            E.due(x.best(0), 9);
            Edges.put(x, "py1;py2;rc0");
            x.text(0);
            E.due(x.best(0), 0);
            E.due(x.rather(0), NONE);
        });
    }

    private static AgeRoofs lived() {
        AgeRoofs x = Edges.parish("py20h0;py20h1;rc0;rc0", "y:1");
        x.risk(100);
        x.seed(5L);
        x.worth(0, 1, 9);
        x.say(0, 0);
        x.image();
        x.days(720);
        return x;
    }

    private static void textLeavesAndTakes() {
        E.edge("5: gone: TODAY, SAID, MOVED, DEAD", () -> {
            AgeRoofs x = lived();
            E.due(x.count(7), 4);
            Edges.put(x, "p;p;rc0;rc0");
            x.text(0);
            E.due(x.count(4) + x.count(5) + x.count(6) + x.count(7), 0);
        });
        E.edge("5: gone: the IMAGE", () -> {
            AgeRoofs x = lived();
            Edges.put(x, "p;r");
            x.text(0);
            E.due(x.back(), NONE);
        });
        E.edge("5: gone: the WORTHS", () -> {
            AgeRoofs x = lived();
            Edges.put(x, "p;p;rc0;rc0");
            x.text(0);
            E.due(x.best(0), 0);
        });
        E.edge("5: gone: MOVED that was above 0", () -> {
            AgeRoofs x = Edges.parish("py1;py2;r");
            E.due(x.days(1), 2);
            Edges.put(x, "ph0;r");
            x.text(0);
            E.due(x.count(6), 0);
            E.due(x.days(1), 0);
        });
        E.edge("5: gone: the WORTH of each PERSON for each HOUSE", () -> {
            String six = "py1;py2;py3;py4;py5;py6;rc0;rc0;rc0;rc0";
            AgeRoofs x = Edges.parish(six);
            for (int k = 0; k < 24; k++) {
                x.worth(k / 4, k % 4, 50);
            }
            Edges.put(x, six);
            x.text(0);
            for (int person = 0; person < 6; person++) {
                E.due(x.rather(person), NONE);
            }
            E.due(x.best(0), 0);
        });
        E.edge("5: the LAWS stay, but none holds then", () -> {
            AgeRoofs x = lived();
            Edges.put(x, "py20;py40;r");
            x.text(0);
            E.due(x.count(2), 1);
            E.due(x.clash(0, 1, 0), 0);
            E.due(x.law(0), true);
            E.due(x.clash(0, 1, 0), 1);
        });
        E.edge("5: the RISK stays", () -> {
            AgeRoofs x = lived();
            Edges.put(x, "p;r");
            x.text(0);
            x.today(358);
            x.days(1);
            E.due(x.count(7), 1);
        });
        E.edge("5: the seed stays", () -> {
            for (long seed = 0; seed < 40; seed++) {
                AgeRoofs x = new AgeRoofs();
                x.risk(50);
                x.seed(seed);
                Edges.put(x, "p;r");
                x.text(0);
                x.days(359);
                long v = seed * 6364136223846793005L + 1442695040888963407L;
                E.due(x.count(7), (v >>> 33) % 100 < 50 ? 1 : 0);
            }
        });
    }

    private static void textOfLaw() {
        E.edge("5: a LAW's number, from 0 to 3", () -> {
            AgeRoofs x = new AgeRoofs();
            for (int n = 0; n < 4; n++) {
                E.due(Edges.tell(x, "y:1"), n);
                E.due(x.count(2), n + 1);
            }
        });
        E.edge("5: NONE: there are four LAWS", () -> {
            AgeRoofs x = new AgeRoofs();
            for (int n = 0; n < 4; n++) {
                Edges.tell(x, "y:1");
            }
            E.due(Edges.tell(x, "y:1"), NONE);
            E.due(x.count(2), 4);
            E.due(x.fault(1), NONE);
        });
        E.edge("5: a LAW can be told without a PARISH, and holds in one that comes", () -> {
            AgeRoofs x = new AgeRoofs();
            E.due(Edges.tell(x, "y:1"), 0);
            Edges.put(x, "py20;py40;r");
            x.text(0);
            x.law(0);
            E.due(x.clash(0, 1, 0), 1);
        });
        E.edge("5: a LAW that is told holds not yet", () -> {
            AgeRoofs x = Edges.parish("py20;py40;r");
            E.due(Edges.tell(x, "y:1"), 0);
            E.due(x.clash(0, 1, 0), 0);
        });
        E.edge("5: a LAW that is told changes none of the others", () -> {
            AgeRoofs x = Edges.parish("py20;py40;r", "y:1");
            Edges.tell(x, "y:0;y:1=1?0;y:2");
            Edges.tell(x, "y:0");
            Edges.tell(x, "y:0");
            E.due(x.clash(0, 1, 0), 1);
        });
    }

    private static void textRefused() {
        E.refused("5: NONE: a FAULT of a PARISH", () -> {
            AgeRoofs x = lived();
            Edges.put(x, "py10h0;p;p;r;rm1x");
            return x;
        }, x -> E.due(x.text(0), NONE));
        E.refused("5: NONE: a FAULT of a LAW", () -> {
            AgeRoofs x = lived();
            Edges.put(x, "y:0;y:");
            return x;
        }, x -> E.due(x.text(1), NONE));
        E.refused("5: NONE: no such sort", () -> {
            AgeRoofs x = lived();
            Edges.put(x, "p;r");
            return x;
        }, x -> {
            for (int sort : Edges.NO_SUCH) {
                E.due(x.text(sort), NONE);
            }
            E.due(x.text(2), NONE);
            E.due(x.text(-1), NONE);
        });
        E.refused("5: NONE: a fifth LAW", () -> {
            AgeRoofs x = lived();
            Edges.tell(x, "y:a-b");
            Edges.tell(x, "y:y>9?1");
            Edges.tell(x, "y:0");
            Edges.put(x, "y:1");
            return x;
        }, x -> E.due(x.text(1), NONE));
    }

    private static void fullTapes() {
        E.edge("2, 5: a PARISH of 160 bytes", () -> {
            AgeRoofs x = Edges.tape("p" + Edges.times(" ", 156) + ";rc");
            E.due(x.count(3), 160);
            E.due(x.fault(0), 160);
            x.end(159);
            E.due(x.text(0), 1);
        });
        E.edge("2, 5: a LAW of 160 bytes, one long SUM", () -> {
            AgeRoofs x = Edges.parish("p;p;r", "y:" + Edges.times("1+", 76) + "1=77?1");
            E.due(x.clash(0, 1, 0), 1);
        });
        E.edge("2, 5: a LAW of 160 bytes, as many CLAUSES as can be", () -> {
            AgeRoofs x = Edges.parish("p;p;r", Edges.times("y:1>1?1;", 19) + "y:1>0?1 ");
            E.due(x.clash(0, 1, 0), 1);
            x = Edges.parish("p;p;r", Edges.times("y:0;", 39) + "y:1 ");
            E.due(x.clash(0, 1, 0), 0);
        });
        E.edge("2, 5: a LAW as deep and as wide as can be", () -> {
            String deep = "y:1=2|1=1&(1=2|1=1&(1=2|1=1&(1=2|1=1&(1=2|1=1&0+1*[0+1*[0+1*2]]=2))))?1";
            AgeRoofs x = Edges.parish("p;p;r", deep);
            E.due(x.clash(0, 1, 0), 1);
        });
    }
}
