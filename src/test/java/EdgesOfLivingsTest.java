/** Boundary cases of the terms' part 3 and of promises 15 to 20: fewest houses, livings, moves, nights, lodgers. */
public final class EdgesOfLivingsTest {
    private static final int NONE = Edges.NONE;
    private static final int HIDDEN = Edges.HIDDEN;
    private static final String SIX = "p;p;p;p;p;p;r";
    private static final String SIX_AGES = "py1;py2;py3;py4;py5;py6";
    private static final Edges E = new Edges("EdgesOfLivingsTest");

    public static void main(String[] args) {
        fewest();
        bound();
        fewestRefused();
        lasts();
        lastsDays();
        bars();
        barsNone();
        moves();
        movesDays();
        movesToAndFro();
        movesInOneNight();
        movesRefused();
        nightSteps();
        nightRows();
        nightGoals();
        nightRefused();
        lodgerDates();
        lodgerDays();
        lodgerRefused();
        E.finish();
    }

    /** Each clashes with its neighbours in the row 0, 2, 3, 1 alone, on all days. */
    private static final String ROW = "py30d1;py39d241;py33d81;py36d161";
    private static final String ROW_LAW = "y:x=1000?1";

    private static void fewest() {
        E.edge("15: one PERSON alone: one HOUSE", () -> E.due(Edges.parish("p;r").fewest(720, 0), 1));
        E.edge("15: six who never clash: one HOUSE, without ROOMS", () ->
            E.due(Edges.parish(SIX_AGES + ";rm1").fewest(720, 0), 1));
        E.edge("15: six of one age: six HOUSES, more than are told", () -> {
            E.due(Edges.parish(SIX).fewest(1, 0), 6);
            E.due(Edges.parish(SIX).fewest(720, 0), 6);
        });
        E.edge("15: who lives nowhere is in one, too", () -> E.due(Edges.parish("p;p;ph0;r").fewest(1, 0), 3));
        E.edge("15: a ring of five needs three", () -> {
            // Each clashes with the next one: births 1000 apart, and 4000 between the first and the last.
            AgeRoofs x = Edges.parish("py50d1;py48d281;py45d201;py42d121;py39d41;r", "y:x=1000|x=4000?1");
            E.due(x.fewest(1, 0), 3);
            E.due(x.fewest(1, 1), 2);
        });
        E.edge("15: on any of the DAYS: the last one counts, the next does not", () -> {
            AgeRoofs x = Edges.parish("py20;py40;r", "y:y=360?1");
            E.due(x.fewest(359, 0), 1);
            E.due(x.fewest(360, 0), 2);
            x.today(359);
            E.due(x.fewest(1, 0), 2);
        });
        E.edge("15: DAYS behind the last TODAY", () -> {
            AgeRoofs x = Edges.parish("py20;py40;r", "y:y=281?1");
            x.today(9999);
            E.due(x.fewest(1, 0), 1);
            E.due(x.fewest(2, 0), 2);
        });
    }

    private static void bound() {
        E.edge("15: BOUND of one PERSON alone, and of those who never clash", () -> {
            E.due(Edges.parish("p;r").fewest(720, 1), 1);
            E.due(Edges.parish(SIX_AGES + ";r").fewest(720, 1), 1);
        });
        E.edge("15: BOUND of six of one age", () -> E.due(Edges.parish(SIX).fewest(1, 1), 6));
        E.edge("15: BOUND: one of these DAYS, the same for all", () -> {
            // 0 with 1 on date 1, 1 with 2 on date 2, 0 with 2 on date 3.
            String law = "y:y=1&x=360&b=20?1;y:y=2&x=360&b=21?1;y:y=3&x=720?1";
            AgeRoofs x = Edges.parish("py20;py21;py22;r", law);
            E.due(x.fewest(720, 1), 2);
            E.due(x.fewest(720, 0), 3);
            E.due(x.fewest(2, 0), 2);
        });
        E.edge("15: BOUND: on the last of the DAYS alone", () -> {
            AgeRoofs x = Edges.parish("py20;py40;py60;r", "y:y=360?1");
            E.due(x.fewest(359, 1), 1);
            E.due(x.fewest(360, 1), 3);
        });
        E.edge("15: BOUND: each two, not only a row of them", () -> {
            AgeRoofs x = Edges.parish("py20;py21;py22;py23;r", "y:x=360?1");
            E.due(x.fewest(1, 1), 2);
        });
    }

    private static void fewestRefused() {
        E.edge("15: NONE: no such DAYS", () -> {
            AgeRoofs x = Edges.parish(SIX);
            for (int days : Edges.NO_DAYS) {
                E.due(x.fewest(days, 0), NONE);
                E.due(x.fewest(days, 1), NONE);
            }
        });
        E.edge("15: NONE: no such what", () -> {
            AgeRoofs x = Edges.parish(SIX);
            E.due(x.fewest(1, 2), NONE);
            E.due(x.fewest(1, -1), NONE);
            for (int what : Edges.NO_SUCH) {
                E.due(x.fewest(1, what), NONE);
            }
        });
    }

    private static void lasts() {
        E.edge("16: all in HOUSE 0: the lowest", () -> {
            E.due(Edges.parish("p;r").lasts(720), 0);
            E.due(Edges.parish(SIX_AGES + ";rm6").lasts(720), 0);
        });
        E.edge("16: PERSON 0 the highest digit", () -> {
            E.due(Edges.parish("p;p;r;r").lasts(1), 1);
            E.due(Edges.parish("p;p;p;p;r;r;r;r").lasts(1), 0 * 64 + 16 + 2 * 4 + 3);
        });
        E.edge("16: the highest that can be: rooms alone lead there", () -> {
            AgeRoofs x = Edges.parish("py1;py2;py3;py4;py5;py6;rm1;rm1;rm1;rm3");
            E.due(x.lasts(1), ((((0 * 4 + 1) * 4 + 2) * 4 + 3) * 4 + 3) * 4 + 3);
        });
        E.edge("16: who could live together must part for those behind them", () -> {
            AgeRoofs x = Edges.parish(ROW + ";rm4;rm4", ROW_LAW);
            E.due(x.lasts(720), 16 + 4);
            E.due(x.bars(720), NONE);
            E.due(x.fewest(720, 0), 2);
            E.due(x.wants(720, 2), 2);
        });
        E.edge("16: as many as ROOMS", () -> {
            E.due(Edges.parish("py1;py2;py3;rm3").lasts(1), 0);
            E.due(Edges.parish("py1;py2;py3;rm2;rm1").lasts(1), 1);
        });
        E.edge("16: it is not asked where they live, nor that all be housed", () -> {
            E.due(Edges.parish("ph1;p;r;r").lasts(1), 1);
            E.due(Edges.parish("p;p;r;r").lasts(1), 1);
        });
        E.edge("16: NONE: none: one room too few", () -> {
            E.due(Edges.parish("py1;py2;py3;rm2").lasts(1), NONE);
            E.due(Edges.parish("py1;py2;py3;rm1;rm1").lasts(1), NONE);
        });
        E.edge("16: NONE: none: one house too few", () -> {
            E.due(Edges.parish("p;p;r").lasts(1), NONE);
            E.due(Edges.parish("p;p;p;p;p;r;r;r;r").lasts(1), NONE);
        });
    }

    private static void lastsDays() {
        E.edge("16: the last of the DAYS counts, the next does not", () -> {
            AgeRoofs x = Edges.parish("py20;py40;r;r", "y:y=360?1");
            E.due(x.lasts(359), 0);
            E.due(x.lasts(360), 1);
        });
        E.edge("16: one LIVING for all the DAYS", () -> {
            AgeRoofs x = Edges.parish("py20;py21;py22;r;r", "y:y=1&x=360&b=20?1;y:y=2&x=360&b=21?1;y:y=3&x=720?1");
            E.due(x.lasts(1), 4);
            E.due(x.lasts(2), 4);
            E.due(x.lasts(3), NONE);
        });
        E.edge("16: NONE: no such DAYS", () -> {
            AgeRoofs x = Edges.parish("p;r");
            for (int days : Edges.NO_DAYS) {
                E.due(x.lasts(days), NONE);
            }
        });
    }

    private static void bars() {
        E.edge("17: the fewest: two of one age in one HOUSE", () -> E.due(Edges.parish("p;p;r").bars(1), 3));
        E.edge("17: the fewest: all six", () ->
            E.due(Edges.parish(SIX_AGES + ";rm5").bars(720), 63));
        E.edge("17: five of one age in four HOUSES", () -> {
            E.due(Edges.parish("p;p;p;p;p;r;r;r;r").bars(1), 31);
            E.due(Edges.parish("py20;p;p;p;p;p;r;r;r;r").bars(1), 62);
        });
        E.edge("17: of several sets that with the lower one where two first differ", () -> {
            E.due(Edges.parish("py20;py30;py30;py20;r").bars(1), 9);
            E.due(Edges.parish("py20;py20;py20;r").bars(1), 3);
            E.due(Edges.parish("py30;py20;py20;py40;py40;py30;r").bars(1), 33);
            E.due(Edges.parish("py1;py2;py3;py4;rm1;rm1").bars(1), 7);
        });
        E.edge("17: fewer PEOPLE ahead of lower ones", () ->
            E.due(Edges.parish("py1;py2;py3;py4;py50;py50;rm3").bars(1), 48));
        E.edge("17: on any of the DAYS: the last one counts", () -> {
            AgeRoofs x = Edges.parish("py20;py40;r", "y:y=360?1");
            E.due(x.bars(359), NONE);
            E.due(x.bars(360), 3);
        });
    }

    private static void barsNone() {
        E.edge("17: NONE: there is one", () -> {
            E.due(Edges.parish("p;r").bars(720), NONE);
            E.due(Edges.parish("p;p;p;p;r;r;r;r").bars(720), NONE);
            E.due(Edges.parish(SIX_AGES + ";rm6").bars(720), NONE);
        });
        E.edge("17: NONE: no such DAYS", () -> {
            AgeRoofs x = Edges.parish("p;p;r");
            for (int days : Edges.NO_DAYS) {
                E.due(x.bars(days), NONE);
            }
        });
    }

    private static void moves() {
        E.edge("18: nobody need move", () -> {
            E.due(Edges.parish("ph0;r").moves(720), 0);
            E.due(Edges.parish("ph0;ph1;r;r").moves(720), 0);
        });
        E.edge("18: to come in from none counts 1", () -> {
            E.due(Edges.parish("p;r").moves(1), 1);
            E.due(Edges.parish("py1;py2;py3;py4;py5;rm5").moves(720), 5);
        });
        E.edge("18: the first against the LIVING as it is: too many in a HOUSE", () ->
            E.due(Edges.parish("py1h0;py2h0;py3h0;rm1;rm2").moves(1), 2));
        E.edge("18: two on one DAY", () -> {
            // Each clashes with its mate on date 1: one of each two goes to the other house.
            E.due(Edges.parish("py20h0;py20h0;py40h1;py40h1;r;r").moves(1), 2);
        });
        E.edge("18: changes on two DAYS", () -> {
            // On date 2 PERSON 0 must live alone, on date 3 the two others must part.
            String law = "y:y=2&b=20?1;y:y=3&b=40?1";
            E.due(Edges.parish("py20h0;py40h0;py60h0;r;r", law).moves(1), 0);
            E.due(Edges.parish("py20h0;py40h0;py60h0;r;r", law).moves(2), 1);
            E.due(Edges.parish("py20h0;py40h0;py60h0;r;r", law).moves(3), 2);
        });
        E.edge("18: 5 PEOPLE, 3 HOUSES at most", () -> {
            E.due(Edges.parish("ph0;py2h1;py3h2;py4h0;py5h1;r;r;r").moves(720), 0);
            E.due(Edges.parish("ph0;ph0;ph0;py4h0;py5h0;rm6;rm6;rm6").moves(1), 2);
        });
    }

    private static void movesDays() {
        E.edge("18: the last of the DAYS counts, the next does not", () -> {
            AgeRoofs x = Edges.parish("py20h0;py40h0;r;r", "y:y=360?1");
            E.due(x.moves(359), 0);
            E.due(x.moves(360), 1);
        });
        E.edge("18: NONE: on some DAY none is LAWFUL: the first", () ->
            E.due(Edges.parish("py20h0;py40h0;r", "y:y=1?1").moves(1), NONE));
        E.edge("18: NONE: on some DAY none is LAWFUL: one in the midst", () -> {
            AgeRoofs x = Edges.parish("py20h0;py40h0;r", "y:y=9?1");
            E.due(x.moves(8), 0);
            E.due(x.moves(9), NONE);
            E.due(x.moves(10), NONE);
            E.due(x.moves(720), NONE);
        });
        E.edge("18: NONE: on some DAY none is LAWFUL: too few ROOMS", () ->
            E.due(Edges.parish("py1;py2;rm1").moves(1), NONE));
        E.edge("18: DATE goes round in the DAYS", () -> {
            AgeRoofs x = Edges.parish("py20h0;py40h0;r;r", "y:y=1?1");
            x.today(1);
            E.due(x.moves(359), 0);
            E.due(x.moves(360), 1);
        });
    }

    /** The one of 50 clashes in turn with those of 10 and of 20, these two always; who is 99 must live alone. */
    private static AgeRoofs toAndFro(int mover) {
        String[] people = new String[5];
        people[mover] = "py50h0";
        people[(mover + 1) % 5] = "py20h0";
        people[(mover + 2) % 5] = "py10h1";
        people[(mover + 3) % 5] = "py99h2";
        people[(mover + 4) % 5] = "py70h1";
        String law = "y:a=99?1;y:a=50&b=10&y/2*2<y?1;y:a=50&b=20&y/2*2=y?1;y:a=20&b=10?1";
        return Edges.parish(String.join(";", people) + ";rm5;rm5;rm5", law);
    }

    private static void movesToAndFro() {
        E.edge("18: one who must move from DAY to DAY, whichever of five it is", () -> {
            for (int mover = 0; mover < 5; mover++) {
                AgeRoofs x = toAndFro(mover);
                E.due(x.moves(1), 0);
                E.due(x.moves(2), 1);
                E.due(x.moves(3), 2);
                E.due(x.moves(40), 39);
            }
        });
    }

    private static void movesInOneNight() {
        E.edge("18: from one DAY to the next two change places, all others staying", () -> {
            // Who is 99 must live alone on date 1, who is 10 on date 2.
            String law = "y:y=1&a=99?1;y:y=2&b=10?1";
            String others = ";py50h0;py60h0;py70h0;rm5;rm5";
            for (String two : new String[] {"py99h1;py10h0", "py10h0;py99h1"}) {
                AgeRoofs x = Edges.parish(two + others, law);
                E.due(x.moves(1), 0);
                E.due(x.moves(2), 2);
                E.due(x.moves(360), 2);
            }
        });
    }

    private static void movesRefused() {
        E.edge("18: NONE: too many PEOPLE", () ->
            E.due(Edges.parish("py1h0;py2h0;py3h0;py4h0;py5h0;py6h0;rm6").moves(1), NONE));
        E.edge("18: NONE: too many HOUSES", () -> E.due(Edges.parish("ph0;r;r;r;r").moves(1), NONE));
        E.edge("18: NONE: no such DAYS", () -> {
            AgeRoofs x = Edges.parish("ph0;r");
            for (int days : Edges.NO_DAYS) {
                E.due(x.moves(days), NONE);
            }
        });
        E.refused("18: MOVES only counts", () -> Edges.parish("p;p;ph0;ph0;r;r;r"), x -> x.moves(720));
    }

    private static void nightSteps() {
        E.edge("19: 0, if it is that", () -> {
            E.due(Edges.parish("ph0;r").night(0, NONE), 0);
            E.due(Edges.parish("ph1;ph0;r;r").night(4, NONE), 0);
        });
        E.edge("19: 0, if it is that, LAWFUL or not", () -> {
            E.due(Edges.parish("ph0;ph0;r").night(0, NONE), 0);
            E.due(Edges.parish("py1h0;py2h0;rm1").night(0, NONE), 0);
        });
        E.edge("19: one step", () -> {
            AgeRoofs x = Edges.parish("ph0;r;r;r");
            E.due(x.night(2, NONE), 1);
            E.due(x.night(2, 0), 2);
            E.due(x.night(1, 0), 1);
        });
        E.edge("19: LAWFUL behind each step: round by a third HOUSE", () -> {
            AgeRoofs x = Edges.parish("ph0;ph1;r;r;r");
            E.due(x.night(4, NONE), 3);
            E.due(Edges.parish("ph0;ph1;r;r").night(4, NONE), NONE);
            E.due(Edges.parish("py1h0;py2h1;r;r").night(4, NONE), 2);
        });
        E.edge("19: LAWFUL behind each step: ROOMS", () -> {
            E.due(Edges.parish("py1h0;py2h1;rm1;rm1").night(4, NONE), NONE);
            E.due(Edges.parish("py1h0;py2h1;rm1;rm2").night(4, NONE), 2);
            E.due(Edges.parish("py1h0;py2h1;rm1;rm2").night(4, 0), 1);
        });
        E.edge("19: it begins in a LIVING that is not LAWFUL", () -> {
            AgeRoofs x = Edges.parish("ph0;ph0;r;r");
            E.due(x.night(1, NONE), 1);
            E.due(x.night(4, NONE), 1);
            E.due(x.night(5, NONE), NONE);
        });
        E.edge("19: TODAY's clashes", () -> {
            AgeRoofs x = Edges.parish("py20h0;py40h1;r;r", "y:y=2?1");
            E.due(x.night(0, NONE), 1);
            x.today(1);
            E.due(x.night(0, NONE), NONE);
            x.today(2);
            E.due(x.night(0, NONE), 1);
        });
        E.edge("19: all five to another HOUSE of three", () -> {
            AgeRoofs x = Edges.parish("py1h0;py2h0;py3h0;py4h0;py5h0;rm6;rm6;rm6");
            E.due(x.night(682, NONE), 5);
            for (int k = 0; k < 5; k++) {
                E.due(x.night(682, k), 10 * k + 2);
            }
            E.due(x.night(682, 5), NONE);
        });
    }

    private static void nightRows() {
        E.edge("19: the lower PERSON, then HOUSE, where two rows first differ", () -> {
            AgeRoofs x = Edges.parish("ph0;ph1;r;r;r");
            E.due(x.night(4, 0), 2);
            E.due(x.night(4, 1), 10);
            E.due(x.night(4, 2), 1);
            x = Edges.parish("py1h0;py2h0;r;r");
            E.due(x.night(5, 0), 1);
            E.due(x.night(5, 1), 11);
        });
        E.edge("19: a lower PERSON that must go later", () -> {
            // 0 may go to house 1 only when 1 has left it.
            AgeRoofs x = Edges.parish("ph0;ph1;r;r;r");
            E.due(x.night(6, NONE), 2);
            E.due(x.night(6, 0), 12);
            E.due(x.night(6, 1), 1);
        });
        E.edge("19: the k-th: none behind the last, none below 0", () -> {
            AgeRoofs x = Edges.parish("ph0;r;r");
            E.due(x.night(1, 0), 1);
            E.due(x.night(1, 1), NONE);
            E.due(x.night(1, Edges.MOST), NONE);
            E.due(x.night(1, -2), NONE);
            E.due(x.night(1, Edges.LEAST), NONE);
            E.due(x.night(0, 0), NONE);
        });
        E.edge("19: the k-th of a row that can't be", () ->
            E.due(Edges.parish("ph0;ph1;r;r").night(4, 0), NONE));
    }

    private static void nightGoals() {
        E.edge("19: NONE: a HOUSE that is not told", () -> {
            AgeRoofs x = Edges.parish("ph0;py2h0;r;r");
            E.due(x.night(5, NONE), 2);
            E.due(x.night(2, NONE), NONE);
            E.due(x.night(3, NONE), NONE);
            E.due(x.night(8, NONE), NONE);
            E.due(Edges.parish("ph0;r;r;r").night(3, NONE), NONE);
            E.due(Edges.parish("ph0;r").night(1, NONE), NONE);
        });
        E.edge("19: NONE: more digits than PEOPLE", () -> {
            E.due(Edges.parish("ph0;r;r").night(4, NONE), NONE);
            E.due(Edges.parish("ph0;py2h0;r;r").night(16, NONE), NONE);
            E.due(Edges.parish("py1h0;py2h0;py3h0;py4h0;py5h0;rm6;r;r").night(1024, NONE), NONE);
            E.due(Edges.parish("ph0;r;r").night(Edges.MOST, NONE), NONE);
        });
        E.edge("19: NONE: below 0", () -> {
            AgeRoofs x = Edges.parish("ph0;r;r");
            E.due(x.night(-1, NONE), NONE);
            E.due(x.night(-4, NONE), NONE);
            E.due(x.night(Edges.LEAST, NONE), NONE);
            E.due(Edges.parish("py1h0;py2h0;py3h0;py4h0;py5h0;rm6;r;r").night(-1024, NONE), NONE);
        });
        E.edge("19: NONE: a goal that is not LAWFUL", () -> {
            E.due(Edges.parish("ph0;ph1;r;r").night(0, NONE), NONE);
            E.due(Edges.parish("py1h0;py2h1;rm1;rm1").night(0, NONE), NONE);
        });
    }

    private static void nightRefused() {
        E.edge("19: NONE: too many PEOPLE, even if it is that", () ->
            E.due(Edges.parish("py1h0;py2h0;py3h0;py4h0;py5h0;py6h0;rm6").night(0, NONE), NONE));
        E.edge("19: NONE: too many HOUSES, even if it is that", () ->
            E.due(Edges.parish("ph0;r;r;r;r").night(0, NONE), NONE));
        E.edge("19: NONE: not all are housed", () -> {
            E.due(Edges.parish("p;r").night(0, NONE), NONE);
            E.due(Edges.parish("py1h0;py2;r;r").night(1, NONE), NONE);
            E.due(Edges.parish("py1h0;py2;r;r").night(1, 0), NONE);
        });
        E.refused("19: NIGHT only counts", () -> Edges.parish("ph0;ph1;py40h0;r;r;r"), x -> {
            E.due(x.night(16, NONE), 3);
            E.due(x.night(16, 0), 2);
        });
    }

    private static void lodgerDates() {
        E.edge("20: an empty HOUSE: all DATES", () -> {
            AgeRoofs x = Edges.parish("p;rm1");
            E.due(x.lodger(0, 30, 720, 0), 360);
            E.due(x.lodger(0, 30, 720, 1), 1);
            E.due(x.lodger(0, 30, 720, 2), 360);
        });
        E.edge("20: no DATE at all", () -> {
            AgeRoofs x = Edges.parish("ph0;r", "y:1");
            E.due(x.lodger(0, 30, 1, 0), 0);
            E.due(x.lodger(0, 30, 1, 1), NONE);
            E.due(x.lodger(0, 30, 1, 2), 0);
        });
        E.edge("20: DATE 1 alone, DATE 360 alone", () -> {
            // A lodger of 20 years is younger by 10 years less its DATE and 1.
            AgeRoofs x = Edges.parish("ph0;r", "y:x<3600?1;y:x>3600?1");
            E.due(x.lodger(0, 20, 1, 0), 1);
            E.due(x.lodger(0, 20, 1, 1), 1);
            E.due(x.lodger(0, 20, 1, 2), 1);
            x = Edges.parish("pd360h0;r", "y:x<3600?1;y:x>3600?1");
            E.due(x.lodger(0, 20, 1, 0), 1);
            E.due(x.lodger(0, 20, 1, 1), 360);
            E.due(x.lodger(0, 20, 1, 2), 1);
        });
        E.edge("20: the longest row, not going round", () -> {
            // Barred is DATE 101 alone: 100 ahead of it, 259 behind it, 359 if it went round.
            AgeRoofs x = Edges.parish("pd101h0;r", "y:x=3600?1");
            E.due(x.lodger(0, 20, 1, 0), 359);
            E.due(x.lodger(0, 20, 1, 2), 259);
            x = Edges.parish("pd301h0;r", "y:x=3600?1");
            E.due(x.lodger(0, 20, 1, 2), 300);
            x = Edges.parish("pd1h0;r", "y:x=3600?1");
            E.due(x.lodger(0, 20, 1, 1), 2);
            E.due(x.lodger(0, 20, 1, 2), 359);
            x = Edges.parish("pd360h0;r", "y:x=3600?1");
            E.due(x.lodger(0, 20, 1, 2), 359);
        });
        E.edge("20: two rows of one length", () -> {
            AgeRoofs x = Edges.parish("pd180h0;r", "y:x=3600?1;y:x=3601?1");
            E.due(x.lodger(0, 20, 1, 0), 358);
            E.due(x.lodger(0, 20, 1, 2), 179);
        });
        E.edge("20: a HOUSE that is full or too full", () -> {
            E.due(Edges.parish("ph0;rm1").lodger(0, 50, 1, 0), 360);
            E.due(Edges.parish("ph0;ph0;rm1").lodger(0, 50, 1, 0), 360);
        });
    }

    private static void lodgerDays() {
        E.edge("20: YEARS 0 and 99", () -> {
            AgeRoofs x = Edges.parish("py0h0;r", "y:x>99*360-1?1");
            E.due(x.lodger(0, 99, 1, 0), 359);
            E.due(x.lodger(0, 99, 1, 1), 2);
            x = Edges.parish("py0d360h0;r");
            E.due(x.lodger(0, 0, 1, 0), 1);
            E.due(x.lodger(0, 0, 1, 1), 1);
        });
        E.edge("20: born so, whatever TODAY is", () -> {
            AgeRoofs x = Edges.parish("py10h0;r", "y:x=0?1");
            x.today(9999);
            E.due(x.lodger(0, 10, 720, 0), 359);
            E.due(x.lodger(0, 10, 720, 1), 2);
        });
        E.edge("20: not counted in n", () -> {
            E.due(Edges.parish("ph0;r", "y:n=1?1").lodger(0, 50, 1, 0), 0);
            E.due(Edges.parish("ph0;r", "y:n=2?1").lodger(0, 50, 1, 0), 360);
        });
        E.edge("20: the last of the DAYS counts, the next does not", () -> {
            AgeRoofs x = Edges.parish("ph0;r", "y:y=360?1");
            E.due(x.lodger(0, 50, 359, 0), 360);
            E.due(x.lodger(0, 50, 360, 0), 0);
            x = Edges.parish("ph0;r", "y:y=360&a=51?1");
            E.due(x.lodger(0, 50, 719, 0), 360);
            E.due(x.lodger(0, 50, 720, 0), 0);
        });
        E.edge("20: who lives elsewhere or nowhere is not asked", () -> {
            AgeRoofs x = Edges.parish("p;ph1;r;r", "y:1");
            E.due(x.lodger(0, 50, 720, 0), 360);
            E.due(x.lodger(1, 50, 720, 0), 0);
        });
    }

    private static void lodgerRefused() {
        E.edge("20: HIDDEN: no such HOUSE", () -> {
            AgeRoofs x = Edges.parish("ph0;r");
            E.due(x.lodger(1, 30, 1, 0), HIDDEN);
            E.due(x.lodger(-1, 30, 1, 0), HIDDEN);
            for (int house : Edges.NO_SUCH) {
                E.due(x.lodger(house, 30, 1, 1), HIDDEN);
            }
        });
        E.edge("20: HIDDEN: no such YEARS", () -> {
            AgeRoofs x = Edges.parish("ph0;r");
            for (int years : new int[] {-1, 100, HIDDEN, Edges.LEAST, Edges.MOST}) {
                E.due(x.lodger(0, years, 1, 0), HIDDEN);
            }
        });
        E.edge("20: HIDDEN: no such DAYS", () -> {
            AgeRoofs x = Edges.parish("ph0;r");
            for (int days : Edges.NO_DAYS) {
                E.due(x.lodger(0, 30, days, 0), HIDDEN);
            }
        });
        E.edge("20: HIDDEN: no such what", () -> {
            AgeRoofs x = Edges.parish("ph0;r");
            E.due(x.lodger(0, 30, 1, 3), HIDDEN);
            E.due(x.lodger(0, 30, 1, -1), HIDDEN);
            for (int what : Edges.NO_SUCH) {
                E.due(x.lodger(0, 30, 1, what), HIDDEN);
            }
        });
    }
}
