/** Boundary cases of the terms' part 5 and of promises 30 to 39: free rooms, swaps, peaks, needs, guests, twins, images. */
public final class EdgesOfRoomsTest {
    private static final int NONE = Edges.NONE;
    private static final int HIDDEN = Edges.HIDDEN;
    private static final String SIX_AGES = "py1;py2;py3;py4;py5;py6";
    private static final Edges E = new Edges("EdgesOfRoomsTest");

    public static void main(String[] args) {
        free();
        freeRefused();
        till();
        tillRefused();
        swapMay();
        swapRows();
        peak();
        peakRefused();
        wants();
        wantsRefused();
        guests();
        guestsRefused();
        twins();
        twinsRefused();
        image();
        back();
        notOfTheImage();
        count();
        E.finish();
    }

    private static void free() {
        E.edge("30: no HOUSE: no bits", () -> E.due(Edges.parish("p;ph0;ph1;r;r").free(0, 1), 0));
        E.edge("30: all four HOUSES", () -> {
            E.due(Edges.parish("p;r;r;r;r").free(0, 720), 15);
            E.due(Edges.parish("ph2;rm1;rm1;rm1;rm1").free(0, 720), 15);
        });
        E.edge("30: the others there fewer than ROOMS", () -> {
            AgeRoofs x = Edges.parish("py1;py2h0;py3h1;py4h1;rm1;rm2;rm1");
            E.due(x.free(0, 1), 4);
            x.move(3, NONE);
            E.due(x.free(0, 1), 6);
            x.move(1, NONE);
            E.due(x.free(0, 1), 7);
        });
        E.edge("30: where it lives, it itself takes no ROOM from itself", () -> {
            E.due(Edges.parish("py1h0;rm1").free(0, 1), 1);
            E.due(Edges.parish("py1h0;py2h0;rm2").free(0, 1), 1);
            E.due(Edges.parish("py1h0;py2h0;rm1").free(0, 1), 0);
        });
        E.edge("30: on each of these DAYS: the last one counts, the next does not", () -> {
            AgeRoofs x = Edges.parish("py20;py40h0;r;r", "y:y=360?1");
            E.due(x.free(0, 359), 3);
            E.due(x.free(0, 360), 2);
            x = Edges.parish("py20;py40h0;r;r", "y:y=360&a=41?1");
            E.due(x.free(0, 719), 3);
            E.due(x.free(0, 720), 2);
        });
        E.edge("30: one DAY is TODAY alone", () -> {
            AgeRoofs x = Edges.parish("py20;py40h0;r;r", "y:y=10?1");
            x.today(8);
            E.due(x.free(0, 1), 3);
            x.today(9);
            E.due(x.free(0, 1), 2);
            x.today(10);
            E.due(x.free(0, 1), 3);
        });
        E.edge("30: DAYS behind the last TODAY", () -> {
            AgeRoofs x = Edges.parish("py20;py40h0;r;r", "y:y=281?1");
            x.today(9999);
            E.due(x.free(0, 1), 3);
            E.due(x.free(0, 2), 2);
        });
    }

    private static void freeRefused() {
        E.edge("30: NONE: no such PERSON", () -> {
            AgeRoofs x = Edges.parish("p;r");
            E.due(x.free(1, 1), NONE);
            E.due(x.free(-1, 1), NONE);
            for (int person : Edges.NO_SUCH) {
                E.due(x.free(person, 1), NONE);
            }
        });
        E.edge("30: NONE: no such DAYS", () -> {
            AgeRoofs x = Edges.parish("p;r");
            for (int days : Edges.NO_DAYS) {
                E.due(x.free(0, days), NONE);
            }
        });
    }

    private static void till() {
        E.edge("31: 0: it CLASHES TODAY", () -> {
            AgeRoofs x = Edges.parish("ph0;ph0;r");
            E.due(x.till(0), 0);
            E.due(x.till(1), 0);
        });
        E.edge("31: 1: it CLASHES tomorrow", () -> {
            AgeRoofs x = Edges.parish("py20h0;py40h0;r", "y:y=2?1");
            E.due(x.till(0), 1);
        });
        E.edge("31: 719: on the last of 720 DAYS", () -> {
            AgeRoofs x = Edges.parish("py20h0;py40h0;r", "y:y=360&a=41?1");
            E.due(x.till(0), 719);
            E.due(x.till(1), 719);
        });
        E.edge("31: 720: by then not", () -> {
            AgeRoofs x = Edges.parish("py20h0;py40h0;r", "y:y=1&a=42?1");
            E.due(x.till(0), 720);
            x.today(1);
            E.due(x.till(0), 719);
        });
        E.edge("31: 720: alone, or never", () -> {
            E.due(Edges.parish("ph0;p;ph1;r;r").till(0), 720);
            E.due(Edges.parish("ph0;py40h0;r").till(0), 720);
        });
        E.edge("31: a birthday of the one, then of the other, which alone brings a CLASH", () -> {
            AgeRoofs x = Edges.parish("py20d11h0;py20d21h0;r", "y:b=20?1");
            E.due(x.till(0), 20);
            E.due(x.till(1), 20);
            E.due(x.free(0, 20), 1);
            E.due(x.free(0, 21), 0);
        });
        E.edge("31: the first of those with whom it CLASHES", () -> {
            AgeRoofs x = Edges.parish("py20h0;py30h0;py40h0;rm3", "y:y=9&b=20&a=40?1;y:y=5&b=20&a=30?1;y:y=2&b=30?1");
            E.due(x.till(0), 4);
            E.due(x.till(1), 1);
            E.due(x.till(2), 1);
        });
        E.edge("31: ROOMS drive nobody out", () -> E.due(Edges.parish("ph0;py40h0;rm1").till(0), 720));
        E.edge("31: from the last TODAY on", () -> {
            AgeRoofs x = Edges.parish("py20h0;py40h0;r", "y:y=279?1");
            x.today(9999);
            E.due(x.till(0), 359);
        });
    }

    private static void tillRefused() {
        E.edge("31: NONE: it lives nowhere", () -> {
            AgeRoofs x = Edges.parish("p;ph0;r");
            E.due(x.till(0), NONE);
            x.move(1, NONE);
            E.due(x.till(1), NONE);
        });
        E.edge("31: NONE: no such one", () -> {
            AgeRoofs x = Edges.parish("ph0;r");
            E.due(x.till(1), NONE);
            E.due(x.till(-1), NONE);
            for (int person : Edges.NO_SUCH) {
                E.due(x.till(person), NONE);
            }
        });
    }

    private static void swapMay() {
        E.edge("32: both housed", () -> {
            E.due(Edges.parish("p;ph0;r;r").swap(NONE), 0);
            E.due(Edges.parish("ph0;p;r;r").swap(NONE), 0);
            E.due(Edges.parish("p;p;r;r").swap(NONE), 0);
        });
        E.edge("32: in unlike HOUSES", () -> E.due(Edges.parish("py20h0;py30h0;r;r").swap(NONE), 0));
        E.edge("32: the one who goes is not in the way: of one age with who comes, in the one ROOM", () -> {
            AgeRoofs x = Edges.parish("ph0;ph1;rm1;rm1");
            E.due(x.swap(NONE), 1);
            E.due(x.swap(0), 1);
        });
        E.edge("32: both MAY: one of them CLASHES there", () -> {
            // 2 is of 0's age and stays with 1.
            E.due(Edges.parish("py20h0;py30h1;py20h1;r;r").swap(NONE), 1);
            E.due(Edges.parish("py20h0;py30h1;py20h1;r;r").swap(0), 2);
        });
        E.edge("32: both MAY: the lower one CLASHES there, or the other one", () -> {
            // 0 and 2 clash, so that 0 can't go to 2's house with another one, nor 2 to 0's.
            AgeRoofs x = Edges.parish("py20h0;py30h1;py20d9h1;py50h0;r;r", "y:x=8?1");
            E.due(x.swap(NONE), 2);
            E.due(x.swap(0), 2);
            E.due(x.swap(1), 13);
            x = Edges.parish("py30h0;py20d9h0;py20h1;py50h1;r;r", "y:x=8?1");
            E.due(x.swap(NONE), 2);
            E.due(x.swap(0), 3);
            E.due(x.swap(1), 12);
        });
        E.edge("32: both MAY: the others fewer than ROOMS", () -> {
            E.due(Edges.parish("py1h0;py2h1;py3h1;rm1;rm2").swap(NONE), 2);
            E.due(Edges.parish("py1h0;py2h1;py3h1;rm1;rm1").swap(NONE), 0);
        });
        E.edge("32: TODAY", () -> {
            AgeRoofs x = Edges.parish("py20h0;py30h1;py40h1;r;r", "y:y=2?1");
            E.due(x.swap(NONE), 2);
            x.today(1);
            E.due(x.swap(NONE), 0);
            x.today(2);
            E.due(x.swap(NONE), 2);
            x = Edges.parish("py20h0;py30h0;py40h1;r;r", "y:y=2?1");
            E.due(x.swap(NONE), 2);
            x.today(1);
            E.due(x.swap(NONE), 0);
        });
        E.refused("32: SWAP changes no HOUSES", () -> Edges.parish("ph0;ph1;r;r"), x -> x.swap(0));
    }

    private static void swapRows() {
        E.edge("32: rising, the lower first", () -> {
            AgeRoofs x = Edges.parish("py1h0;py2h1;py3h0;py4h1;r;r");
            int[] want = {1, 3, 12, 23};
            E.due(x.swap(NONE), 4);
            for (int i = 0; i < 4; i++) {
                E.due(x.swap(i), want[i]);
            }
        });
        E.edge("32: as many pairs as can be", () -> {
            AgeRoofs x = Edges.parish("py1h0;py2h0;py3h1;py4h1;py5h2;py6h3;r;r;r;r");
            E.due(x.swap(NONE), 13);
            E.due(x.swap(12), 45);
            E.due(x.swap(13), NONE);
        });
        E.edge("32: NONE: no such one", () -> {
            AgeRoofs x = Edges.parish("ph0;ph1;r;r");
            E.due(x.swap(1), NONE);
            E.due(x.swap(Edges.MOST), NONE);
            E.due(x.swap(-2), NONE);
            E.due(x.swap(Edges.LEAST), NONE);
            E.due(Edges.parish("p;r").swap(0), NONE);
        });
        E.edge("32: NONE: no PARISH", () -> {
            E.due(new AgeRoofs().swap(NONE), NONE);
            E.due(new AgeRoofs().swap(0), NONE);
        });
    }

    private static void peak() {
        E.edge("33: one PERSON alone: TODAY, no pairs", () -> {
            AgeRoofs x = Edges.parish("p;r");
            x.today(7);
            E.due(x.peak(720, 0), 7);
            E.due(x.peak(720, 1), 0);
        });
        E.edge("33: all fifteen pairs", () -> E.due(Edges.parish("p;p;p;p;p;p;r").peak(720, 1), 15));
        E.edge("33: the first on which most pairs CLASH", () -> {
            AgeRoofs x = Edges.parish("py20;py40;py60;r", "y:y=5&x=7200?1;y:y=3&b=20?1;y:y=9&b=40?1");
            E.due(x.peak(2, 0), 0);
            E.due(x.peak(3, 0), 2);
            E.due(x.peak(720, 0), 2);
            E.due(x.peak(720, 1), 2);
            x.today(3);
            E.due(x.peak(10, 0), 4);
            E.due(x.peak(10, 1), 2);
            x.today(5);
            E.due(x.peak(10, 0), 8);
            E.due(x.peak(10, 1), 1);
        });
        E.edge("33: the last of the DAYS counts, the next does not", () -> {
            AgeRoofs x = Edges.parish("py20;py40;r", "y:y=360?1");
            E.due(x.peak(359, 0), 0);
            E.due(x.peak(359, 1), 0);
            E.due(x.peak(360, 0), 359);
            E.due(x.peak(360, 1), 1);
            x = Edges.parish("py20;py40;r", "y:y=360&a=41?1");
            E.due(x.peak(719, 1), 0);
            E.due(x.peak(720, 0), 719);
        });
        E.edge("33: a DAY behind the last TODAY", () -> {
            AgeRoofs x = Edges.parish("py20;py40;r", "y:y=281?1");
            x.today(9999);
            E.due(x.peak(1, 0), 9999);
            E.due(x.peak(2, 0), 10000);
        });
        E.edge("33: pairs of those who live nowhere or apart count, too", () ->
            E.due(Edges.parish("p;ph0;ph1;r;r").peak(1, 1), 3));
    }

    private static void peakRefused() {
        E.edge("33: NONE: no such DAYS", () -> {
            AgeRoofs x = Edges.parish("p;p;r");
            for (int days : Edges.NO_DAYS) {
                E.due(x.peak(days, 0), NONE);
                E.due(x.peak(days, 1), NONE);
            }
        });
        E.edge("33: NONE: no such what", () -> {
            AgeRoofs x = Edges.parish("p;p;r");
            E.due(x.peak(1, 2), NONE);
            E.due(x.peak(1, -1), NONE);
            for (int what : Edges.NO_SUCH) {
                E.due(x.peak(1, what), NONE);
            }
        });
        E.edge("33: NONE: no PARISH", () -> {
            E.due(new AgeRoofs().peak(1, 0), NONE);
            E.due(new AgeRoofs().peak(1, 1), NONE);
        });
    }

    private static void wants() {
        E.edge("34: one PERSON: one ROOM, in any number of HOUSES", () -> {
            for (int houses = 1; houses <= 6; houses++) {
                E.due(Edges.parish("p;r").wants(720, houses), 1);
            }
        });
        E.edge("34: one HOUSE for six who never clash: six ROOMS", () ->
            E.due(Edges.parish(SIX_AGES + ";rm1").wants(720, 1), 6));
        E.edge("34: six who never clash in 1 .. 6 HOUSES", () -> {
            int[] want = {6, 3, 2, 2, 2, 1};
            for (int houses = 1; houses <= 6; houses++) {
                E.due(Edges.parish(SIX_AGES + ";r").wants(1, houses), want[houses - 1]);
            }
        });
        E.edge("34: six HOUSES for six of one age; five can't be", () -> {
            AgeRoofs x = Edges.parish("p;p;p;p;p;p;r");
            E.due(x.wants(720, 6), 1);
            E.due(x.wants(720, 5), NONE);
            E.due(x.wants(1, 1), NONE);
        });
        E.edge("34: clashes ask for more ROOMS than an even share", () -> {
            // 0 clashes with all others, so that they share one house.
            AgeRoofs x = Edges.parish("py50;py20;py21;py22;r", "y:a=50?1");
            E.due(x.wants(1, 2), 3);
            E.due(x.wants(1, 3), 2);
        });
        E.edge("34: on any of these DAYS: the last one counts, the next does not", () -> {
            AgeRoofs x = Edges.parish("py20;py40;r", "y:y=360?1");
            E.due(x.wants(359, 1), 2);
            E.due(x.wants(360, 1), NONE);
            E.due(x.wants(360, 2), 1);
        });
    }

    private static void wantsRefused() {
        E.edge("34: NONE: no such HOUSES (1 .. 6)", () -> {
            AgeRoofs x = Edges.parish("p;r");
            for (int houses : new int[] {0, -1, 7, HIDDEN, Edges.LEAST, Edges.MOST}) {
                E.due(x.wants(1, houses), NONE);
            }
        });
        E.edge("34: NONE: no such DAYS", () -> {
            AgeRoofs x = Edges.parish("p;r");
            for (int days : Edges.NO_DAYS) {
                E.due(x.wants(days, 1), NONE);
            }
        });
        E.edge("34: NONE: no PARISH", () -> E.due(new AgeRoofs().wants(1, 6), NONE));
    }

    private static void guests() {
        E.edge("35: one PERSON alone", () -> {
            AgeRoofs x = Edges.parish("p;rm1");
            E.due(x.guests(0, 720, 0), 1);
            E.due(x.guests(0, 720, 1), 1);
        });
        E.edge("35: all six in six ROOMS", () -> {
            AgeRoofs x = Edges.parish(SIX_AGES + ";r;r;r;rm6");
            E.due(x.guests(3, 720, 0), 6);
            E.due(x.guests(3, 720, 1), 63);
        });
        E.edge("35: within its ROOMS", () -> {
            for (int rooms = 1; rooms <= 6; rooms++) {
                AgeRoofs x = Edges.parish(SIX_AGES + ";rm" + rooms);
                E.due(x.guests(0, 1, 0), rooms);
                E.due(x.guests(0, 1, 1), (1 << rooms) - 1);
            }
        });
        E.edge("35: six of one age: the lowest alone", () -> {
            AgeRoofs x = Edges.parish("p;p;p;p;p;p;rm6");
            E.due(x.guests(0, 1, 0), 1);
            E.due(x.guests(0, 1, 1), 1);
        });
        E.edge("35: of several sets that with the lower one where two first differ", () -> {
            E.due(Edges.parish("py20;py30;py30;py20;rm2").guests(0, 1, 1), 3);
            E.due(Edges.parish("py30;py29;py31;py50;rm2", "y:x=360?1").guests(0, 1, 1), 9);
            E.due(Edges.parish("py20;py20;py30;py20;rm3").guests(0, 1, 1), 5);
        });
        E.edge("35: more of them ahead of lower ones", () -> {
            AgeRoofs x = Edges.parish("py50;py20;py21;py22;rm6", "y:a=50?1");
            E.due(x.guests(0, 1, 0), 3);
            E.due(x.guests(0, 1, 1), 14);
        });
        E.edge("35: all PEOPLE, wherever they live", () -> {
            AgeRoofs x = Edges.parish("py1h1;py2h0;py3;rm3;r");
            E.due(x.guests(0, 1, 1), 7);
        });
        E.edge("35: so many DAYS together: the last one counts, the next does not", () -> {
            AgeRoofs x = Edges.parish("py20;py40;r", "y:y=360?1");
            E.due(x.guests(0, 359, 0), 2);
            E.due(x.guests(0, 360, 0), 1);
        });
    }

    private static void guestsRefused() {
        E.edge("35: NONE: no such HOUSE", () -> {
            AgeRoofs x = Edges.parish("p;r");
            E.due(x.guests(1, 1, 0), NONE);
            E.due(x.guests(-1, 1, 1), NONE);
            for (int house : Edges.NO_SUCH) {
                E.due(x.guests(house, 1, 0), NONE);
            }
        });
        E.edge("35: NONE: no such DAYS", () -> {
            AgeRoofs x = Edges.parish("p;r");
            for (int days : Edges.NO_DAYS) {
                E.due(x.guests(0, days, 0), NONE);
                E.due(x.guests(0, days, 1), NONE);
            }
        });
        E.edge("35: NONE: no such what", () -> {
            AgeRoofs x = Edges.parish("p;r");
            E.due(x.guests(0, 1, 2), NONE);
            E.due(x.guests(0, 1, -1), NONE);
            for (int what : Edges.NO_SUCH) {
                E.due(x.guests(0, 1, what), NONE);
            }
        });
    }

    private static void twins() {
        E.edge("36: two PEOPLE", () -> {
            AgeRoofs x = Edges.parish("py99d1;py0d360;r");
            E.due(x.twins(0), 1);
            E.due(x.twins(1), 35999);
        });
        E.edge("36: born on one DAY: 0 DAYS apart", () -> {
            AgeRoofs x = Edges.parish("py1;py50;py2;py50;r");
            E.due(x.twins(0), 13);
            E.due(x.twins(1), 0);
        });
        E.edge("36: of several the lowest first one, then other one", () -> {
            E.due(Edges.parish("p;p;p;p;p;p;r").twins(0), 1);
            E.due(Edges.parish("py20;py30;py40;py30d2;py20d2;r").twins(0), 4);
            E.due(Edges.parish("pd10;pd30;pd20;pd40;r").twins(0), 2);
        });
        E.edge("36: births, not DATES: the year goes round", () -> {
            AgeRoofs x = Edges.parish("py20d1;py21d360;py20d11;r");
            E.due(x.twins(0), 1);
            E.due(x.twins(1), 1);
        });
        E.edge("36: the last pair", () -> E.due(Edges.parish("py1;py3;py5;py7;py9;py9d9;r").twins(0), 45));
        E.edge("36: births of those who were born later, too", () -> {
            AgeRoofs x = Edges.parish("py50;py70;r");
            x.risk(100);
            x.days(359);
            E.due(x.twins(1), 0);
        });
    }

    private static void twinsRefused() {
        E.edge("36: NONE: one PERSON alone", () -> {
            AgeRoofs x = Edges.parish("p;r");
            E.due(x.twins(0), NONE);
            E.due(x.twins(1), NONE);
        });
        E.edge("36: NONE: no such what", () -> {
            AgeRoofs x = Edges.parish("p;p;r");
            E.due(x.twins(2), NONE);
            E.due(x.twins(-1), NONE);
            for (int what : Edges.NO_SUCH) {
                E.due(x.twins(what), NONE);
            }
        });
        E.edge("36: NONE: no PARISH", () -> {
            E.due(new AgeRoofs().twins(0), NONE);
            E.due(new AgeRoofs().twins(1), NONE);
        });
    }

    private static void image() {
        E.edge("37: TODAY, first and last", () -> {
            AgeRoofs x = Edges.parish("p;r");
            E.due(x.image(), 0);
            x.today(9999);
            E.due(x.image(), 9999);
        });
        E.edge("37: instead of the one ahead", () -> {
            AgeRoofs x = Edges.parish("p;r");
            x.image();
            x.today(3);
            x.move(0, 0);
            x.image();
            x.today(4);
            x.move(0, NONE);
            E.due(x.back(), 3);
            E.due(x.person(0, 2), 0);
            E.due(x.back(), 3);
        });
        E.edge("37: NONE: no PARISH", () -> {
            AgeRoofs x = new AgeRoofs();
            E.due(x.image(), NONE);
            Edges.put(x, "p;r");
            x.text(0);
            E.due(x.back(), NONE);
        });
        E.refused("37: an IMAGE alone changes nothing", () -> {
            AgeRoofs x = Edges.parish("p;py20h0;r");
            x.image();
            return x;
        }, x -> E.due(x.image(), 0));
    }

    private static AgeRoofs imaged() {
        AgeRoofs x = Edges.parish("py20h0;py30h1;py40;p;p;p;r;r");
        x.risk(50);
        x.seed(8L);
        x.days(400);
        x.image();
        return x;
    }

    private static void back() {
        E.edge("38: TODAY is so again", () -> {
            AgeRoofs x = imaged();
            x.today(9999);
            E.due(x.back(), 400);
            E.due(x.count(4), 400);
        });
        E.edge("38: the LIVING is so again, of each PERSON", () -> {
            AgeRoofs x = imaged();
            int[] homes = new int[6];
            for (int person = 0; person < 6; person++) {
                homes[person] = x.person(person, 2);
                x.move(person, homes[person] == 0 ? 1 : 0);
            }
            x.back();
            for (int person = 0; person < 6; person++) {
                E.due(x.person(person, 2), homes[person]);
            }
        });
        E.edge("38: births, DEAD and MOVED are so again", () -> {
            AgeRoofs x = imaged();
            int[] births = new int[6];
            for (int person = 0; person < 6; person++) {
                births[person] = x.person(person, 3);
            }
            int moved = x.count(6);
            int dead = x.count(7);
            x.risk(100);
            x.days(720);
            E.due(x.count(7), dead + 12);
            x.back();
            for (int person = 0; person < 6; person++) {
                E.due(x.person(person, 3), births[person]);
            }
            E.due(x.count(6), moved);
            E.due(x.count(7), dead);
        });
        E.edge("38: draws are so again", () -> {
            AgeRoofs x = imaged();
            x.days(720);
            int[] births = new int[6];
            for (int person = 0; person < 6; person++) {
                births[person] = x.person(person, 3);
            }
            x.seed(99L);
            x.back();
            x.days(720);
            for (int person = 0; person < 6; person++) {
                E.due(x.person(person, 3), births[person]);
            }
        });
        E.edge("38: BACK twice, and at once", () -> {
            AgeRoofs x = imaged();
            E.due(x.back(), 400);
            x.days(1);
            E.due(x.back(), 400);
            E.due(x.back(), 400);
        });
        E.refused("38: NONE: no IMAGE", () -> {
            AgeRoofs x = Edges.parish("p;py20h0;r");
            x.today(30);
            return x;
        }, x -> E.due(x.back(), NONE));
        E.edge("38: NONE: no IMAGE of this PARISH", () -> {
            AgeRoofs x = imaged();
            Edges.put(x, "p;r");
            x.text(0);
            E.due(x.back(), NONE);
            E.due(x.count(4), 0);
            E.due(x.image(), 0);
            E.due(x.back(), 0);
        });
        E.edge("38: a text that is refused leaves the IMAGE", () -> {
            AgeRoofs x = imaged();
            Edges.put(x, "p;x");
            x.text(0);
            E.due(x.back(), 400);
        });
    }

    private static void notOfTheImage() {
        E.edge("38: SAID is not of the IMAGE", () -> {
            AgeRoofs x = imaged();
            x.say(0, 0);
            x.back();
            E.due(x.count(5), 1);
        });
        E.edge("38: WORTHS are not of the IMAGE", () -> {
            AgeRoofs x = Edges.parish("p;rc0");
            x.image();
            x.worth(0, 0, 7);
            x.back();
            E.due(x.best(0), 7);
        });
        E.edge("38: the LAW that holds is not of the IMAGE", () -> {
            AgeRoofs x = Edges.parish("p;p;r", "y:0");
            x.image();
            x.law(NONE);
            x.back();
            E.due(x.clash(0, 1, 0), 1);
        });
        E.edge("38: RISK is not of the IMAGE", () -> {
            AgeRoofs x = Edges.parish("p;r");
            x.image();
            x.risk(100);
            x.back();
            x.days(359);
            E.due(x.count(7), 1);
        });
        E.edge("38: TAPE and LAWS are not of the IMAGE", () -> {
            AgeRoofs x = Edges.parish("p;r");
            x.image();
            Edges.tell(x, "y:1");
            Edges.put(x, "abc");
            x.back();
            E.due(x.count(2), 1);
            E.due(x.count(3), 3);
        });
    }

    private static void count() {
        E.edge("39: the most PEOPLE, HOUSES, LAWS, bytes, TODAY, SAID, of whom all live nowhere", () -> {
            AgeRoofs x = Edges.parish("p;p;p;p;p;p;r;r;r;r");
            for (int k = 0; k < 4; k++) {
                Edges.tell(x, "y:1");
            }
            Edges.put(x, Edges.times("p", 160));
            x.today(9999);
            for (int k = 0; k < 20; k++) {
                x.say(0, 0);
            }
            int[] want = {6, 4, 4, 160, 9999, 20, 0, 0, 6};
            for (int what = 0; what <= 8; what++) {
                E.due(x.count(what), want[what]);
            }
        });
        E.edge("39: the fewest", () -> {
            AgeRoofs x = Edges.parish("ph0;r");
            int[] want = {1, 1, 0, 0, 0, 0, 0, 0, 0};
            for (int what = 0; what <= 8; what++) {
                E.due(x.count(what), want[what]);
            }
        });
        E.edge("39: MOVED and DEAD", () -> {
            AgeRoofs x = Edges.parish("py1;py2;r");
            x.risk(100);
            x.days(720);
            E.due(x.count(7), 4);
            E.due(x.count(6) >= 2 ? 1 : 0, 1);
        });
        E.edge("39: HIDDEN for others", () -> {
            for (int what : new int[] {9, 10, -1, -2, HIDDEN, Edges.LEAST, Edges.MOST}) {
                E.due(Edges.parish("p;r").count(what), HIDDEN);
                E.due(new AgeRoofs().count(what), HIDDEN);
            }
        });
        E.edge("the constants", () -> {
            E.due(AgeRoofs.NONE, -1);
            E.due(AgeRoofs.HIDDEN, -1000000);
        });
    }
}
