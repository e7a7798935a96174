/** Boundary cases of the terms' part 4 and of promises 21 to 29: what is said and known, worths, turns, days that go on. */
public final class EdgesOfWishesTest {
    private static final int NONE = Edges.NONE;
    private static final int HIDDEN = Edges.HIDDEN;
    private static final Edges E = new Edges("EdgesOfWishesTest");

    public static void main(String[] args) {
        say();
        knownDates();
        knownSaid();
        knownRefused();
        worth();
        ratherGain();
        ratherMay();
        turn();
        bestSum();
        bestLiving();
        risk();
        seed();
        daysBounds();
        birthdays();
        birthdayMoves();
        homeless();
        deaths();
        draws();
        E.finish();
    }

    private static void say() {
        E.edge("21: how many there are, from 1 to 20", () -> {
            AgeRoofs x = Edges.parish("p;p;r");
            for (int k = 1; k <= 20; k++) {
                E.due(x.say(k % 2, k), k);
                E.due(x.count(5), k);
            }
        });
        E.edge("21: NONE: there are 20", () -> {
            AgeRoofs x = Edges.parish("p;p;r");
            for (int k = 1; k <= 20; k++) {
                x.say(0, 0);
            }
            E.due(x.say(1, 0), NONE);
            E.due(x.count(5), 20);
        });
        E.edge("21: DAY 0 and DAY 9,999, whatever TODAY is", () -> {
            AgeRoofs x = Edges.parish("p;r");
            x.today(500);
            E.due(x.say(0, 0), 1);
            E.due(x.say(0, 9999), 2);
        });
        E.edge("21: the same twice counts twice", () -> {
            AgeRoofs x = Edges.parish("p;r");
            x.say(0, 7);
            E.due(x.say(0, 7), 2);
        });
        E.refused("21: NONE: no such DAY", () -> Edges.parish("p;p;r"), x -> {
            for (int day : new int[] {-1, 10000, HIDDEN, Edges.LEAST, Edges.MOST}) {
                E.due(x.say(0, day), NONE);
            }
        });
        E.refused("21: NONE: no such PERSON", () -> Edges.parish("p;p;r"), x -> {
            E.due(x.say(2, 0), NONE);
            E.due(x.say(-1, 0), NONE);
            for (int person : Edges.NO_SUCH) {
                E.due(x.say(person, 0), NONE);
            }
        });
    }

    private static void knownDates() {
        E.edge("22: nothing SAID: DATES 1 .. 360", () -> {
            AgeRoofs x = Edges.parish("p;r", "y:1");
            E.due(x.known(30, 0), 360);
            E.due(x.known(30, 1), 1);
            E.due(x.known(30, 2), 360);
        });
        E.edge("22: no DATE: 0, NONE, NONE", () -> {
            AgeRoofs x = Edges.parish("p;r", "y:1");
            x.say(0, 0);
            E.due(x.known(30, 0), 0);
            E.due(x.known(30, 1), NONE);
            E.due(x.known(30, 2), NONE);
        });
        E.edge("22: DATE 1 alone", () -> {
            AgeRoofs x = Edges.parish("p;r", "y:x<3600|x>3600?1");
            x.say(0, 0);
            E.due(x.known(40, 0), 1);
            E.due(x.known(40, 1), 1);
            E.due(x.known(40, 2), 1);
        });
        E.edge("22: DATE 360 alone", () -> {
            AgeRoofs x = Edges.parish("pd360;r", "y:x<3600|x>3600?1");
            x.say(0, 0);
            E.due(x.known(40, 0), 1);
            E.due(x.known(40, 1), 360);
            E.due(x.known(40, 2), 360);
        });
        E.edge("22: all but DATE 1, all but DATE 360", () -> {
            AgeRoofs x = Edges.parish("p;pd360;r", "y:x=3600?1");
            x.say(0, 0);
            E.due(x.known(40, 0), 359);
            E.due(x.known(40, 1), 2);
            E.due(x.known(40, 2), 360);
            x.say(1, 0);
            E.due(x.known(40, 0), 358);
            E.due(x.known(40, 2), 359);
        });
        E.edge("22: YEARS 0 and 99", () -> {
            AgeRoofs x = Edges.parish("py0;py99;r", "y:x=0?1");
            x.say(0, 0);
            E.due(x.known(0, 0), 359);
            E.due(x.known(99, 0), 360);
            x.say(1, 0);
            E.due(x.known(99, 1), 2);
        });
    }

    private static void knownSaid() {
        E.edge("22: all SAID: the first and the twentieth", () -> {
            AgeRoofs x = Edges.parish("pd5;pd6;pd7;r", "y:x=3600?1");
            x.say(0, 0);
            for (int k = 2; k <= 19; k++) {
                x.say(1, 0);
            }
            E.due(x.known(40, 0), 358);
            x.say(2, 0);
            E.due(x.known(40, 0), 357);
        });
        E.edge("22: what was refused as a twenty-first is not SAID", () -> {
            AgeRoofs x = Edges.parish("pd5;pd6;r", "y:x=3600?1");
            for (int k = 1; k <= 20; k++) {
                x.say(0, 0);
            }
            x.say(1, 0);
            E.due(x.known(40, 0), 359);
        });
        E.edge("22: on the DAY told: 0 and 9,999", () -> {
            AgeRoofs x = Edges.parish("p;r", "y:y=280?1");
            x.say(0, 0);
            E.due(x.known(40, 0), 360);
            x.say(0, 9999);
            E.due(x.known(40, 0), 0);
        });
        E.edge("22: ROOMS and where they live are not asked", () -> {
            AgeRoofs x = Edges.parish("p;py20h0;rm1");
            x.say(0, 0);
            E.due(x.known(50, 0), 360);
        });
        E.edge("22: of one age with nobody on that DAY", () -> {
            // PERSON 0 is 30 from day 0 on; who was told of 30 years is 29 on day 0, but for DATE 1.
            AgeRoofs x = Edges.parish("p;r");
            x.say(0, 0);
            E.due(x.known(30, 0), 359);
            E.due(x.known(30, 1), 2);
            E.due(x.known(31, 0), 1);
            E.due(x.known(31, 2), 1);
        });
        E.edge("22: a new PARISH: nothing SAID", () -> {
            AgeRoofs x = Edges.parish("p;r");
            x.say(0, 0);
            Edges.put(x, "p;r");
            x.text(0);
            E.due(x.known(30, 0), 360);
        });
    }

    private static void knownRefused() {
        E.edge("22: HIDDEN: no such ones (years 0 .. 99)", () -> {
            AgeRoofs x = Edges.parish("p;r");
            E.due(x.known(0, 0), 360);
            E.due(x.known(99, 0), 360);
            for (int years : new int[] {-1, 100, HIDDEN, Edges.LEAST, Edges.MOST}) {
                for (int what = 0; what <= 2; what++) {
                    E.due(x.known(years, what), HIDDEN);
                }
            }
        });
        E.edge("22: HIDDEN: no such what", () -> {
            AgeRoofs x = Edges.parish("p;r");
            E.due(x.known(30, 3), HIDDEN);
            E.due(x.known(30, -1), HIDDEN);
            for (int what : Edges.NO_SUCH) {
                E.due(x.known(30, what), HIDDEN);
            }
        });
    }

    private static void worth() {
        E.edge("23: 0 at first", () -> E.due(Edges.parish("p;rc0").best(0), 0));
        E.edge("23: 0 .. 99", () -> {
            AgeRoofs x = Edges.parish("p;rc0");
            E.due(x.worth(0, 0, 99), true);
            E.due(x.best(0), 99);
            E.due(x.worth(0, 0, 1), true);
            E.due(x.best(0), 1);
            E.due(x.worth(0, 0, 0), true);
            E.due(x.best(0), 0);
        });
        E.edge("23: of each PERSON for each HOUSE its own", () -> {
            AgeRoofs x = Edges.parish("py1;py2;py3;py4;py5;py6;rc0;rc0;rc0;rc0");
            for (int k = 0; k < 24; k++) {
                E.due(x.worth(k / 4, k % 4, k + 1), true);
            }
            for (int k = 0; k < 24; k++) {
                x.worth(k / 4, k % 4, 99);
                E.due(x.rather(k / 4), k % 4);
                x.worth(k / 4, k % 4, 0);
            }
        });
        E.refused("23: False: out of bounds", () -> {
            AgeRoofs x = Edges.parish("p;rc0;rc0");
            x.worth(0, 1, 50);
            return x;
        }, x -> {
            for (int v : new int[] {-1, 100, HIDDEN, Edges.LEAST, Edges.MOST}) {
                E.due(x.worth(0, 0, v), false);
                E.due(x.worth(0, 1, v), false);
            }
        });
        E.refused("23: False: no such ones", () -> Edges.parish("p;py20;rc0;rc0"), x -> {
            E.due(x.worth(2, 0, 99), false);
            E.due(x.worth(-1, 0, 99), false);
            E.due(x.worth(0, 2, 99), false);
            E.due(x.worth(0, -1, 99), false);
            for (int no : Edges.NO_SUCH) {
                E.due(x.worth(no, 0, 99), false);
                E.due(x.worth(0, no, 99), false);
            }
        });
    }

    private static void ratherGain() {
        E.edge("24: more than where it lives: none is 0", () -> {
            AgeRoofs x = Edges.parish("p;rc10");
            x.worth(0, 0, 9);
            E.due(x.rather(0), NONE);
            x.worth(0, 0, 10);
            E.due(x.rather(0), NONE);
            x.worth(0, 0, 11);
            E.due(x.rather(0), 0);
        });
        E.edge("24: more than where it lives: as much is not more", () -> {
            AgeRoofs x = Edges.parish("ph1;rc10;rc10");
            x.worth(0, 1, 30);
            x.worth(0, 0, 30);
            E.due(x.rather(0), NONE);
            x.worth(0, 0, 31);
            E.due(x.rather(0), 0);
        });
        E.edge("24: more than where it lives, below 0", () -> {
            AgeRoofs x = Edges.parish("ph0;rc99;rc98;rc99");
            E.due(x.rather(0), 1);
            x.move(0, 1);
            E.due(x.rather(0), NONE);
        });
        E.edge("24: of several the lowest", () -> {
            AgeRoofs x = Edges.parish("p;rc5;rc0;rc0;rc0");
            x.worth(0, 0, 5);
            x.worth(0, 1, 9);
            x.worth(0, 2, 9);
            x.worth(0, 3, 9);
            E.due(x.rather(0), 1);
        });
        E.edge("24: the greatest, behind a lower one that is less", () -> {
            AgeRoofs x = Edges.parish("p;rc0;rc0;rc0;rc0");
            for (int house = 0; house < 4; house++) {
                x.worth(0, house, 10 + house);
                E.due(x.rather(0), house);
            }
        });
        E.edge("24: NONE: no such PERSON", () -> {
            AgeRoofs x = Edges.parish("p;rc0");
            x.worth(0, 0, 9);
            E.due(x.rather(1), NONE);
            E.due(x.rather(-1), NONE);
            for (int person : Edges.NO_SUCH) {
                E.due(x.rather(person), NONE);
            }
        });
    }

    private static void ratherMay() {
        E.edge("24: it MAY: others fewer than ROOMS", () -> {
            AgeRoofs x = Edges.parish("py1;py2h0;py3h0;rm2c0;rc0");
            x.worth(0, 0, 9);
            E.due(x.rather(0), NONE);
            x.move(2, 1);
            E.due(x.rather(0), 0);
        });
        E.edge("24: it MAY: a HOUSE of one ROOM", () -> {
            AgeRoofs x = Edges.parish("py1;py2;rm1c0");
            x.worth(0, 0, 9);
            E.due(x.rather(0), 0);
            x.move(1, 0);
            E.due(x.rather(0), NONE);
        });
        E.edge("24: it MAY: it CLASHES with none of the others there TODAY", () -> {
            AgeRoofs x = Edges.parish("py20d2;py20h0;rc0");
            x.worth(0, 0, 9);
            E.due(x.rather(0), 0);
            x.today(1);
            E.due(x.rather(0), NONE);
            x.today(360);
            E.due(x.rather(0), 0);
        });
        E.edge("24: the next best where it MAY", () -> {
            AgeRoofs x = Edges.parish("p;ph0;rc0;rc0");
            x.worth(0, 0, 99);
            x.worth(0, 1, 1);
            E.due(x.rather(0), 1);
        });
        E.edge("24: it clashes where it lives: that drives nobody out", () -> {
            AgeRoofs x = Edges.parish("ph0;ph0;r;r");
            E.due(x.rather(0), NONE);
        });
    }

    private static void turn() {
        E.edge("25: nobody moves: 0", () -> E.due(Edges.parish("p;ph0;r").turn(), 0));
        E.edge("25: PERSON 0 first", () -> {
            AgeRoofs x = Edges.parish("py1;py2;rm1c0");
            x.worth(0, 0, 1);
            x.worth(1, 0, 99);
            E.due(x.turn(), 1);
            E.due(x.house(0, 3), 1);
        });
        E.edge("25: the last PERSON, too", () -> {
            AgeRoofs x = Edges.parish("py1;py2;py3;py4;py5;py6;rm6c0");
            for (int person = 0; person < 6; person++) {
                x.worth(person, 0, 1);
            }
            E.due(x.turn(), 6);
            E.due(x.house(0, 3), 63);
        });
        E.edge("25: round and round: till a whole round moves none", () -> {
            // 1 leaves house 0 behind 0's turn, so that 0 comes in on the second round.
            AgeRoofs x = Edges.parish("py1;py2h0;rm1c0;rm1c0");
            x.worth(0, 0, 5);
            x.worth(1, 1, 5);
            E.due(x.turn(), 2);
            E.due(x.person(0, 2), 0);
            E.due(x.person(1, 2), 1);
        });
        E.edge("25: three rounds", () -> {
            AgeRoofs x = Edges.parish("py1;py2h0;py3h1;rm1c0;rm1c0;rm1c0");
            x.worth(0, 0, 5);
            x.worth(1, 1, 5);
            x.worth(2, 2, 5);
            E.due(x.turn(), 3);
            E.due(x.person(0, 2) * 100 + x.person(1, 2) * 10 + x.person(2, 2), 12);
        });
        E.edge("25: many moves are no RING, as each betters who makes it", () -> {
            AgeRoofs x = Edges.parish("py1;py2;py3;py4h2;py5h2;py6h3;rc0m1;rc0m2;rc0m2;rc0m2");
            int[] worths = {8, 2, 9, 5, 6, 3, 7, 6, 7, 4, 1, 9, 6, 3, 1, 8, 6, 5, 4, 5, 8, 6, 2, 3};
            for (int k = 0; k < 24; k++) {
                x.worth(k / 4, k % 4, worths[k]);
            }
            E.due(x.turn(), 13);
            int[] homes = {2, 2, 3, 3, 0, 1};
            for (int person = 0; person < 6; person++) {
                E.due(x.person(person, 2), homes[person]);
            }
            E.due(x.turn(), 0);
        });
        E.edge("25: such moves are not MOVED, and TODAY stays", () -> {
            AgeRoofs x = Edges.parish("p;rc0");
            x.worth(0, 0, 9);
            E.due(x.turn(), 1);
            E.due(x.count(6) + x.count(4), 0);
        });
        E.edge("25: NONE: no PARISH", () -> E.due(new AgeRoofs().turn(), NONE));
    }

    private static void bestSum() {
        E.edge("26: 0 for who lives nowhere: no house is worth its price", () -> {
            AgeRoofs x = Edges.parish("ph0;py40h0;rc99");
            E.due(x.best(0), 0);
            E.due(x.best(1), 0);
        });
        E.edge("26: WORTH less PRICE of 0 is no gain: the least of several", () -> {
            AgeRoofs x = Edges.parish("p;rc10");
            x.worth(0, 0, 10);
            E.due(x.best(0), 0);
            E.due(x.best(1), 0);
            x.worth(0, 0, 11);
            E.due(x.best(0), 1);
            E.due(x.best(1), 1);
        });
        E.edge("26: the greatest that can be: six times 99", () -> {
            AgeRoofs x = Edges.parish("py1;py2;py3;py4;py5;py6;r;r;r;rm6c0");
            for (int person = 0; person < 6; person++) {
                x.worth(person, 3, 99);
            }
            E.due(x.best(0), 594);
            E.due(x.best(1), 15624);
        });
        E.edge("26: LAWFUL: ROOMS", () -> {
            AgeRoofs x = Edges.parish("py1;py2;py3;rm2c0");
            x.worth(0, 0, 5);
            x.worth(1, 0, 6);
            x.worth(2, 0, 7);
            E.due(x.best(0), 13);
            E.due(x.best(1), 6);
        });
        E.edge("26: LAWFUL: TODAY alone", () -> {
            AgeRoofs x = Edges.parish("py20;py20d2;rc0");
            x.worth(0, 0, 5);
            x.worth(1, 0, 5);
            E.due(x.best(0), 10);
            x.today(1);
            E.due(x.best(0), 5);
            x.today(360);
            E.due(x.best(0), 10);
        });
        E.edge("26: one who gains less makes way", () -> {
            AgeRoofs x = Edges.parish("py20;py20;py20;rm3c0");
            x.worth(0, 0, 5);
            x.worth(1, 0, 7);
            x.worth(2, 0, 6);
            E.due(x.best(0), 7);
            E.due(x.best(1), 5);
        });
    }

    private static void bestLiving() {
        E.edge("26: PERSON 0 the highest digit to the base 5", () -> {
            AgeRoofs x = Edges.parish("py1;py2;py3;py4;py5;py6;rc0;rc0;rc0;rc0");
            x.worth(0, 3, 9);
            E.due(x.best(1), 4 * 3125);
            x.worth(5, 2, 9);
            E.due(x.best(1), 4 * 3125 + 3);
        });
        E.edge("26: the least of several", () -> {
            AgeRoofs x = Edges.parish("py20;py20;rc0;rc0");
            x.worth(0, 0, 5);
            x.worth(0, 1, 5);
            x.worth(1, 0, 5);
            x.worth(1, 1, 5);
            E.due(x.best(0), 10);
            E.due(x.best(1), 1 * 5 + 2);
            x.worth(1, 1, 0);
            E.due(x.best(1), 2 * 5 + 1);
            x.worth(0, 1, 0);
            E.due(x.best(1), 1);
        });
        E.edge("26: it is only told", () -> {
            AgeRoofs x = Edges.parish("p;rc0");
            x.worth(0, 0, 5);
            x.best(1);
            E.due(x.count(8), 1);
        });
        E.edge("26: HIDDEN: no such what", () -> {
            AgeRoofs x = Edges.parish("p;rc0");
            E.due(x.best(2), HIDDEN);
            E.due(x.best(-1), HIDDEN);
            for (int what : Edges.NO_SUCH) {
                E.due(x.best(what), HIDDEN);
            }
        });
        E.edge("26: HIDDEN: no PARISH", () -> {
            E.due(new AgeRoofs().best(0), HIDDEN);
            E.due(new AgeRoofs().best(1), HIDDEN);
        });
    }

    private static AgeRoofs dying(int risk, long seed) {
        AgeRoofs x = Edges.parish("py1h0;py2h0;py3h0;py4h0;py5h0;py6h0;rm6");
        x.risk(risk);
        x.seed(seed);
        return x;
    }

    /** Who of six dies on one date 360 (bits), by the document's words; x is what it becomes. */
    private static int drawn(long[] v, int risk) {
        int found = 0;
        for (int person = 0; person < 6; person++) {
            v[0] = v[0] * 6364136223846793005L + 1442695040888963407L;
            found |= (v[0] >>> 33) % 100 < risk ? 1 << person : 0;
        }
        return found;
    }

    private static int born(AgeRoofs x, int day) {
        int found = 0;
        for (int person = 0; person < 6; person++) {
            found |= x.person(person, 3) == day ? 1 << person : 0;
        }
        return found;
    }

    private static void risk() {
        E.edge("27: 0 at first: nobody dies", () -> {
            AgeRoofs x = Edges.parish("p;p;p;p;p;p;r");
            for (int k = 0; k < 13; k++) {
                x.days(720);
            }
            E.due(x.count(7), 0);
        });
        E.edge("27: 0 and 100 are within bounds, without a PARISH, too", () -> {
            AgeRoofs x = new AgeRoofs();
            E.due(x.risk(100), true);
            E.due(x.risk(0), true);
            E.due(dying(100, 1L).risk(0), true);
        });
        E.edge("27: 100: all die; 0 again: none", () -> {
            AgeRoofs x = dying(100, 1L);
            x.days(359);
            E.due(x.count(7), 6);
            x.risk(0);
            x.days(360);
            E.due(x.count(7), 6);
        });
        E.edge("27: below RISK: 99 and 1", () -> {
            for (long seed = 0; seed < 60; seed++) {
                for (int risk = 1; risk <= 99; risk += 98) {
                    AgeRoofs x = dying(risk, seed);
                    x.days(359);
                    E.due(born(x, 359), drawn(new long[] {seed}, risk));
                }
            }
        });
        E.refused("27: False: out of bounds", () -> dying(50, 3L), x -> {
            for (int v : new int[] {-1, 101, HIDDEN, Edges.LEAST, Edges.MOST}) {
                E.due(x.risk(v), false);
            }
        });
    }

    private static void seed() {
        E.edge("28: 0 at first", () -> {
            AgeRoofs x = Edges.parish("py1;py2;py3;py4;py5;py6;r");
            x.risk(50);
            x.days(359);
            E.due(born(x, 359), drawn(new long[] {0L}, 50));
        });
        E.edge("28: 64 bits, going round, shifted without sign", () -> {
            long[] seeds = {1L, -1L, Long.MIN_VALUE, Long.MAX_VALUE, 1L << 32, -(1L << 33), 0x7fffffffL, 4711L};
            for (long seed : seeds) {
                AgeRoofs x = dying(50, seed);
                long[] v = {seed};
                for (int year = 0; year < 10; year++) {
                    x.days(year == 0 ? 359 : 360);
                    E.due(born(x, 359 + 360 * year), drawn(v, 50));
                }
            }
        });
        E.edge("28: from now on", () -> {
            AgeRoofs x = dying(50, 9L);
            x.days(359);
            x.seed(10L);
            x.days(360);
            E.due(born(x, 719), drawn(new long[] {10L}, 50));
        });
        E.edge("28: without a PARISH, too", () -> {
            AgeRoofs x = new AgeRoofs();
            x.seed(12L);
            x.risk(50);
            Edges.put(x, "p;p;p;p;p;p;r");
            x.text(0);
            x.days(359);
            E.due(born(x, 359), drawn(new long[] {12L}, 50));
        });
    }

    private static void daysBounds() {
        E.edge("29: one DAY and 720 DAYS", () -> {
            AgeRoofs x = Edges.parish("p;r");
            E.due(x.days(1), 1);
            E.due(x.count(4), 1);
            E.due(x.days(720), 1);
            E.due(x.count(4), 721);
        });
        E.refused("29: NONE: out of bounds", () -> Edges.parish("p;p;r"), x -> {
            for (int n : Edges.NO_DAYS) {
                E.due(x.days(n), NONE);
            }
        });
        E.edge("29: TODAY of 9,999 then is not above 9,999", () -> {
            AgeRoofs x = Edges.parish("p;r");
            x.today(9998);
            E.due(x.days(1), 1);
            E.due(x.count(4), 9999);
            x.today(9279);
            E.due(x.days(720), 1);
            E.due(x.count(4), 9999);
        });
        E.refused("29: NONE: TODAY above 9,999 then", () -> {
            AgeRoofs x = Edges.parish("p;p;r");
            x.today(9280);
            return x;
        }, x -> E.due(x.days(720), NONE));
        E.edge("29: NONE: TODAY is the last DAY", () -> {
            AgeRoofs x = Edges.parish("p;r");
            x.today(9999);
            E.due(x.days(1), NONE);
            E.due(x.days(720), NONE);
            E.due(x.count(4), 9999);
            E.due(x.count(8), 1);
        });
        E.edge("29: MOVED in all so far", () -> {
            AgeRoofs x = Edges.parish("py1;py2;r");
            E.due(x.days(1), 2);
            E.due(x.days(1), 2);
            x.move(0, NONE);
            E.due(x.days(1), 3);
        });
    }

    private static void birthdays() {
        E.edge("29: who clashes moves on its birthday alone", () -> {
            AgeRoofs x = Edges.parish("py20d10h0;py20d10h0;r;r");
            E.due(x.days(8), 0);
            E.due(x.days(1), 1);
            E.due(x.person(0, 2), 1);
            E.due(x.person(1, 2), 0);
        });
        E.edge("29: TODAY itself is not gone through", () -> {
            AgeRoofs x = Edges.parish("py20d10h0;py20d10h0;r;r");
            x.today(9);
            E.due(x.days(359), 0);
            E.due(x.days(1), 1);
        });
        E.edge("29: a birthday on DATE 1: the year goes round", () -> {
            AgeRoofs x = Edges.parish("py20d1h0;py20d1h0;r;r");
            E.due(x.days(359), 0);
            E.due(x.days(1), 1);
            E.due(x.count(4), 360);
        });
        E.edge("29: a birthday on DATE 360", () -> {
            AgeRoofs x = Edges.parish("py20d360h0;py20d360h0;r;r");
            E.due(x.days(358), 0);
            E.due(x.days(1), 1);
        });
        E.edge("29: the DAY of birth is a birthday, too", () -> {
            AgeRoofs x = Edges.parish("py0d5h0;py0d4h0;r;r");
            E.due(x.days(2), 0);
            E.due(x.days(1), 0);
            E.due(x.days(1), 1);
            E.due(x.person(0, 2), 1);
        });
        E.edge("29: by numbers: the lower one goes, then the other need not", () -> {
            AgeRoofs x = Edges.parish("py20d2h0;py20d2h0;py20d2h0;r;r;r");
            E.due(x.days(1), 2);
            E.due(x.person(0, 2), 1);
            E.due(x.person(1, 2), 2);
            E.due(x.person(2, 2), 0);
        });
        E.edge("29: too many in a HOUSE moves nobody", () -> {
            AgeRoofs x = Edges.parish("py20d2h0;py30d2h0;rm1;r");
            E.due(x.days(1), 0);
            E.due(x.house(0, 2), 2);
        });
    }

    private static void birthdayMoves() {
        E.edge("29: to the lowest HOUSE where it MAY live: full ones are passed", () -> {
            AgeRoofs x = Edges.parish("py20d2h1;py20d2h1;py50h0;rm1;r;r");
            E.due(x.days(1), 1);
            E.due(x.person(0, 2), 2);
        });
        E.edge("29: to the lowest HOUSE where it MAY live: lower than its own", () -> {
            AgeRoofs x = Edges.parish("py20d2h3;py20d2h3;r;r;r;r");
            E.due(x.days(1), 1);
            E.due(x.person(0, 2), 0);
        });
        E.edge("29: to the lowest HOUSE where it MAY live: those with one of its age are passed", () -> {
            AgeRoofs x = Edges.parish("py20d2h1;py20d2h1;py20d3h0;py20d2h2;r;r;r");
            E.due(x.clash(0, 2, 1), 0);
            E.due(x.days(1), 1);
            E.due(x.person(0, 2), 0);
            x = Edges.parish("py20d2h1;py20d2h1;py20d2h0;py20d3h2;r;r;r");
            E.due(x.days(1), 1);
            E.due(x.person(0, 2), 2);
        });
        E.edge("29: else to none, which is a move, too", () -> {
            AgeRoofs x = Edges.parish("py20d2h0;py20d2h0;r");
            E.due(x.days(1), 1);
            E.due(x.person(0, 2), NONE);
            E.due(x.count(8), 1);
            E.due(x.days(300), 1);
        });
        E.edge("29: who went to none may find a room on the same DAY", () -> {
            // 0 clashes with 1 and 2, 2 with 3: 0 goes to none, 2 to house 0, then 0 to house 1.
            AgeRoofs x = Edges.parish("py50h0;py51h0;py48h1;py46h1;r;r", "y:x=360|x=720?1");
            x.today(359);
            E.due(x.days(1), 3);
            E.due(x.person(0, 2), 1);
            E.due(x.person(2, 2), 0);
        });
    }

    private static void homeless() {
        E.edge("29: who lives in none moves on any DAY", () -> {
            AgeRoofs x = Edges.parish("pd300;r");
            E.due(x.days(1), 1);
            E.due(x.person(0, 2), 0);
        });
        E.edge("29: by numbers, as long as there are ROOMS", () -> {
            AgeRoofs x = Edges.parish("py1;py2;py3;rm2");
            E.due(x.days(720), 2);
            E.due(x.house(0, 3), 3);
            E.due(x.count(8), 1);
        });
        E.edge("29: to the lowest where they MAY", () -> {
            AgeRoofs x = Edges.parish("py20;py20;py20;r;r;r;r");
            E.due(x.days(1), 3);
            E.due(x.person(0, 2) * 100 + x.person(1, 2) * 10 + x.person(2, 2), 12);
        });
        E.edge("29: if there is one: who finds none has not moved", () -> {
            AgeRoofs x = Edges.parish("p;ph0;r");
            E.due(x.days(720), 0);
            E.due(x.count(8), 1);
        });
        E.edge("29: a room that is free for a DAY alone", () -> {
            AgeRoofs x = Edges.parish("py40;py20h0;r", "y:y=100?0;y:1");
            E.due(x.days(98), 0);
            E.due(x.days(1), 1);
            E.due(x.person(0, 2), 0);
        });
    }

    private static void deaths() {
        E.edge("29: on DATE 360 alone", () -> {
            AgeRoofs x = dying(100, 0L);
            x.days(358);
            E.due(x.count(7), 0);
            x.days(1);
            E.due(x.count(7), 6);
            x.days(359);
            E.due(x.count(7), 6);
            x.days(1);
            E.due(x.count(7), 12);
        });
        E.edge("29: not if TODAY is set to DATE 360", () -> {
            AgeRoofs x = dying(100, 0L);
            x.today(359);
            E.due(x.count(7), 0);
            x.days(1);
            E.due(x.count(7), 0);
        });
        E.edge("29: another one is born with its number on that DAY, and lives there", () -> {
            AgeRoofs x = Edges.parish("py20h1;py30h0;r;r");
            x.risk(100);
            x.days(359);
            E.due(x.person(0, 3), 359);
            E.due(x.person(0, 2), 1);
            E.due(x.person(1, 3), 359);
            E.due(x.person(1, 1), 360);
            E.due(x.count(6), 0);
        });
        E.edge("29: .. or in none", () -> {
            AgeRoofs x = Edges.parish("p;ph0;r");
            x.risk(100);
            x.days(359);
            E.due(x.person(0, 3), 359);
            E.due(x.person(0, 2), NONE);
        });
        E.edge("29: deaths come behind the moves of that DAY", () -> {
            // On date 360 person 0 moves out; all die then, and are of one age from there on.
            AgeRoofs x = Edges.parish("py20d360h0;py20d360h0;r;r");
            x.risk(100);
            E.due(x.days(359), 1);
            E.due(x.person(0, 2), 1);
            E.due(x.person(0, 3), 359);
        });
        E.edge("29: the new one's birthday is DATE 360", () -> {
            AgeRoofs x = Edges.parish("py20h0;py30h0;r;r");
            x.risk(100);
            x.days(359);
            x.risk(0);
            E.due(x.days(359), 0);
            E.due(x.days(1), 1);
        });
    }

    private static void draws() {
        E.edge("29: for each PERSON by numbers a draw, who dies or not", () -> {
            for (long seed = 100; seed < 120; seed++) {
                AgeRoofs x = dying(30, seed);
                long[] v = {seed};
                int dead = 0;
                for (int year = 0; year < 5; year++) {
                    x.days(year == 0 ? 359 : 360);
                    int set = drawn(v, 30);
                    dead += Integer.bitCount(set);
                    E.due(born(x, 359 + 360 * year), set);
                    E.due(x.count(7), dead);
                }
            }
        });
        E.edge("29: with a RISK of 0 there is no draw", () -> {
            AgeRoofs x = dying(0, 77L);
            x.days(720);
            x.risk(50);
            x.days(359);
            E.due(born(x, 1079), drawn(new long[] {77L}, 50));
        });
        E.edge("29: one call of two years draws as two calls of one", () -> {
            AgeRoofs x = dying(50, 5L);
            x.days(719);
            long[] v = {5L};
            int first = drawn(v, 50);
            int second = drawn(v, 50);
            E.due(born(x, 719), second);
            E.due(born(x, 359), first & ~second);
        });
    }
}
