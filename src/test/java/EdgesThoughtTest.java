/** The edges that part 4 of the document names, and those of promises 15 to 33. */
public final class EdgesThoughtTest {
    private static final int MIN = Integer.MIN_VALUE;
    private static final int MAX = Integer.MAX_VALUE;

    private EdgesThoughtTest() {
    }

    public static void main(String[] args) {
        goes();
        goesAtFiveHundred();
        goesToTheSea();
        goesWithAll();
        goesBeyondTheLastDay();
        arrives();
        arrivesWithinSixty();
        arrivesAndDrowns();
        bath();
        bathAtItsEnds();
        bathOfAll();
        follows();
        followsBelow();
        followsOfAll();
        caught();
        caughtOnARow();
        caughtOnRings();
        said();
        saidInEight();
        saidOfAll();
        prophets();
        fooled();
        words();
        wordsLaid();
        wordsOfAll();
        ranks();
        comers();
        served();
        letters();
        crossed();
        bell();
        bellOnARow();
        sits();
        lights();
        game();
        Check.close("EdgesThoughtTest");
    }

    private static String row(int from, int to) {
        StringBuilder text = new StringBuilder();
        for (int p = from; p < to; p++) {
            text.append("place ").append(p).append(" road ").append(p + 1).append(';');
        }
        return text.toString();
    }

    // ---- GOES

    /** n 1 .. 60, what 0 .. 3; without SUBJECTS too. */
    private static void goes() {
        LateOrders x = new LateOrders();
        int[] none = {0, -1, 61, MIN, MAX};
        for (int what = 0; what < 4; what++) {
            for (int n : none) {
                Check.due("goes(" + n + ", " + what + ")", x.goes(n, what), -1);
            }
            Check.due("goes(1, " + what + ")", x.goes(1, what), 0);
            Check.due("goes(60, " + what + ")", x.goes(60, what), 0);
        }
        int[] others = {-1, 4, MIN, MAX};
        for (int what : others) {
            Check.due("goes(1, " + what + ")", x.goes(1, what), -1);
        }
        // FIRES and WALLS of all PLACES, the first and the last; each 99 at most.
        for (int p = 0; p < 12; p++) {
            x.set(1, p, 96);
            x.set(2, p, 99);
        }
        Check.due("FIRES", x.goes(1, 1), 12 * 99);
        Check.due("WALLS", x.goes(1, 2), 12 * 99);
        x.set(1, 0, 0);
        x.set(1, 11, 1);
        x.set(2, 0, 0);
        x.set(2, 11, 1);
        Check.due("FIRES then", x.goes(1, 1), 10 * 99 + 4);
        Check.due("FIRES behind 60", x.goes(60, 1), 11 * 99);
        Check.due("WALLS then", x.goes(60, 2), 10 * 99 + 1);
        Check.due("nothing of it stays", x.place(11, 1), 1);
    }

    /** No DRAWS: one obeys, if obeys is 500 at least. */
    private static void goesAtFiveHundred() {
        int[] obeys = {0, 1, 499, 500, 501, 1000};
        for (int v : obeys) {
            LateOrders x = new LateOrders();
            x.subject(0, 0);
            Check.reads(x, 0, "obeys " + v + ";", 1);
            x.order(2, 0, 0, true);
            x.state(5);
            boolean so = v >= 500;
            Check.due("MISSED behind 1 by " + v, x.goes(1, 3), 0);
            Check.due("MISSED behind 2 by " + v, x.goes(2, 3), so ? 0 : 1);
            Check.due("WALLS behind 2 by " + v, x.goes(2, 2), so ? 3 : 0);
            Check.due("MISSED behind 60 by " + v, x.goes(60, 3), so ? 0 : 59);
            Check.due("WALLS behind 60 by " + v, x.goes(60, 2), so ? 99 : 0);
            Check.due("STATE stays", x.look(9), 5);
            Check.due("no line", x.look(8), 0);
        }
    }

    /** ALIVE then: the sea of the TIDE and of now, SUBJECTS 0 and 17. */
    private static void goesToTheSea() {
        LateOrders x = new LateOrders();
        for (int who = 0; who < 18; who++) {
            x.subject(who == 0 ? 0 : who == 17 ? 11 : 5, 0);
        }
        x.set(0, 5, 9);
        Check.reads(x, 2, "on 0 sea 5;on 59 sea 6;", 2);
        Check.due("SEA as HIGH", x.goes(1, 0), 18);
        Check.due("on the eve", x.goes(59, 0), 18);
        Check.due("then", x.goes(60, 0), 16);
        x.set(2, 11, 60);
        Check.due("behind its WALL", x.goes(60, 0), 17);
        Check.due("all are ALIVE", x.look(1), (1 << 18) - 1);
        Check.due("none DROWNED", x.look(3), 0);
        Check.due("SEA", x.look(2), 0);
        Check.due("DAY", x.look(5), 0);
    }

    /** What is given today and of yesterday, STANDING, LEDGER and its 24: as on a DAY. */
    private static void goesWithAll() {
        LateOrders x = new LateOrders();
        for (int who = 0; who < 18; who++) {
            x.subject(who % 12, 9);
        }
        Check.reads(x, 0, "obeys 1000;tires 0;grows 1;", 3);
        Check.reads(x, 1, "on 1 order 17 build;on 2 order 0 stop;", 2);
        x.order(2, 0, 0, true);
        x.order(3, 17, 0, true);
        x.days(1);
        for (int i = 0; i < 23; i++) {
            x.order(4, i % 16 + 1, 0, false);
        }
        x.set(1, 5, 90);
        // DAY 1: 0 builds, 17 quenches at 5: 90 - 5 + 1. DAY 2: 17 builds at 5, 0 goes on. DAY 3: 0 stops, 17 goes on.
        int[] walls = {3, 9, 9, 9};
        int[] fires = {86, 87, 83, 79};
        for (int n = 1; n <= 4; n++) {
            Check.due("WALLS behind " + n, x.goes(n, 2), walls[n - 1]);
            Check.due("FIRES behind " + n, x.goes(n, 1), fires[n - 1]);
            Check.due("MISSED behind " + n, x.goes(n, 3), 0);
        }
        Check.due("given today still", x.look(6), 23);
        Check.due("of yesterday still", x.look(7), 2);
        x.order(4, 1, 0, false);
        Check.due("LEDGER's is beyond 24", x.goes(2, 2), 6);
        Check.due("24 today", x.look(6), 24);
        int[] done = {2, 24 + 2, 1, 1};
        for (int n = 0; n < 4; n++) {
            Check.due("so the days go", x.days(1), done[n]);
        }
    }

    /** DAYS in thought are no DAYS: one can think from the last on. */
    private static void goesBeyondTheLastDay() {
        LateOrders x = new LateOrders();
        for (int i = 0; i < 166; i++) {
            x.days(60);
        }
        x.days(39);
        x.set(1, 3, 1);
        Check.due("no DAY more", x.days(1), -1);
        Check.due("but in thought", x.goes(1, 1), 4);
        Check.due("DAY stays", x.look(5), 9999);
    }

    // ---- ARRIVES

    /** 0: now; NONE if there is none such (not ALIVE: NONE). */
    private static void arrives() {
        LateOrders x = new LateOrders();
        int[] nobody = {-1, 0, 1, 17, 18, MIN, MAX};
        for (int who : nobody) {
            Check.due("nobody: arrives(" + who + ", 0)", x.arrives(who, 0), -1);
        }
        for (int who = 0; who < 18; who++) {
            x.subject(who % 12, 0);
        }
        int[] none = {-1, 18, MIN, MAX};
        for (int who : none) {
            Check.due("arrives(" + who + ", 0)", x.arrives(who, 0), -1);
        }
        int[] nowhere = {-1, 12, MIN, MAX};
        for (int place : nowhere) {
            Check.due("arrives(0, " + place + ")", x.arrives(0, place), -1);
        }
        for (int who = 0; who < 18; who++) {
            Check.due("now: " + who, x.arrives(who, who % 12), 0);
            Check.due("never: " + who, x.arrives(who, (who + 1) % 12), -1);
        }
        x.set(5, 0, 6);
        x.set(0, 11, 9);
        x.days(1);
        Check.due("11 alone", x.look(1), 1 << 11);
        Check.due("not ALIVE, where he lies", x.arrives(17, 5), -1);
        Check.due("ALIVE, where he is", x.arrives(11, 11), 0);
    }

    /** NONE: not within 60. */
    private static void arrivesWithinSixty() {
        for (int day = 57; day <= 60; day++) {
            LateOrders x = new LateOrders();
            x.subject(0, 9);
            Check.reads(x, 3, "place 0 road 11;", 1);
            Check.reads(x, 1, "on " + day + " order 0 march 11;", 1);
            // Given at the end of the DAY, done on the next: behind two DAYS more.
            Check.due("ordered on " + day, x.arrives(0, 11), day + 2 <= 60 ? day + 2 : -1);
            Check.due("where he is", x.of(0, 0), 0);
            x.days(1);
            Check.due("a day later", x.arrives(0, 11), day + 1 <= 60 ? day + 1 : -1);
        }
        // By obeys at 500, not at 499.
        for (int v = 499; v <= 500; v++) {
            LateOrders x = new LateOrders();
            x.subject(0, 0);
            Check.reads(x, 0, "obeys " + v + ";", 1);
            Check.reads(x, 3, row(0, 11), 11);
            x.order(0, 0, 11, true);
            Check.due("to 1 by " + v, x.arrives(0, 1), v == 500 ? 2 : -1);
            Check.due("to 11 by " + v, x.arrives(0, 11), v == 500 ? 12 : -1);
        }
    }

    /** Drowned there or not. */
    private static void arrivesAndDrowns() {
        LateOrders x = new LateOrders();
        x.subject(0, 9);
        Check.reads(x, 0, "obeys 1000;", 1);
        Check.reads(x, 3, row(0, 3), 3);
        Check.reads(x, 2, "on 2 sea 6;", 1);
        x.set(0, 0, 9);
        x.set(0, 1, 9);
        x.order(0, 0, 3, true);
        Check.due("to 1", x.arrives(0, 1), 2);
        Check.due("drowned at 2", x.arrives(0, 2), 3);
        Check.due("not at 3", x.arrives(0, 3), -1);
        Check.due("ALIVE then", x.goes(3, 0), 0);
        Check.due("ALIVE now", x.of(0, 3), 1);
        x.set(0, 0, 0);
        x.set(5, 0, 1);
        Check.due("he drowns where he is", x.arrives(0, 0), 0);
        Check.due("and goes nowhere", x.arrives(0, 1), -1);
    }

    // ---- BATH

    /** heat 0 .. 99, g 0 .. 99, y and w 0 .. 9, n 1 .. 10, what 10 times n and 0 or 1. */
    private static void bath() {
        LateOrders x = new LateOrders();
        int[] heats = {-1, 100, MIN, MAX};
        for (int v : heats) {
            for (int what = 10; what <= 11; what++) {
                Check.due("bath(" + v + ", ..)", x.bath(v, 0, 0, what), -1);
                Check.due("bath(.., " + v + ", ..)", x.bath(0, v, 0, what), -1);
                Check.due("bath(.., " + v + ", " + what + ")", x.bath(0, 0, v, what), -1);
            }
        }
        int[] whats = {-1, 0, 1, 2, 9, MIN, MAX, MIN + 8, -10, -9, -100, 110, 111, 120, 200, 1010};
        for (int what : whats) {
            Check.due("bath(5, 5, 0, " + what + ")", x.bath(5, 5, 0, what), -1);
        }
        for (int n = 1; n <= 10; n++) {
            for (int asked = 2; asked <= 9; asked++) {
                Check.due("bath(5, 5, 0, " + (10 * n + asked) + ")", x.bath(5, 5, 0, 10 * n + asked), -1);
            }
            Check.due("kept on " + n, x.bath(5, 5, 0, 10 * n), 0);
            Check.due("nothing is ordered on " + n, x.bath(5, 5, 0, 10 * n + 1), 0);
            Check.due("99 is kept on " + n, x.bath(99, 99, 99, 10 * n), 0);
            Check.due("0 is kept on " + n, x.bath(0, 0, 0, 10 * n), 0);
        }
    }

    /** 0 at least, 99 at most; the least order of those that are as good. */
    private static void bathAtItsEnds() {
        LateOrders x = new LateOrders();
        Check.due("99 at most on day 1", x.bath(99, 99, 90, 10), 0);
        Check.due("98 and 2 is 99", x.bath(98, 99, 20, 10), 0);
        Check.due("98 and 1 is 99", x.bath(98, 99, 10, 10), 0);
        Check.due("98 and 0 is not", x.bath(98, 99, 0, 10), 1);
        Check.due("0 at least on day 1", x.bath(0, 0, 9, 10), 0);
        Check.due("1 less 2 is 0", x.bath(1, 0, 2, 10), 0);
        Check.due("2 less 1 is 1", x.bath(2, 0, 1, 10), 1);
        Check.due("3 and 5 less 9 is 0", x.bath(3, 0, 59, 10), 0);
        Check.due("4 and 6 less 9 is 1", x.bath(4, 0, 69, 10), 1);
        Check.due("95 and 9 less 9 is 95", x.bath(95, 99, 99, 10), 4);
        // At 0 with 9 lost, 0 to 9 ordered are as good: the least. At 99 with none lost too.
        Check.due("the least at 0", x.bath(0, 0, 9, 101), 0);
        Check.due("the least at 99", x.bath(99, 99, 0, 101), 0);
        Check.due("the least at 99 with 1 lost", x.bath(99, 99, 11, 101), 1);
        // Today's comes on day 2: of no use if n is 1.
        Check.due("n 1: none", x.bath(0, 99, 0, 11), 0);
        Check.due("n 2: all", x.bath(0, 99, 0, 21), 9);
        Check.due("n 1: off", x.bath(0, 99, 90, 10), 90);
        Check.due("n 2: off", x.bath(0, 99, 90, 20), 171);
        Check.due("n 10: off", x.bath(0, 99, 90, 100), 90 + 81 + 72 + 63 + 54 + 45 + 36 + 27 + 18 + 9);
        Check.due("n 10: off the other way", x.bath(99, 0, 9, 100), 90 + 81 + 72 + 63 + 54 + 45 + 36 + 27 + 18 + 9);
        Check.due("n 10: far off", x.bath(99, 0, 90, 100), 990);
    }

    private static void bathOfAll() {
        Oracle o = new Oracle();
        int[] heats = {0, 1, 9, 50, 90, 98, 99};
        int[] yws = {0, 9, 90, 99, 1, 10, 45, 54};
        for (int h : heats) {
            for (int g : heats) {
                LateOrders x = new LateOrders();
                for (int yw : yws) {
                    for (int n = 1; n <= 10; n += n == 3 ? 6 : 1) {
                        for (int asked = 0; asked < 2; asked++) {
                            Check.due("bath(" + h + ", " + g + ", " + yw + ", " + (10 * n + asked) + ")",
                                x.bath(h, g, yw, 10 * n + asked), o.bath(h, g, yw, 10 * n + asked));
                        }
                    }
                }
            }
        }
    }

    // ---- FOLLOWS

    /** a and b 0 .. 999 each, d 1 .. 5, m 1 .. 1000, k 0 .. 1000000. */
    private static void follows() {
        LateOrders x = new LateOrders();
        int[] abs = {-1, 1000000, MIN, MAX};
        for (int ab : abs) {
            Check.due("follows(" + ab + ", 1, 10, 1)", x.follows(ab, 1, 10, 1), -1);
        }
        int[] ds = {0, -1, 6, MIN, MAX};
        for (int d : ds) {
            Check.due("follows(1001, " + d + ", 10, 1)", x.follows(1001, d, 10, 1), -1);
        }
        int[] ms = {0, -1, 1001, MIN, MAX};
        for (int m : ms) {
            Check.due("follows(1001, 1, " + m + ", 1)", x.follows(1001, 1, m, 1), -1);
        }
        int[] ks = {-1, 1000001, MIN, MAX};
        for (int k : ks) {
            Check.due("follows(1001, 1, 10, " + k + ")", x.follows(1001, 1, 10, k), -1);
        }
        Check.due("0 and 0", x.follows(0, 1, 10, 1), 0);
        Check.due("999 and 0", x.follows(999000, 1, 1000, 1), 999);
        Check.due("0 and 999", x.follows(999, 1, 1000, 1), 999);
        Check.due("999 and 999", x.follows(999999, 1, 1000, 1), 998);
        Check.due("a ahead of b", x.follows(2001, 2, 1000, 3), 2 * 3 + 1);
        Check.due("modulo 1", x.follows(999999, 5, 1, 1000000), 0);
        Check.due("modulo 2", x.follows(1001, 2, 2, 1000000), 1);
        Check.due("of a million, modulo 1000", x.follows(1000, 5, 1000, 1000000), 1);
        Check.due("of one less", x.follows(2000, 1, 1000, 999999), 688);
        Check.due("of a million", x.follows(2000, 1, 1000, 1000000), 376);
    }

    /** Days below d: 1, modulo m, too. */
    private static void followsBelow() {
        LateOrders x = new LateOrders();
        for (int d = 1; d <= 5; d++) {
            for (int k = 0; k < d; k++) {
                Check.due("day " + k + " below " + d, x.follows(7003, d, 1000, k), 1);
                Check.due("day " + k + " below " + d + " modulo 2", x.follows(7003, d, 2, k), 1);
                Check.due("day " + k + " below " + d + " modulo 1", x.follows(7003, d, 1, k), 0);
            }
            Check.due("day " + d, x.follows(7003, d, 1000, d), 10);
            Check.due("day " + d + " modulo 10", x.follows(7003, d, 10, d), 0);
            Check.due("the day behind", x.follows(7003, d, 1000, d + 1), d == 1 ? 100 : 73);
        }
    }

    private static void followsOfAll() {
        Oracle o = new Oracle();
        int[] abs = {0, 1, 1000, 1001, 999, 999000, 999999, 2003, 500500};
        int[] ms = {1, 2, 7, 999, 1000};
        for (int ab : abs) {
            for (int d = 1; d <= 5; d++) {
                LateOrders x = new LateOrders();
                for (int m : ms) {
                    for (int k = 0; k <= 20; k++) {
                        Check.due("follows(" + ab + ", " + d + ", " + m + ", " + k + ")", x.follows(ab, d, m, k), o.follows(ab, d, m, k));
                    }
                }
                Check.due("follows(" + ab + ", " + d + ", 1000, 1000000)", x.follows(ab, d, 1000, 1000000),
                    o.follows(ab, d, 1000, 1000000));
            }
        }
    }

    // ---- CAUGHT

    /** 0: alike; NONE: never; CLOCK: q NONE. */
    private static void caught() {
        LateOrders x = new LateOrders();
        for (int p = 0; p < 12; p++) {
            for (int q = 0; q < 12; q++) {
                Check.due("without ROADS: caught(" + p + ", " + q + ")", x.caught(p, q), p == q ? 0 : -1);
            }
            Check.due("without ROADS: caught(" + p + ", -1)", x.caught(p, -1), 1);
        }
        int[] none = {-1, -2, 12, MIN, MAX};
        for (int p : none) {
            Check.due("caught(" + p + ", 0)", x.caught(p, 0), -1);
            Check.due("caught(" + p + ", -1)", x.caught(p, -1), -1);
            Check.due("caught(" + p + ", " + p + ")", x.caught(p, p), -1);
            if (p != -1) {
                Check.due("caught(0, " + p + ")", x.caught(0, p), -1);
            }
        }
    }

    /** On a row of all twelve: he flees to the end, where he is caught. */
    private static void caughtOnARow() {
        LateOrders x = new LateOrders();
        Check.reads(x, 3, row(0, 11), 11);
        for (int p = 0; p < 12; p++) {
            for (int q = 0; q < 12; q++) {
                int due = p == q ? 0 : Math.abs(p - q) == 1 ? 1 : q > p ? 11 - p : p;
                Check.due("on a row: caught(" + p + ", " + q + ")", x.caught(p, q), due);
            }
            Check.due("on a row: clock", x.caught(p, -1), 12);
        }
    }

    /** On a ring of three or less he is caught at once, on one of four or more never but beside; the guard may stay. */
    private static void caughtOnRings() {
        for (int n = 3; n <= 12; n++) {
            LateOrders x = new LateOrders();
            Check.reads(x, 3, row(0, n - 1) + "place " + (n - 1) + " road 0;", n);
            for (int q = 0; q < 12; q++) {
                int far = Math.min(q, n - q);
                int due = q >= n ? -1 : q == 0 ? 0 : far == 1 ? 1 : -1;
                Check.due("ring of " + n + ": caught(0, " + q + ")", x.caught(0, q), due);
            }
            Check.due("ring of " + n + ": clock", x.caught(0, -1), 3);
        }
        // Two ways to one ring, from a PLACE without: never, though the guard may wait.
        LateOrders x = new LateOrders();
        Check.reads(x, 3, row(0, 3) + "place 3 road 0;place 0 road 4;", 5);
        Check.due("from without", x.caught(4, 2), -1);
        Check.due("into the end", x.caught(0, 4), 1);
        Check.due("across", x.caught(0, 2), -1);
        // One that flees into a dead end is caught there: from 2 to 4 by 0.
        Check.due("in the dead end", x.caught(1, 4), 2);
    }

    // ---- SAID

    /** 0 .. 999 both, words a set of 5, what 0 or 1. */
    private static void said() {
        LateOrders x = new LateOrders();
        int[] none = {-1, 1000, MIN, MAX};
        for (int v : none) {
            for (int what = 0; what < 2; what++) {
                Check.due("said(" + v + ", 0, 31)", x.said(v, 0, 31, what), -1);
                Check.due("said(0, " + v + ", 31)", x.said(0, v, 31, what), -1);
            }
        }
        int[] sets = {-1, 32, 33, MIN, MAX};
        for (int set : sets) {
            Check.due("said(0, 0, " + set + ", 0)", x.said(0, 0, set, 0), -1);
            Check.due("said(0, 0, " + set + ", 1)", x.said(0, 0, set, 1), -1);
        }
        int[] whats = {-1, 2, MIN, MAX};
        for (int what : whats) {
            Check.due("said(0, 0, 31, " + what + ")", x.said(0, 0, 31, what), -1);
        }
        int[] all = {0, 1, 500, 998, 999};
        for (int v : all) {
            for (int set = 0; set < 32; set++) {
                Check.due("none is said", x.said(v, v, set, 0), 0);
                Check.due("in one way", x.said(v, v, set, 1), 1);
            }
        }
        // One word each, at the edges: doubled, one more, three less, turned, halved; modulo 1000, 0 for below 0.
        int[][] one = {{0, 1, 2}, {0, 499, 998}, {0, 500, 0}, {0, 999, 998}, {0, 501, 2}, {1, 0, 1}, {1, 998, 999}, {1, 999, 0},
            {2, 1, 0}, {2, 2, 0}, {2, 3, 0}, {2, 4, 1}, {2, 999, 996}, {3, 10, 1}, {3, 100, 1}, {3, 12, 21}, {3, 998, 899}, {3, 120, 21},
            {3, 102, 201}, {3, 19, 91}, {4, 1, 0}, {4, 2, 1}, {4, 3, 1}, {4, 999, 499}, {4, 998, 499}};
        for (int[] row : one) {
            Check.due("word " + row[0] + " of " + row[1], x.said(row[1], row[2], 1 << row[0], 0), 1);
            Check.due("word " + row[0] + " of " + row[1] + ", ways", x.said(row[1], row[2], 1 << row[0], 1), 1);
        }
    }

    /** Up to 8 words; NONE beyond them, and without words. */
    private static void saidInEight() {
        LateOrders x = new LateOrders();
        for (int v = 1; v <= 10; v++) {
            Check.due("one more, " + v + " times", x.said(0, v, 2, 0), v <= 8 ? v : -1);
            Check.due("its ways", x.said(0, v, 2, 1), v <= 8 ? 1 : -1);
            Check.due("round", x.said(995, (995 + v) % 1000, 2, 0), v <= 8 ? v : -1);
            Check.due("three less, " + v + " times", x.said(3 * v + 100, 100, 4, 0), v <= 8 ? v : -1);
            Check.due("none is said", x.said(0, v, 0, 0), -1);
            Check.due("in no way", x.said(0, v, 0, 1), -1);
        }
        Check.due("doubled 8 times", x.said(1, 256, 1, 0), 8);
        Check.due("doubled 9 times", x.said(1, 512, 1, 0), -1);
        Check.due("halved 8 times", x.said(256, 1, 16, 0), 8);
        Check.due("halved 9 times", x.said(512, 1, 16, 0), -1);
        Check.due("halved to 0", x.said(999, 0, 16, 0), -1);
        Check.due("halved to 0 from 255", x.said(255, 0, 16, 0), 8);
        Check.due("two ways to 2 from 1", x.said(1, 2, 3, 1), 2);
        Check.due("two ways to 0 from 0 with one more word", x.said(0, 0, 31, 1), 1);
    }

    private static void saidOfAll() {
        Oracle o = new Oracle();
        int[] from = {0, 1, 500, 999, 123};
        int[] sets = {31, 1, 2, 3, 7, 8, 12, 19, 21, 30};
        for (int x : from) {
            for (int set : sets) {
                LateOrders y = new LateOrders();
                for (int to = 0; to < 1000; to += to < 20 || to > 975 ? 1 : 41) {
                    for (int what = 0; what < 2; what++) {
                        Check.due("said(" + x + ", " + to + ", " + set + ", " + what + ")", y.said(x, to, set, what),
                            o.said(x, to, set, what));
                    }
                }
            }
        }
    }

    // ---- PROPHETS

    /** 10 bits; eight; yes NONE: none is then. */
    private static void prophets() {
        LateOrders x = new LateOrders();
        int[] none = {-2, 1024, 1025, MIN, MAX};
        Check.due("none is", x.prophet(-1), 0);
        for (int i = 1; i <= 8; i++) {
            for (int yes : none) {
                Check.due("prophet(" + yes + ")", x.prophet(yes), -1);
            }
            Check.due("not yet", x.wrong(0, 10, i - 1), -1);
            Check.due("prophet " + i, x.prophet(i % 2 == 0 ? 0 : 1023), i);
            Check.due("he is", x.wrong(0, 10, i - 1), i % 2 == 0 ? 0 : 10);
        }
        Check.due("a ninth", x.prophet(0), -1);
        Check.due("of a ninth", x.wrong(0, 10, 8), -1);
        Check.due("none is", x.prophet(-1), 0);
        Check.due("of none", x.wrong(0, 10, 0), -1);
        for (int n = 0; n <= 10; n++) {
            Check.due("none told: BEST of " + n, x.wrong(1023, n, -1), 0);
            Check.due("none told: FOOLED of " + n + ", all yes", x.wrong(1023, n, -2), n);
            Check.due("none told: FOOLED of " + n + ", all no", x.wrong(0, n, -2), 0);
        }
        x.prophet(0);
        int[] sets = {-1, 1024, MIN, MAX};
        int[] days = {-1, 11, MIN, MAX};
        int[] who = {-3, 1, 8, MIN, MAX};
        for (int i = -2; i <= 0; i++) {
            for (int was : sets) {
                Check.due("wrong(" + was + ", 10, " + i + ")", x.wrong(was, 10, i), -1);
            }
            for (int n : days) {
                Check.due("wrong(0, " + n + ", " + i + ")", x.wrong(0, n, i), -1);
            }
            for (int n = 0; n <= 10; n++) {
                Check.due("wrong(1023, " + n + ", " + i + ")", x.wrong(1023, n, i), n);
                Check.due("wrong(0, " + n + ", " + i + ")", x.wrong(0, n, i), 0);
                Check.due("the first days", x.wrong(1, n, i), n == 0 ? 0 : 1);
                Check.due("the last day", x.wrong(512, n, i), n == 10 ? 1 : 0);
            }
        }
        for (int i : who) {
            Check.due("wrong(0, 10, " + i + ")", x.wrong(0, 10, i), -1);
        }
    }

    /** More than half of those not wrong yet; half: no; all wrong: all begin again. */
    private static void fooled() {
        int[][] told = {{1023, 0}, {1023, 1023, 0}, {0, 0, 1023}, {1, 2, 4}, {1023, 1023, 0, 0}, {3, 3, 3, 0, 0, 0, 0, 0},
            {1023, 1023, 1023, 1023, 1023, 0, 0, 0}, {341, 682}, {1, 3, 7, 15, 31, 63, 127, 255}};
        Oracle o = new Oracle();
        for (int[] rows : told) {
            LateOrders x = new LateOrders();
            o.prophet(-1);
            for (int yes : rows) {
                x.prophet(yes);
                o.prophet(yes);
            }
            for (int was = 0; was < 1024; was += was < 64 ? 1 : 31) {
                for (int i = -2; i < 0; i++) {
                    Check.due("wrong(" + was + ", 10, " + i + ")", x.wrong(was, 10, i), o.wrong(was, 10, i));
                }
            }
        }
        LateOrders x = new LateOrders();
        x.prophet(1023);
        x.prophet(0);
        Check.due("half: no, and it is yes; then he alone is asked", x.wrong(1023, 10, -2), 1);
        Check.due("half: no, and it is no", x.wrong(0, 10, -2), 0);
        Check.due("on one day", x.wrong(1023, 1, -2), 1);
        // Day 0 no: 0 alone is right. Day 1 yes: he is wrong, so all begin again. Day 2: half: no.
        Check.due("all begin again", x.wrong(6, 3, -2), 2);
        x.prophet(1023);
        Check.due("two of three say yes", x.wrong(1023, 10, -2), 0);
        Check.due("and are wrong once", x.wrong(0, 10, -2), 1);
        // Day 0 no: 1 is left, fooled. Day 1 yes: 1 is wrong, fooled, all begin again. Day 2 yes: two of three.
        Check.due("two of three again", x.wrong(6, 3, -2), 2);
        Check.due("two of three again, wrong", x.wrong(2, 3, -2), 3);
    }

    // ---- WORDS

    /** 1 .. 4 digits each, no 0; five; NONE: none is then. */
    private static void words() {
        LateOrders x = new LateOrders();
        int[] none = {0, -2, 10, 20, 90, 100, 101, 110, 909, 1000, 1001, 1011, 1101, 1110, 9990, 9909, 9099, 10000, 11111, 99999, MIN, MAX};
        for (int digits : none) {
            Check.due("spell(" + digits + ")", x.spell(digits), -1);
        }
        int[] can = {1, 9, 11, 99, 111, 999, 1111, 9999};
        int[] digits = {1, 1, 2, 2, 3, 3, 4, 4};
        for (int i = 0; i < can.length; i++) {
            Check.due("none is", x.spell(-1), 0);
            Check.due("none told: TOGETHER", x.together(0), 0);
            Check.due("none told: orders", x.together(1), 1);
            Check.due("spell(" + can[i] + ")", x.spell(can[i]), 1);
            Check.due("its digits", x.together(0), digits[i]);
            Check.due("one order", x.together(1), 1);
        }
        x.spell(-1);
        for (int i = 1; i <= 5; i++) {
            Check.due("spell " + i, x.spell(1111 * i), i);
            Check.due("a wrong one", x.spell(10), -1);
        }
        Check.due("a sixth", x.spell(1), -1);
        Check.due("five: digits", x.together(0), 20);
        Check.due("five: orders", x.together(1), 120);
        int[] whats = {-1, 2, MIN, MAX};
        for (int what : whats) {
            Check.due("together(" + what + ")", x.together(what), -1);
        }
    }

    /** One that is in the row already adds nothing, else it lies as far over the row's end as can be. */
    private static void wordsLaid() {
        int[][] told = {
            {1234, 1, 4, 2}, {1234, 12, 4, 2}, {1234, 34, 4, 1}, {1234, 23, 4, 1}, {1234, 234, 4, 1}, {1234, 1234, 4, 2},
            {1234, 4123, 5, 1}, {1234, 4444, 7, 1}, {1212, 1212, 4, 2}, {1212, 2121, 5, 2}, {1111, 1112, 5, 1}, {1111, 111, 4, 2},
            {1111, 2111, 5, 1}, {1222, 2221, 5, 1}, {1221, 2112, 6, 2}, {1231, 1232, 7, 1}, {9899, 9989, 5, 1}, {1, 2, 2, 2}, {5, 5, 1, 2},
            // In the midst of two that were laid: 12 34 has 23.
            {12, 34, 23, 4, 2}, {1234, 5678, 4567, 8, 2}, {1234, 5678, 45, 8, 2},
        };
        Oracle o = new Oracle();
        LateOrders x = new LateOrders();
        for (int[] row : told) {
            x.spell(-1);
            o.spell(-1);
            StringBuilder call = new StringBuilder("words");
            for (int i = 0; i < row.length - 2; i++) {
                x.spell(row[i]);
                o.spell(row[i]);
                call.append(' ').append(row[i]);
            }
            Check.due(call + ": by the Oracle", o.together(0), row[row.length - 2]);
            Check.due(call + ": orders by the Oracle", o.together(1), row[row.length - 1]);
            Check.due(call + ": digits", x.together(0), row[row.length - 2]);
            Check.due(call + ": orders", x.together(1), row[row.length - 1]);
        }
    }

    private static void wordsOfAll() {
        Oracle o = new Oracle();
        int seed = 1;
        for (int turn = 0; turn < 60; turn++) {
            LateOrders x = new LateOrders();
            for (int i = 0; i < 5; i++) {
                int word = 0;
                seed = seed * 1664525 + 1013904223;
                int letters = turn % 3 + 1;
                for (int digits = 1 + (seed >>> 24) % 4; digits > 0; digits--) {
                    seed = seed * 1664525 + 1013904223;
                    word = word * 10 + 1 + (seed >>> 24) % letters;
                }
                x.spell(word);
                o.spell(word);
                Check.due("digits of turn " + turn, x.together(0), o.together(0));
                Check.due("orders of turn " + turn, x.together(1), o.together(1));
            }
            o.spell(-1);
        }
    }

    // ---- RANKS

    /** n 1 .. 999, what 0 or 1; files the least not below ranks. */
    private static void ranks() {
        int[] none = {0, -1, 1000, MIN, MAX};
        LateOrders x = new LateOrders();
        for (int n : none) {
            Check.due("ranks(" + n + ", 0)", x.ranks(n, 0), -1);
            Check.due("ranks(" + n + ", 1)", x.ranks(n, 1), -1);
        }
        int[] whats = {-1, 2, MIN, MAX};
        for (int what : whats) {
            Check.due("ranks(1, " + what + ")", x.ranks(1, what), -1);
        }
        Check.due("one: ways", x.ranks(1, 0), 1);
        Check.due("one: files", x.ranks(1, 1), 1);
        Check.due("two: ways", x.ranks(2, 0), 2);
        Check.due("two: files", x.ranks(2, 1), 2);
        for (int side = 1; side <= 31; side++) {
            Check.due("a square of " + side, x.ranks(side * side, 1), side);
            if (side < 31) {
                Check.due("one file more than " + side, x.ranks(side * (side + 1), 1), side + 1);
            }
        }
        Oracle o = new Oracle();
        for (int n = 1; n <= 999; n++) {
            if (n % 200 == 1) {
                x = new LateOrders();
            }
            Check.due("ranks(" + n + ", 0)", x.ranks(n, 0), o.ranks(n, 0));
            Check.due("ranks(" + n + ", 1)", x.ranks(n, 1), o.ranks(n, 1));
        }
    }

    // ---- QUEUE

    /** minute 0 .. 99, needs 1 .. 20; ten; minute NONE: none is then; k 1 .. 3. */
    private static void comers() {
        LateOrders x = new LateOrders();
        int[] minutes = {-2, 100, MIN, MAX};
        int[] needs = {0, -1, 21, MIN, MAX};
        for (int minute : minutes) {
            Check.due("comer(" + minute + ", 1)", x.comer(minute, 1), -1);
        }
        for (int need : needs) {
            Check.due("comer(0, " + need + ")", x.comer(0, need), -1);
            Check.due("comer(99, " + need + ")", x.comer(99, need), -1);
            Check.due("none is: comer(-1, " + need + ")", x.comer(-1, need), 0);
        }
        int[] ks = {0, -1, 4, MIN, MAX};
        int[] whats = {-1, 3, MIN, MAX};
        for (int turn = 0; turn < 2; turn++) {
            for (int k : ks) {
                for (int what = 0; what < 3; what++) {
                    Check.due("queue(" + k + ", " + what + ")", x.queue(k, what), -1);
                }
            }
            for (int k = 1; k <= 3; k++) {
                for (int what : whats) {
                    Check.due("queue(" + k + ", " + what + ")", x.queue(k, what), -1);
                }
                int[] due = turn == 0 ? new int[] {0, 0, 0} : new int[] {0, 119, 0};
                for (int what = 0; what < 3; what++) {
                    Check.due("none or one: queue(" + k + ", " + what + ")", x.queue(k, what), due[what]);
                }
            }
            Check.due("the last minute, the most needed", x.comer(99, 20), turn + 1);
        }
        x.comer(-1, 0);
        Check.due("the first minute, the least needed", x.comer(0, 1), 1);
        Check.due("he is through", x.queue(1, 1), 1);
        for (int i = 2; i <= 10; i++) {
            Check.due("comer " + i, x.comer(0, 1), i);
            Check.due("a wrong one", x.comer(0, 0), -1);
        }
        Check.due("an eleventh", x.comer(0, 1), -1);
        Check.due("ten are through", x.queue(1, 1), 10);
        Check.due("none is", x.comer(-1, 1), 0);
        Check.due("nobody", x.queue(1, 1), 0);
        Check.due("one again", x.comer(0, 20), 1);
        Check.due("he needs 20", x.queue(3, 1), 20);
    }

    private static void queue(String told, LateOrders x, int k, int waited, int last, int most) {
        Check.due(told + ": WAITED by " + k, x.queue(k, 0), waited);
        Check.due(told + ": the last by " + k, x.queue(k, 1), last);
        Check.due(told + ": how many wait by " + k, x.queue(k, 2), most);
    }

    /** By minutes, then as told; the first that is free; they came and have not begun by it. */
    private static void served() {
        LateOrders x = new LateOrders();
        x.comer(10, 5);
        x.comer(15, 5);
        queue("he comes as the other one ends", x, 1, 0, 20, 0);
        x.comer(14, 1);
        queue("one comes a minute ahead of that", x, 1, 1 + 1, 21, 1);
        x.comer(-1, 0);
        x.comer(5, 20);
        x.comer(5, 1);
        queue("as told: the long one first", x, 1, 20, 26, 1);
        queue("as told: both at once", x, 2, 0, 25, 0);
        x.comer(-1, 0);
        x.comer(5, 1);
        x.comer(5, 20);
        queue("as told: the short one first", x, 1, 1, 26, 1);
        x.comer(4, 20);
        queue("by minutes: the latest told first", x, 1, 19 + 20, 45, 2);
        queue("by minutes, by two", x, 2, 1, 26, 1);
        queue("by minutes, by three", x, 3, 0, 25, 0);
        x.comer(-1, 0);
        for (int i = 0; i < 4; i++) {
            x.comer(0, 20);
        }
        queue("four at once", x, 1, 20 + 40 + 60, 80, 3);
        queue("four at once", x, 2, 20 + 20, 40, 2);
        queue("four at once", x, 3, 20, 40, 1);
        x.comer(20, 1);
        queue("a fifth, as one begins", x, 3, 20, 40, 1);
        queue("a fifth, as two begin", x, 2, 20 + 20 + 20, 41, 2);
        x.comer(-1, 0);
        // The last who comes is through ahead of one before him.
        x.comer(0, 20);
        x.comer(1, 1);
        queue("the last is through", x, 2, 0, 20, 0);
        x.comer(-1, 0);
        // The first that is free: of three, the one at 3.
        x.comer(0, 9);
        x.comer(0, 6);
        x.comer(0, 3);
        x.comer(1, 20);
        queue("the first that is free", x, 3, 2, 23, 1);
        queue("the first that is free of two", x, 2, 6 + 8, 29, 2);
        x.comer(-1, 0);
        x.comer(99, 20);
        x.comer(99, 1);
        queue("as told at the last minute", x, 1, 20, 120, 1);
        x.comer(98, 20);
        queue("the minute ahead of it", x, 1, 19 + 39, 139, 2);
        x.comer(-1, 0);
        x.comer(99, 1);
        x.comer(0, 20);
        x.comer(98, 20);
        queue("the first minute and the last", x, 1, 19, 119, 1);
    }

    // ---- CROSS

    /** sent 0 .. 99, comes later, 0 .. 99; ten; sent NONE: none is then. */
    private static void letters() {
        LateOrders x = new LateOrders();
        int[][] none = {{-2, 5}, {100, 101}, {99, 99}, {99, 100}, {98, 100}, {98, 98}, {98, 97}, {0, 0}, {0, -1}, {0, 100}, {5, 4}, {5, 5},
            {MIN, 5}, {MAX, 5}, {5, MIN}, {5, MAX}, {MAX, MIN}, {MAX, MAX}, {-2, -1}};
        for (int[] row : none) {
            Check.due("letter(" + row[0] + ", " + row[1] + ")", x.letter(row[0], row[1]), -1);
        }
        int[] whats = {-1, 2, MIN, MAX};
        for (int what : whats) {
            Check.due("cross(" + what + ")", x.cross(what), -1);
        }
        Check.due("none: couples", x.cross(0), 0);
        Check.due("none: roads", x.cross(1), 0);
        int[][] can = {{0, 1}, {0, 99}, {98, 99}, {50, 51}};
        for (int[] row : can) {
            Check.due("none is", x.letter(-1, row[1]), 0);
            Check.due("letter(" + row[0] + ", " + row[1] + ")", x.letter(row[0], row[1]), 1);
            Check.due("one: couples", x.cross(0), 0);
            Check.due("one: roads", x.cross(1), 1);
        }
        x.letter(-1, 0);
        for (int i = 1; i <= 10; i++) {
            Check.due("letter " + i, x.letter(i - 1, 100 - i), i);
            Check.due("couples of " + i, x.cross(0), i * (i - 1) / 2);
            Check.due("roads of " + i, x.cross(1), i);
            Check.due("a wrong one", x.letter(5, 5), -1);
        }
        Check.due("an eleventh", x.letter(0, 1), -1);
        Check.due("couples of ten", x.cross(0), 45);
        Check.due("none is", x.letter(-1, -99), 0);
        Check.due("none: roads again", x.cross(1), 0);
    }

    private static void cross(int couples, int roads, int... letters) {
        LateOrders x = new LateOrders();
        LateOrders backwards = new LateOrders();
        StringBuilder told = new StringBuilder("letters");
        for (int i = 0; i < letters.length; i += 2) {
            told.append(' ').append(letters[i]).append('-').append(letters[i + 1]);
            x.letter(letters[i], letters[i + 1]);
            backwards.letter(letters[letters.length - 2 - i], letters[letters.length - 1 - i]);
        }
        Check.due(told + ": couples", x.cross(0), couples);
        Check.due(told + ": roads", x.cross(1), roads);
        Check.due(told + ": couples backwards", backwards.cross(0), couples);
        Check.due(told + ": roads backwards", backwards.cross(1), roads);
    }

    /** The later sent comes earlier: not at one minute; on no road two that cross. */
    private static void crossed() {
        cross(0, 1, 1, 5, 2, 6);
        cross(1, 2, 1, 6, 2, 5);
        cross(0, 1, 1, 5, 2, 5);
        cross(0, 1, 1, 5, 1, 6);
        cross(0, 1, 1, 5, 1, 5);
        cross(0, 1, 0, 99, 0, 1);
        cross(0, 1, 50, 99, 50, 60);
        cross(0, 1, 98, 99, 97, 99, 0, 99);
        cross(0, 1, 97, 98, 97, 99);
        cross(1, 2, 96, 99, 97, 98);
        cross(0, 1, 1, 2, 2, 3, 3, 4);
        cross(1, 2, 0, 99, 1, 98);
        cross(1, 2, 0, 99, 97, 98);
        cross(0, 1, 0, 98, 1, 99);
        cross(1, 2, 0, 3, 1, 2);
        cross(3, 3, 0, 9, 1, 8, 2, 7);
        cross(2, 2, 0, 9, 1, 7, 2, 8);
        cross(2, 2, 0, 8, 1, 9, 2, 7);
        cross(2, 2, 0, 20, 1, 19, 2, 30, 3, 29);
        cross(2, 2, 0, 9, 5, 8, 5, 7);
        cross(2, 2, 0, 9, 5, 7, 6, 7);
        cross(3, 3, 4, 20, 5, 19, 6, 18, 0, 1, 40, 41);
        // Two that each cross the third, but not one another.
        cross(2, 2, 0, 20, 0, 15, 1, 10);
        cross(2, 2, 0, 20, 1, 10, 11, 30, 12, 25);
    }

    // ---- BELL

    /** A set of 12 bits, not none; what 0 or 1; all rung: 0. */
    private static void bell() {
        LateOrders x = new LateOrders();
        int[] none = {0, -1, 4096, 4097, 8191, MIN, MAX};
        for (int set : none) {
            Check.due("bell(" + set + ", 0)", x.bell(set, 0), -1);
            Check.due("bell(" + set + ", 1)", x.bell(set, 1), -1);
        }
        int[] whats = {-1, 2, MIN, MAX};
        for (int what : whats) {
            Check.due("bell(4095, " + what + ")", x.bell(4095, what), -1);
        }
        Check.due("all rung: the day", x.bell(4095, 0), 0);
        Check.due("all rung: the last, of all the least", x.bell(4095, 1), 0);
        for (int p = 0; p < 12; p++) {
            Check.due("without ROADS not all: the day", x.bell(4095 - (1 << p), 0), -1);
            Check.due("without ROADS not all: the last", x.bell(4095 - (1 << p), 1), -1);
        }
    }

    /** On a row of all twelve, and with one PLACE apart from it. */
    private static void bellOnARow() {
        LateOrders x = new LateOrders();
        Check.reads(x, 3, row(0, 11), 11);
        for (int p = 0; p < 12; p++) {
            Check.due("from " + p, x.bell(1 << p, 0), Math.max(p, 11 - p));
            Check.due("the last from " + p, x.bell(1 << p, 1), p > 5 ? 0 : 11);
            Check.due("all but " + p, x.bell(4095 - (1 << p), 0), 1);
            Check.due("all but " + p + ": the last", x.bell(4095 - (1 << p), 1), p);
        }
        Check.due("all but two: the least", x.bell(4095 - (1 << 3) - (1 << 8), 1), 3);
        Check.due("from both ends: the day", x.bell(1 + (1 << 11), 0), 5);
        Check.due("from both ends: the last, the least of two", x.bell(1 + (1 << 11), 1), 5);
        Check.reads(x, 3, row(0, 10), 10);
        Check.due("11 is apart", x.bell(2047, 0), -1);
        Check.due("11 is apart: the last", x.bell(2047, 1), -1);
        Check.due("11 is rung, too", x.bell(2049, 0), 10);
        Check.due("11 is rung, too: the last", x.bell(2049, 1), 10);
        Check.reads(x, 3, row(1, 11), 10);
        Check.due("0 is apart", x.bell(4094 - 2, 0), -1);
        Check.due("0 is rung, too", x.bell(1 + 2, 0), 10);
    }

    // ---- SITS

    /** Nobody: 0, 0, NONE; they can't: NONE, NONE; of several PLACES the least. */
    private static void sits() {
        LateOrders x = new LateOrders();
        int[] whats = {-1, 3, MIN, MAX};
        for (int what : whats) {
            Check.due("sits(" + what + ")", x.sits(what), -1);
        }
        sit("nobody", x, 0, 0, -1);
        x.subject(11, 0);
        sit("one at 11", x, 1, 0, 11);
        x.subject(0, 0);
        sit("two apart", x, 1, -1, -1);
        Check.reads(x, 3, "place 0 road 11;", 1);
        sit("two beside one another: the least", x, 1, 1, 0);
        x.subject(11, 0);
        sit("two at 11", x, 2, 1, 11);
        Check.reads(x, 3, "place 0 road 5;place 5 road 11;", 2);
        sit("by 5", x, 2, 2, 11);
        Check.reads(x, 3, row(0, 11), 11);
        sit("on a row", x, 2, 11, 11);
        x.subject(0, 0);
        sit("two and two: all are as good, the least", x, 2, 22, 0);
        for (int who = 4; who < 18; who++) {
            x.subject(who % 2 == 0 ? 3 : 8, 0);
        }
        // Two at 0, seven at 3, seven at 8, two at 11: the PLACES from 3 to 8 are as good.
        sit("eighteen", x, 7, 2 * 3 + 7 * 5 + 2 * 8, 3);
        x.set(0, 8, 9);
        x.set(0, 11, 9);
        x.set(5, 0, 6);
        x.days(1);
        sit("those ALIVE alone", x, 7, 6, 8);
        x.set(0, 8, 0);
        x.days(1);
        sit("two at 11 are left", x, 2, 0, 11);
        x.set(0, 11, 0);
        x.days(1);
        sit("nobody is left", x, 0, 0, -1);
    }

    private static void sit(String told, LateOrders x, int most, int roads, int which) {
        Check.due(told + ": sits(0)", x.sits(0), most);
        Check.due(told + ": sits(1)", x.sits(1), roads);
        Check.due(told + ": sits(2)", x.sits(2), which);
    }

    // ---- TURNS

    /** A row of 8 bits, n 0 .. 100000 (not asked of what 1); the ones beside it (round). */
    private static void lights() {
        LateOrders x = new LateOrders();
        int[] none = {-1, 256, 257, MIN, MAX};
        for (int row : none) {
            Check.due("lights(" + row + ", 0, 0)", x.lights(row, 0, 0), -1);
            Check.due("lights(" + row + ", 0, 1)", x.lights(row, 0, 1), -1);
        }
        int[] days = {-1, 100001, MIN, MAX};
        for (int n : days) {
            Check.due("lights(1, " + n + ", 0)", x.lights(1, n, 0), -1);
            Check.due("lights(0, " + n + ", 0)", x.lights(0, n, 0), -1);
            Check.due("n is not asked: " + n, x.lights(1, n, 1), 5);
        }
        int[] whats = {-1, 2, MIN, MAX};
        for (int what : whats) {
            Check.due("lights(1, 1, " + what + ")", x.lights(1, 1, what), -1);
        }
        for (int bit = 0; bit < 8; bit++) {
            Check.due("bit " + bit + " stays on day 0", x.lights(1 << bit, 0, 0), 1 << bit);
            Check.due("beside bit " + bit, x.lights(1 << bit, 1, 0), 1 << (bit + 1) % 8 | 1 << (bit + 7) % 8);
        }
        Check.due("0 stays", x.lights(0, 100000, 0), 0);
        Check.due("0 is as before", x.lights(0, 0, 1), 1);
        Check.due("255", x.lights(255, 0, 0), 255);
        Check.due("255 becomes 0", x.lights(255, 1, 0), 0);
        Check.due("255: behind two", x.lights(255, 0, 1), 2);
        Check.due("behind 100000", x.lights(1, 100000, 0), 0);
        Oracle o = new Oracle();
        for (int row = 0; row < 256; row++) {
            if (row % 64 == 0) {
                x = new LateOrders();
            }
            for (int n = 1; n <= 5; n++) {
                Check.due("lights(" + row + ", " + n + ", 0)", x.lights(row, n, 0), o.lights(row, n, 0));
            }
            Check.due("lights(" + row + ", 0, 1)", x.lights(row, 0, 1), o.lights(row, 0, 1));
        }
    }

    // ---- GAME

    /** n 1 .. 100000; at first not all: who is to begin with one, two or three loses. */
    private static void game() {
        LateOrders x = new LateOrders();
        int[] none = {0, -1, 100001, MIN, MAX};
        for (int n : none) {
            Check.due("game(" + n + ")", x.game(n), -1);
        }
        int[] first = {-1, -1, -1, 1, -1, 1, 2, -1, 1, 2, 3, 1, -1, 1, 2, 3, 1, 5, 1, 2, -1};
        for (int n = 1; n <= first.length; n++) {
            Check.due("game(" + n + ")", x.game(n), first[n - 1]);
        }
        // Who begins loses just with the numbers that are the sum of the two of them before.
        int a = 1;
        int b = 2;
        while (b <= 100000) {
            Check.due("game(" + b + ")", x.game(b), -1);
            if (b > 3) {
                Check.due("game(" + (b + 1) + ")", x.game(b + 1), 1);
                Check.due("game(" + (b + 2) + ")", x.game(b + 2), 2);
            }
            if (b > 2 && a + b + a <= 100000) {
                Check.due("game(" + (a + b + a) + ")", x.game(a + b + a), a);
            }
            int c = a + b;
            a = b;
            b = c;
        }
        Check.due("game(100000)", x.game(100000), 1);
        Check.due("game(99999)", x.game(99999), 3);
    }
}
