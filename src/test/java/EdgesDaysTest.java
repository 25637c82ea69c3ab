/** The edges that part 3 of the document names, and those of promises 7 and 14. */
public final class EdgesDaysTest {
    private static final int MIN = Integer.MIN_VALUE;
    private static final int MAX = Integer.MAX_VALUE;
    private static final int MARCH = 0;
    private static final int REST = 1;
    private static final int BUILD = 2;
    private static final int QUENCH = 3;
    private static final int STAND = 4;
    private static final int STOP = 5;

    private EdgesDaysTest() {
    }

    public static void main(String[] args) {
        howManyDays();
        theLastDay();
        noDay();
        drawBelowObeys();
        drawOfTheStanding();
        drawsWithoutSign();
        noDrawForNone();
        tired();
        rested();
        walls();
        quenched();
        fires();
        seaAbove();
        seaAtEachPlace();
        drowned();
        drownedBetween();
        fireUnderTheSea();
        marchesNowhere();
        marchesByTheFirst();
        eachToHisPlace();
        standingOfEach();
        standingRests();
        standingDoneOrNot();
        stops();
        tideOfTheDay();
        ledgerOfTheDay();
        ledgerBeyond();
        tiresAhead();
        bookLines();
        bookIsFull();
        bookIsFullOfEachKind();
        Check.close("EdgesDaysTest");
    }

    /** The STATE from which the next one is such: 1664525 has an inverse among ints. */
    private static int ahead(int next) {
        int inverse = 1;
        for (int i = 0; i < 6; i++) {
            inverse *= 2 - 1664525 * inverse;
        }
        return (next - 1013904223) * inverse;
    }

    private static LateOrders duchy(String law, int... places) {
        LateOrders x = new LateOrders();
        for (int place : places) {
            x.subject(place, 5);
        }
        Check.due("text(0) " + law, Check.tell(x, 0, law) >= 0, true);
        return x;
    }

    private static void book(LateOrders x, int line, int day, int what, int who, int much) {
        Check.due("book(" + line + ", 0)", x.book(line, 0), day);
        Check.due("book(" + line + ", 1)", x.book(line, 1), what);
        Check.due("book(" + line + ", 2)", x.book(line, 2), who);
        Check.due("book(" + line + ", 3)", x.book(line, 3), much);
    }

    // ---- days

    /** 1 .. 60. NONE, and nothing is done, if one can't be. */
    private static void howManyDays() {
        LateOrders x = duchy("obeys 1000;tires 0;", 0);
        x.order(BUILD, 0, 0, true);
        int[] none = {0, -1, 61, 62, MIN, MAX};
        for (int n : none) {
            Check.due("days(" + n + ")", x.days(n), -1);
            Check.due("no DAY", x.look(5), 0);
            Check.due("the order is today's", x.look(6), 1);
            Check.due("the order alone can be undone", x.look(14), 1);
        }
        Check.due("days(1)", x.days(1), 0);
        Check.due("days(2)", x.days(2), 2);
        Check.due("days(59)", x.days(59), 59);
        Check.due("days(60)", x.days(60), 60);
        Check.due("DAY", x.look(5), 122);
    }

    /** NONE, and nothing is done, if DAY would be above 9999. */
    private static void theLastDay() {
        LateOrders x = duchy("obeys 1000;tires 0;", 0);
        for (int i = 0; i < 166; i++) {
            x.days(60);
        }
        Check.due("DAY 9960", x.look(5), 9960);
        x.order(STAND, 0, 0, true);
        int[] none = {40, 41, 60, 61, MAX};
        for (int n : none) {
            Check.due("days(" + n + ")", x.days(n), -1);
            Check.due("still DAY 9960", x.look(5), 9960);
            Check.due("one given still", x.look(6), 1);
        }
        Check.due("days(38)", x.days(38), 37);
        Check.due("days(2) from 9998", x.days(2), -1);
        Check.due("DAY 9998", x.look(5), 9998);
        Check.due("days(1)", x.days(1), 1);
        Check.due("DAY 9999", x.look(5), 9999);
        x.order(STOP, 0, 0, false);
        for (int n = -1; n <= 2; n++) {
            Check.due("days(" + n + ") from 9999", x.days(n), -1);
        }
        Check.due("DAY 9999 still", x.look(5), 9999);
        Check.due("an order can be given", x.look(6), 1);
        Check.reads(x, 0, "obeys 1000;grows day/1000;tires day-9999+1;", 3);
        Check.due("grows by DAY 9999", x.place(0, 5), 9);
        Check.due("tires by DAY 9999", x.of(0, 7), 1);
        x.image(true);
        Check.due("gone back", x.image(false), true);
        Check.due("DAY 9999 of THE IMAGE", x.look(5), 9999);
    }

    /** A DAY without orders, SUBJECTS, TEXTS: DAY is one more. */
    private static void noDay() {
        LateOrders x = new LateOrders();
        Check.due("days(1)", x.days(1), 0);
        int[] due = {0, 0, 0, 0, 0, 1, 0, 0, 0, 0, 0, 0, 0, 0, 1};
        for (int what = 0; what < due.length; what++) {
            Check.due("look(" + what + ")", x.look(what), due[what]);
        }
        for (int p = 0; p < 12; p++) {
            Check.due("HIGH", x.place(p, 0), 5);
            Check.due("FIRE", x.place(p, 1), 0);
            Check.due("WALL", x.place(p, 2), 0);
        }
    }

    // ---- draws

    /** A DRAW of 1000: below it it is DONE; as much as it, or more, it is MISSED. */
    private static void drawBelowObeys() {
        int[] obeys = {1, 2, 499, 500, 999, 1000};
        for (int v : obeys) {
            int[] draws = {0, v - 1, v, v + 1, 999};
            for (int draw : draws) {
                if (draw > 999) {
                    continue;
                }
                LateOrders x = duchy("obeys " + v + ";", 0);
                x.order(BUILD, 0, 0, false);
                x.days(1);
                x.state(ahead(draw << 8));
                boolean done = draw < v;
                String call = "obeys " + v + ", draw " + draw;
                Check.due(call, x.days(1), done ? 1 : 0);
                Check.due(call + ": STATE", x.look(9), draw << 8);
                Check.due(call + ": MISSED", x.look(4), done ? 0 : 1);
                Check.due(call + ": DONE", x.of(0, 4), done ? 1 : 0);
                Check.due(call + ": TIRED", x.of(0, 2), done ? 5 : 0);
                Check.due(call + ": WALL", x.place(0, 2), done ? 3 : 0);
                book(x, 0, 1, done ? 0 : 1, 0, BUILD);
            }
        }
    }

    /** So is a STANDING, with a DRAW of its own. */
    private static void drawOfTheStanding() {
        int[] obeys = {1, 500, 1000};
        for (int v : obeys) {
            int[] draws = {v - 1, Math.min(999, v)};
            for (int draw : draws) {
                LateOrders x = duchy("obeys " + v + ";", 0);
                x.order(BUILD, 0, 0, true);
                x.days(2);
                int missed = x.look(4);
                int wall = x.place(0, 2);
                x.state(ahead(draw << 8));
                boolean done = draw < v;
                Check.due("STANDING, obeys " + v + ", draw " + draw, x.days(1), done ? 1 : 0);
                Check.due("STATE", x.look(9), draw << 8);
                Check.due("MISSED", x.look(4), done ? missed : missed + 1);
                Check.due("WALL", x.place(0, 2), done ? wall + 3 : wall);
                Check.due("it stays", x.of(0, 5), BUILD);
            }
        }
    }

    /** The highest 24 bits (without sign) modulo 1000. */
    private static void drawsWithoutSign() {
        int[] next = {0x80000000, 0x800000ff, 0xffffffff, 0xffffff00, 0x7fffffff, 0x000000ff, 0x0003e7ff, 0x0003e800};
        int[] draw = {608, 608, 215, 215, 607, 0, 999, 0};
        for (int i = 0; i < next.length; i++) {
            for (int more = 0; more < 2; more++) {
                LateOrders x = duchy("obeys " + (draw[i] + more) + ";", 0);
                x.order(STAND, 0, 0, false);
                x.days(1);
                x.state(ahead(next[i]));
                Check.due("draw " + draw[i] + " by " + next[i], x.days(1), more);
                Check.due("STATE", x.look(9), draw[i] + more == 0 ? ahead(next[i]) : next[i]);
            }
        }
    }

    /** Is it above 0, a DRAW; at 0 none, and it is MISSED. */
    private static void noDrawForNone() {
        LateOrders x = duchy("obeys 0-5;", 0);
        x.order(STAND, 0, 0, true);
        x.state(77);
        Check.due("two days", x.days(3), 0);
        Check.due("STATE stays", x.look(9), 77);
        Check.due("MISSED", x.look(4), 2);
        Check.reads(x, 0, "obeys 1;", 1);
        x.days(1);
        Check.due("a DRAW for 1", x.look(9), 77 * 1664525 + 1013904223);
        // stop is always obeyed: no DRAW, whatever obeys is.
        int state = x.look(9);
        x.order(STOP, 0, 0, false);
        Check.reads(x, 0, "obeys 1000 when what=5;obeys 0;", 2);
        x.days(2);
        Check.due("no DRAW for stop", x.look(9), state);
        Check.due("stopped", x.of(0, 5), -1);
        // The draw of 77 is 221, and the STANDING of one more day was MISSED.
        Check.due("stop is not MISSED", x.look(4), 4);
    }

    // ---- what is DONE

    /** TIRED as much as tires more (99 at most). */
    private static void tired() {
        int[][] rows = {{0, 0, 0}, {0, 1, 1}, {0, 99, 99}, {1, 98, 99}, {1, 99, 99}, {94, 5, 99}, {95, 5, 99}, {98, 0, 98}, {98, 1, 99},
            {99, 0, 99}, {99, 99, 99}};
        int[] whats = {MARCH, BUILD, QUENCH, STAND};
        for (int[] row : rows) {
            for (int what : whats) {
                LateOrders x = duchy("obeys 1000;tires " + row[1] + ";", 0);
                x.set(4, 0, row[0]);
                x.order(what, 0, 0, false);
                Check.due("done", x.days(2), 1);
                Check.due("TIRED " + row[0] + " and " + row[1] + " by " + what, x.of(0, 2), row[2]);
            }
        }
    }

    /** rest: TIRED 20 less (0 at least) instead of more. */
    private static void rested() {
        int[][] rows = {{0, 0}, {1, 0}, {19, 0}, {20, 0}, {21, 1}, {98, 78}, {99, 79}};
        for (int[] row : rows) {
            LateOrders x = duchy("obeys 1000;tires 99;", 0);
            x.set(4, 0, row[0]);
            x.order(REST, 0, 0, false);
            Check.due("done", x.days(2), 1);
            Check.due("rest of " + row[0], x.of(0, 2), row[1]);
            Check.due("DONE", x.of(0, 4), 1);
        }
    }

    /** build: WALL of where he is AT 3 more (99 at most). */
    private static void walls() {
        int[][] rows = {{0, 3}, {1, 4}, {95, 98}, {96, 99}, {97, 99}, {98, 99}, {99, 99}};
        int[] places = {0, 11};
        for (int[] row : rows) {
            for (int place : places) {
                LateOrders x = duchy("obeys 1000;", place);
                x.set(2, place, row[0]);
                x.order(BUILD, 0, 0, false);
                Check.due("done", x.days(2), 1);
                Check.due("WALL of " + row[0], x.place(place, 2), row[1]);
                Check.due("another one's", x.place(11 - place, 2), 0);
            }
        }
    }

    /** quench: FIRE there 5 less (0 at least); of 0 it does not grow. */
    private static void quenched() {
        int[][] rows = {{0, 0}, {1, 0}, {4, 0}, {5, 0}, {6, 2}, {99, 95}};
        int[] places = {0, 11};
        for (int[] row : rows) {
            for (int place : places) {
                LateOrders x = duchy("obeys 1000;grows 1;", place);
                x.order(QUENCH, 0, 0, false);
                x.days(1);
                x.set(1, place, row[0]);
                x.set(1, 11 - place, 50);
                Check.due("done", x.days(1), 1);
                Check.due("FIRE of " + row[0], x.place(place, 1), row[1]);
                Check.due("another one's", x.place(11 - place, 1), 51);
            }
        }
    }

    /** FIRE above 0: grows is asked: so much more (99 at most). */
    private static void fires() {
        int[][] rows = {{0, 99, 0}, {1, 0, 1}, {1, 1, 2}, {1, 97, 98}, {1, 98, 99}, {1, 99, 99}, {95, 3, 98}, {96, 3, 99}, {97, 3, 99},
            {99, 0, 99}, {99, 1, 99}, {99, 99, 99}};
        for (int[] row : rows) {
            LateOrders x = duchy("grows " + row[1] + ";");
            for (int p = 0; p < 12; p++) {
                x.set(1, p, row[0]);
            }
            x.days(1);
            for (int p = 0; p < 12; p++) {
                Check.due("FIRE " + row[0] + " by " + row[1] + " at " + p, x.place(p, 1), row[2]);
            }
        }
        LateOrders x = new LateOrders();
        x.set(1, 11, 1);
        x.days(1);
        Check.due("3, as none is told", x.place(11, 1), 4);
        // Of what is asked, what and zeal are 0.
        Check.reads(x, 0, "grows 7+what+zeal+tired+done;", 1);
        x.days(1);
        Check.due("7 more", x.place(11, 1), 11);
    }

    // ---- the sea

    /** SEA above HIGH and above WALL by 10. */
    private static void seaAbove() {
        int[][] dry = {{0, 0, 0}, {1, 1, 0}, {5, 5, 0}, {6, 7, 0}, {9, 9, 0}, {1, 0, 10}, {1, 0, 19}, {2, 0, 20}, {2, 1, 29}, {9, 8, 90},
            {9, 0, 99}, {5, 5, 50}, {3, 9, 99}, {1, 0, 20}, {1, 0, 99}, {3, 0, 99}, {8, 7, 99}, {0, 0, 99}};
        int[][] wet = {{1, 0, 0}, {1, 0, 9}, {2, 1, 0}, {2, 0, 10}, {2, 1, 19}, {6, 5, 0}, {6, 5, 59}, {9, 8, 0}, {9, 8, 89}, {9, 0, 80}};
        for (int[] row : dry) {
            Check.due("SEA " + row[0] + ", HIGH " + row[1] + ", WALL " + row[2], drowns(row), 0);
        }
        for (int[] row : wet) {
            Check.due("SEA " + row[0] + ", HIGH " + row[1] + ", WALL " + row[2], drowns(row), 1);
        }
    }

    private static int drowns(int[] row) {
        LateOrders x = new LateOrders();
        x.subject(7, 0);
        x.set(5, 0, row[0]);
        x.set(0, 7, row[1]);
        x.set(2, 7, row[2]);
        x.set(1, 7, 50);
        x.days(1);
        Check.due("FIRE", x.place(7, 1), x.of(0, 3) == 1 ? 53 : 0);
        Check.due("DROWNED", x.look(3), 1 - x.of(0, 3));
        return x.look(3);
    }

    /** PLACE by PLACE, of the first and of the last; each SUBJECT, the first and the last. */
    private static void seaAtEachPlace() {
        for (int place = 0; place < 12; place++) {
            LateOrders x = new LateOrders();
            for (int who = 0; who < 18; who++) {
                x.subject(who == 0 || who == 17 ? place : (place + 1 + who % 11) % 12, 0);
            }
            for (int p = 0; p < 12; p++) {
                x.set(0, p, p == place ? 5 : 6);
            }
            x.set(5, 0, 6);
            x.days(1);
            Check.due("at " + place, x.look(1), (1 << 18) - 1 - (1 << 17) - 1);
            Check.due("none is at it", x.place(place, 3), 0);
            Check.due("DROWNED", x.look(3), 2);
            book(x, 0, 0, 3, 0, place);
            book(x, 1, 0, 3, 17, place);
            Check.due("two lines", x.look(8), 2);
        }
    }

    /** All AT it ALIVE drown: once; not ALIVE, DROWNED one more each. */
    private static void drowned() {
        LateOrders x = new LateOrders();
        for (int who = 0; who < 18; who++) {
            x.subject(who < 9 ? 11 : 0, 0);
        }
        x.set(5, 0, 9);
        x.days(1);
        Check.due("all", x.look(3), 18);
        Check.due("none is ALIVE", x.look(1), 0);
        for (int line = 0; line < 18; line++) {
            Check.due("PLACE by PLACE, who", x.book(line, 2), line < 9 ? line + 9 : line - 9);
            Check.due("PLACE by PLACE, where", x.book(line, 3), line < 9 ? 0 : 11);
        }
        x.days(5);
        Check.due("once", x.look(3), 18);
        Check.due("18 lines", x.look(8), 18);
        Check.due("SUBJECTS still", x.look(0), 18);
    }

    /** What was ordered of one who is not ALIVE then: not DONE, not MISSED, no line, no DRAW; nor his STANDING. */
    private static void drownedBetween() {
        for (int what = 0; what < 6; what++) {
            LateOrders x = duchy("obeys 500;", 0, 1);
            x.set(0, 1, 9);
            x.order(BUILD, 0, 0, true);
            x.days(2);
            x.order(what, 0, 1, what < 5);
            x.set(5, 0, 9);
            x.days(1);
            Check.due("0 drowned", x.look(1), 2);
            int[] before = {x.look(4), x.look(8), x.look(9), x.of(0, 2), x.of(0, 4), x.of(0, 5), x.place(0, 2)};
            Check.due("his order is there", x.look(7), 1);
            Check.due("nothing is DONE: " + what, x.days(1), 0);
            Check.due("nor by a STANDING", x.days(2), 0);
            int[] after = {x.look(4), x.look(8), x.look(9), x.of(0, 2), x.of(0, 4), x.of(0, 5), x.place(0, 2)};
            for (int i = 0; i < before.length; i++) {
                Check.due("nothing changes: " + i, after[i], before[i]);
            }
            Check.due("where he is", x.of(0, 0), 0);
        }
    }

    /** FIRE is 0 there, though it has grown on that day and the TIDE has told of it. */
    private static void fireUnderTheSea() {
        LateOrders x = new LateOrders();
        Check.reads(x, 2, "on 0 sea 6;on 0 fire 0 99;on 0 fire 11 1;on 1 sea 5;", 4);
        x.set(0, 5, 6);
        x.set(1, 5, 10);
        x.set(1, 6, 10);
        x.days(1);
        int[] due = {0, 0, 0, 0, 0, 13, 0, 0, 0, 0, 0, 0};
        for (int p = 0; p < 12; p++) {
            Check.due("FIRE of " + p, x.place(p, 1), due[p]);
        }
        x.set(1, 6, 10);
        x.days(1);
        Check.due("on the shore it grows", x.place(6, 1), 13);
    }

    // ---- march

    /** AT it already, or no way: where he is; DONE all the same. */
    private static void marchesNowhere() {
        LateOrders x = duchy("obeys 1000;", 0, 11);
        Check.reads(x, 3, "place 0 road 1;place 10 road 11;", 2);
        int[][] rows = {{0, 0}, {0, 11}, {0, 5}, {1, 11}, {1, 0}, {1, 5}};
        for (int[] row : rows) {
            x.order(MARCH, row[0], row[1], false);
        }
        x.days(1);
        Check.due("six are DONE", x.days(1), 6);
        Check.due("0 is where he is", x.of(0, 0), 0);
        Check.due("1 is where he is", x.of(1, 0), 11);
        Check.due("TIRED of it", x.of(0, 2), 15);
        x.order(MARCH, 0, 1, false);
        x.order(MARCH, 1, 10, false);
        x.days(2);
        Check.due("one road on", x.of(0, 0), 1);
        Check.due("one road back", x.of(1, 0), 10);
        // Without ROADS there is no way at all.
        Check.reads(x, 3, "", 0);
        x.order(MARCH, 0, 0, false);
        x.days(2);
        Check.due("no way back", x.of(0, 0), 1);
    }

    /** One road nearer, by the first PLACE (by number) by which the way is shortest: not by a longer one that is less. */
    private static void marchesByTheFirst() {
        LateOrders x = duchy("obeys 1000;tires 0;", 6);
        // From 6 to 11: 6 9 11, 6 8 11; 6 0 1 11 is longer.
        Check.reads(x, 3, "place 6 road 0;place 0 road 1;place 1 road 11;place 6 road 9;place 9 road 11;place 6 road 8;place 8 road 11;", 7);
        x.order(MARCH, 0, 11, true);
        x.days(2);
        Check.due("by 8", x.of(0, 0), 8);
        x.days(1);
        Check.due("at 11", x.of(0, 0), 11);
        Check.due("there he stays", x.days(3), 3);
        Check.due("at 11 still", x.of(0, 0), 11);
        // From one end of all to the other: eleven roads.
        StringBuilder row = new StringBuilder();
        for (int p = 0; p < 11; p++) {
            row.append("place ").append(p).append(" road ").append(p + 1).append(';');
        }
        Check.reads(x, 3, row.toString(), 11);
        x.order(MARCH, 0, 0, true);
        x.days(11);
        Check.due("ten roads", x.of(0, 0), 1);
        x.days(1);
        Check.due("eleven", x.of(0, 0), 0);
    }

    /** Each SUBJECT's own PLACE and his own STANDING, from the first to the last. */
    private static void eachToHisPlace() {
        LateOrders x = new LateOrders();
        for (int who = 0; who < 18; who++) {
            x.subject(0, 9);
        }
        Check.reads(x, 0, "obeys 1000;", 1);
        StringBuilder star = new StringBuilder();
        for (int p = 1; p < 12; p++) {
            star.append("place 0 road ").append(p).append(';');
        }
        Check.reads(x, 3, star.toString(), 11);
        for (int who = 0; who < 18; who++) {
            x.order(MARCH, who, 1 + who % 11, who % 2 == 0);
        }
        x.days(1);
        Check.due("all of them", x.days(1), 18);
        for (int who = 0; who < 18; who++) {
            Check.due("where " + who + " is", x.of(who, 0), 1 + who % 11);
            Check.due("STANDING of " + who, x.of(who, 5), who % 2 == 0 ? 10 * (1 + who % 11) : -1);
            book(x, who, 1, 0, who, MARCH);
        }
        // And back to 0: 11 orders that go on replace those STANDING.
        for (int who = 0; who < 18; who++) {
            x.order(MARCH, who, 0, true);
        }
        x.days(2);
        for (int who = 0; who < 18; who++) {
            Check.due(who + " is back", x.of(who, 0), 0);
            Check.due("STANDING of " + who + " now", x.of(who, 5), 0);
        }
    }

    // ---- STANDING

    /** SUBJECT by SUBJECT, the first and the last. */
    private static void standingOfEach() {
        LateOrders x = new LateOrders();
        for (int who = 0; who < 18; who++) {
            x.subject(who % 12, 9);
        }
        Check.reads(x, 0, "obeys 1000;tires 0;", 2);
        for (int who = 17; who >= 0; who--) {
            x.order(1 + who % 4, who, 0, true);
        }
        x.days(2);
        Check.due("18 lines", x.look(8), 18);
        Check.due("all of them", x.days(1), 18);
        for (int who = 0; who < 18; who++) {
            Check.due("given backwards", x.book(who, 2), 17 - who);
            book(x, 18 + who, 2, 0, who, 1 + who % 4);
        }
    }

    /** Those who had none of these today: not one who MISSED what he had, nor one who had stop alone. */
    private static void standingRests() {
        LateOrders x = duchy("obeys 0 when what=4;obeys 1000;", 0, 1, 2);
        for (int who = 0; who < 3; who++) {
            x.order(BUILD, who, 0, true);
        }
        x.days(2);
        x.order(STAND, 0, 0, false);
        x.order(REST, 1, 0, false);
        x.days(1);
        int[] then = {x.place(0, 2), x.place(1, 2), x.place(2, 2)};
        Check.due("rest of 1, STANDING of 2", x.days(1), 2);
        Check.due("0 missed what he had", x.place(0, 2), then[0]);
        Check.due("1 rested", x.place(1, 2), then[1]);
        Check.due("2 went on", x.place(2, 2), then[2] + 3);
        Check.due("then all go on", x.days(1), 3);
        // Two orders of one day are both done, and his STANDING isn't.
        x.order(QUENCH, 2, 0, false);
        x.order(REST, 2, 0, false);
        x.days(1);
        int wall = x.place(2, 2);
        Check.due("two of 2, and two STANDING", x.days(1), 4);
        Check.due("no WALL", x.place(2, 2), wall);
    }

    /** If it goes on, it is his STANDING (DONE or not), instead of another one; if not, it leaves it. */
    private static void standingDoneOrNot() {
        for (int what = 0; what < 5; what++) {
            for (int obeys = 0; obeys < 2; obeys++) {
                LateOrders x = duchy("obeys " + 1000 * obeys + ";", 3);
                x.order(what, 0, 7, true);
                x.days(1);
                Check.due("not yet", x.of(0, 5), -1);
                Check.due("DONE or not", x.days(1), obeys);
                Check.due("his STANDING", x.of(0, 5), what == MARCH ? 70 : what);
                x.order((what + 1) % 5, 0, 8, false);
                x.days(2);
                Check.due("it stays", x.of(0, 5), what == MARCH ? 70 : what);
                x.order((what + 1) % 5, 0, 8, true);
                x.days(2);
                Check.due("another one", x.of(0, 5), what == STAND ? 80 : what + 1);
                x.order(BUILD, 0, 0, true);
                x.order(QUENCH, 0, 0, true);
                x.order(REST, 0, 0, false);
                x.days(2);
                Check.due("the later of two", x.of(0, 5), QUENCH);
            }
        }
    }

    /** stop: he has no STANDING any more (always obeyed); without one too: NONE. */
    private static void stops() {
        for (int what = 0; what < 5; what++) {
            LateOrders x = duchy("obeys 0;", 3);
            x.order(what, 0, 11, true);
            x.order(STOP, 0, 0, false);
            x.order(STOP, 0, 0, false);
            x.days(1);
            Check.due("stops are not counted", x.days(1), 0);
            Check.due("no STANDING", x.of(0, 5), -1);
            book(x, 0, 1, 1, 0, what);
            book(x, 1, 1, 2, 0, what);
            book(x, 2, 1, 2, 0, -1);
            Check.due("MISSED one", x.look(4), 1);
            Check.due("DONE none", x.of(0, 4), 0);
            Check.due("not TIRED", x.of(0, 2), 0);
            x.order(STOP, 0, 0, false);
            x.order(what, 0, 11, true);
            x.days(2);
            Check.due("what goes on behind a stop", x.of(0, 5), what == MARCH ? 110 : what);
        }
        // Of a STANDING march it is the what alone, whatever its PLACE.
        for (int place = 0; place < 12; place++) {
            LateOrders x = duchy("obeys 0;", 3);
            x.order(MARCH, 0, place, true);
            x.days(2);
            Check.due("STANDING", x.of(0, 5), 10 * place);
            x.order(STOP, 0, 0, false);
            x.days(2);
            book(x, 0, 1, 1, 0, MARCH);
            book(x, 1, 2, 1, 0, MARCH);
            book(x, 2, 3, 2, 0, MARCH);
        }
    }

    // ---- TEXTS by days

    /** Line by line of TIDE for it: DAYS 0 and 999 too, and each only on its own. */
    private static void tideOfTheDay() {
        LateOrders x = new LateOrders();
        Check.reads(x, 0, "grows 0;", 1);
        Check.reads(x, 2, "on 999 sea 3;on 0 sea 1;on 0 sea 2;on 999 fire 11 99;on 1 fire 0 1;on 1 fire 0 0;on 0 fire 11 5;on 998 sea 0;", 8);
        Check.due("before", x.look(2), 0);
        x.days(1);
        Check.due("DAY 0: the later line", x.look(2), 2);
        Check.due("DAY 0: fire", x.place(11, 1), 5);
        x.days(1);
        Check.due("DAY 1: fire out", x.place(0, 1), 0);
        x.set(5, 0, 4);
        x.set(1, 11, 6);
        for (int i = 0; i < 16; i++) {
            x.days(i == 0 ? 36 : 60);
        }
        x.days(60);
        Check.due("DAY 998", x.look(5), 998);
        Check.due("what was set stays", x.look(2), 4);
        Check.due("fire, too", x.place(11, 1), 6);
        x.days(1);
        Check.due("DAY 998: sea", x.look(2), 0);
        Check.due("not yet", x.place(11, 1), 6);
        x.days(1);
        Check.due("DAY 999: sea", x.look(2), 3);
        Check.due("DAY 999: fire", x.place(11, 1), 99);
        x.set(5, 0, 1);
        x.days(60);
        Check.due("no more", x.look(2), 1);
    }

    /** ORDERS given today by LEDGER for this DAY: 0 and 999 too. */
    private static void ledgerOfTheDay() {
        LateOrders x = duchy("obeys 1000;tires 0;", 0);
        Check.reads(x, 1, "on 999 order 0 build;on 0 order 0 build;on 1 order 0 quench;", 3);
        Check.due("DAY 0", x.days(1), 0);
        Check.due("one given", x.look(7), 1);
        Check.due("none by hand", x.look(6), 0);
        Check.due("DAY 1", x.days(1), 1);
        Check.due("built", x.place(0, 2), 3);
        Check.due("one given", x.look(7), 1);
        Check.due("DAY 2", x.days(1), 1);
        Check.due("none given", x.look(7), 0);
        for (int i = 0; i < 16; i++) {
            Check.due("nothing", x.days(60), 0);
        }
        Check.due("to DAY 999", x.days(36), 0);
        Check.due("DAY 999", x.look(5), 999);
        Check.due("none given", x.look(7), 0);
        Check.due("DAY 999", x.days(1), 0);
        Check.due("one given", x.look(7), 1);
        Check.due("DAY 1000", x.days(1), 1);
        Check.due("built", x.place(0, 2), 6);
        Check.due("nothing more", x.days(60), 0);
    }

    /** 24 a day at most; LEDGER's beyond it are not given, nor on another day. */
    private static void ledgerBeyond() {
        for (int hand = 20; hand <= 24; hand++) {
            LateOrders x = duchy("obeys 1000;tires 0;", 0, 1);
            Check.reads(x, 1, "on 0 order 1 build;on 0 order 1 quench;on 0 order 1 build;", 3);
            for (int i = 0; i < hand; i++) {
                x.order(REST, 0, 0, false);
            }
            int given = Math.min(24, hand + 3);
            x.days(1);
            Check.due("by hand " + hand + ": given", x.look(7), given);
            Check.due("all are DONE", x.days(1), given);
            Check.due("by 0", x.of(0, 4), hand);
            Check.due("by 1", x.of(1, 4), given - hand);
            Check.due("built", x.place(1, 2), given - hand == 3 ? 6 : given - hand > 0 ? 3 : 0);
            if (given > hand) {
                book(x, hand, 1, 0, 1, BUILD);
            }
            Check.due("no more", x.days(3), 0);
        }
        // LEDGER alone gives sixteen.
        LateOrders x = duchy("obeys 1000;tires 0;", 0);
        Check.reads(x, 1, "on 0 order 0 build;".repeat(16), 16);
        x.days(1);
        Check.due("sixteen", x.look(7), 16);
        Check.due("sixteen DONE", x.days(1), 16);
    }

    /** tires is asked ahead of what he does, with DONE and TIRED as they were ahead of this. */
    private static void tiresAhead() {
        LateOrders x = duchy("obeys 1000;tires 1+10*done+wall;", 0);
        x.order(BUILD, 0, 0, false);
        x.order(BUILD, 0, 0, false);
        x.days(2);
        // 1, then 1 + 10 + 3
        Check.due("by DONE and WALL", x.of(0, 2), 15);
        LateOrders y = duchy("obeys 1000;tires 20+tired;", 0);
        y.order(STAND, 0, 0, false);
        y.order(STAND, 0, 0, false);
        y.days(2);
        // 20, then 20 + 20
        Check.due("by TIRED", y.of(0, 2), 60);
        LateOrders z = duchy("obeys 1000;tires 30 when high=9;tires 1;", 0);
        Check.reads(z, 3, "place 0 road 1;", 1);
        z.set(0, 1, 9);
        z.order(MARCH, 0, 1, false);
        z.days(2);
        Check.due("where he went from", z.of(0, 2), 1);
        LateOrders q = duchy("obeys 1000;tires fire;grows 0;", 0);
        q.set(1, 0, 7);
        q.order(QUENCH, 0, 0, false);
        q.days(2);
        Check.due("the FIRE before", q.of(0, 2), 7);
        // obeys, too, is asked with what is before: done is 0, then 1, then 1 again.
        LateOrders d = duchy("obeys 1000 when done=0;obeys 0;", 0);
        for (int i = 0; i < 3; i++) {
            d.order(STAND, 0, 0, false);
        }
        d.days(1);
        Check.due("one of three", d.days(1), 1);
        Check.due("two MISSED", d.look(4), 2);
    }

    // ---- THE BOOK

    /** NONE - 1 if there is none such line, or another what. */
    private static void bookLines() {
        LateOrders x = duchy("obeys 1000;", 11);
        int[] none = {-1, 0, 1, 149, 150, MIN, MAX};
        for (int i : none) {
            Check.due("empty: book(" + i + ", 0)", x.book(i, 0), -2);
        }
        x.order(STOP, 0, 0, false);
        x.days(2);
        book(x, 0, 1, 2, 0, -1);
        int[] others = {-1, 4, 5, MIN, MAX};
        for (int what : others) {
            Check.due("book(0, " + what + ")", x.book(0, what), -2);
        }
        int[] beyond = {-1, 1, 2, 149, 150, 600, MIN, MAX};
        for (int i : beyond) {
            for (int what = 0; what < 4; what++) {
                Check.due("book(" + i + ", " + what + ")", x.book(i, what), -2);
            }
        }
    }

    /** 150 lines; no more then: of what is behind the 150th on one day nothing is written. */
    private static void bookIsFull() {
        for (int who = 1; who <= 3; who++) {
            LateOrders x = duchy("obeys 1000;tires 0;", 0, 1, 2);
            for (int i = 0; i < who; i++) {
                x.order(BUILD, i, 0, true);
            }
            int days = (149 + who - 1) / who;
            x.days(1);
            for (int left = days; left > 0; left -= 60) {
                x.days(Math.min(60, left));
            }
            Check.due("lines", x.look(8), Math.min(150, days * who));
            if (days * who < 150) {
                book(x, 149 - 1, 149 / who, 0, 148 % who, BUILD);
                Check.due("the 150th is not there", x.book(149, 0), -2);
            }
            x.days(1);
            Check.due("150 lines", x.look(8), 150);
            book(x, 149, 1 + 149 / who, 0, 149 % who, BUILD);
            book(x, 148, 1 + 148 / who, 0, 148 % who, BUILD);
            Check.due("no 151st", x.book(150, 0), -2);
            int done = x.of(0, 4);
            x.days(60);
            Check.due("days go on", x.of(0, 4), done + 60);
            Check.due("150 lines still", x.look(8), 150);
            book(x, 149, 1 + 149 / who, 0, 149 % who, BUILD);
            book(x, 0, 1, 0, 0, BUILD);
            Check.due("no 151st still", x.book(150, 0), -2);
        }
    }

    /** Nor what was missed, stopped or drowned beyond them; but it is so. */
    private static void bookIsFullOfEachKind() {
        LateOrders x = duchy("obeys 0 when what=3;obeys 1000;", 0);
        x.order(STAND, 0, 0, true);
        x.days(60);
        x.days(60);
        x.days(31);
        Check.due("150 lines", x.look(8), 150);
        x.order(QUENCH, 0, 0, true);
        x.days(2);
        Check.due("MISSED", x.look(4), 1);
        Check.due("his STANDING", x.of(0, 5), QUENCH);
        x.order(STOP, 0, 0, false);
        x.days(2);
        Check.due("stopped", x.of(0, 5), -1);
        x.set(5, 0, 6);
        x.days(1);
        Check.due("DROWNED", x.look(3), 1);
        Check.due("150 lines still", x.look(8), 150);
        book(x, 149, 150, 0, 0, STAND);
        Check.due("no 151st", x.book(150, 0), -2);
    }
}
