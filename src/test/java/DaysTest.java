/** Promises 7 and 14: DAYS, what is done on them, THE BOOK. */
public final class DaysTest {
    private DaysTest() {
    }

    public static void main(String[] args) {
        howMany();
        aDayLate();
        draws();
        deeds();
        marches();
        standing();
        tide();
        fires();
        drowning();
        ledger();
        ledgerBeyond();
        order();
        fullBook();
        lastDay();
        Check.close("DaysTest");
    }

    private static LateOrders duchy(int... places) {
        LateOrders x = new LateOrders();
        for (int place : places) {
            x.subject(place, 5);
        }
        Check.reads(x, 0, "obeys 1000;", 1);
        return x;
    }

    private static void howMany() {
        LateOrders x = duchy(0);
        Check.due("days(0)", x.days(0), -1);
        Check.due("days(-1)", x.days(-1), -1);
        Check.due("days(61)", x.days(61), -1);
        Check.due("no day", x.look(5), 0);
        x.order(4, 0, 0, true);
        Check.due("days(60)", x.days(60), 59);
        Check.due("60 days", x.look(5), 60);
        Check.due("days(1)", x.days(1), 1);
    }

    private static void aDayLate() {
        LateOrders x = duchy(0);
        x.order(2, 0, 0, false);
        Check.due("not yet", x.place(0, 2), 0);
        Check.due("days(1)", x.days(1), 0);
        Check.due("not today", x.place(0, 2), 0);
        x.order(4, 0, 0, false);
        Check.due("days(1)", x.days(1), 1);
        Check.due("tomorrow", x.place(0, 2), 3);
        Check.due("days(1)", x.days(1), 1);
        Check.due("once", x.place(0, 2), 3);
        Check.due("days(1)", x.days(1), 0);
        Check.due("done", x.of(0, 4), 2);
        Check.due("tired", x.of(0, 2), 10);
    }

    private static void book(LateOrders x, int line, int day, int what, int who, int much) {
        Check.due("book(" + line + ", 0)", x.book(line, 0), day);
        Check.due("book(" + line + ", 1)", x.book(line, 1), what);
        Check.due("book(" + line + ", 2)", x.book(line, 2), who);
        Check.due("book(" + line + ", 3)", x.book(line, 3), much);
    }

    private static void draws() {
        // From STATE 0 the draws of 1000 are 563, 577, 494: 1013904223, 1196435762, -775096599, each by 256.
        LateOrders x = duchy(0, 1, 2);
        Check.reads(x, 0, "obeys 563 when high=5;obeys 578 when high=6;obeys 0 when high=7;obeys 1000;", 4);
        x.set(0, 1, 6);
        x.set(0, 2, 7);
        x.order(4, 0, 0, false);
        x.order(3, 2, 0, false);
        x.order(2, 1, 0, false);
        x.days(1);
        Check.due("no draw yet", x.look(9), 0);
        Check.due("one of three", x.days(1), 1);
        Check.due("two draws", x.look(9), 1196435762);
        Check.due("missed", x.look(4), 2);
        Check.due("0 missed it", x.of(0, 4), 0);
        Check.due("0 is not tired", x.of(0, 2), 0);
        Check.due("1 did it", x.of(1, 4), 1);
        book(x, 0, 1, 1, 0, 4);
        book(x, 1, 1, 1, 2, 3);
        book(x, 2, 1, 0, 1, 2);
        // A draw even of one who always obeys.
        x.set(0, 2, 8);
        x.order(4, 2, 0, false);
        x.days(2);
        Check.due("a third draw", x.look(9), -775096599);
        Check.due("he did it", x.of(2, 4), 1);
        x.set(0, 0, 6);
        x.state(0);
        x.order(4, 0, 0, false);
        x.days(2);
        Check.due("563 is below 578", x.of(0, 4), 1);
        // The third STATE is below 0, its highest 24 bits are 13749494: 494 modulo 1000.
        LateOrders y = duchy(0);
        Check.reads(y, 0, "obeys 494 when zeal=5;obeys 495;", 2);
        for (int zeal = 5; zeal < 7; zeal++) {
            y.state(1196435762);
            y.set(3, 0, zeal);
            y.order(4, 0, 0, false);
            Check.due("draw of a STATE below 0", y.days(2), zeal - 5);
            Check.due("that STATE", y.look(9), -775096599);
        }
    }

    private static void deeds() {
        LateOrders x = duchy(3);
        x.set(4, 0, 50);
        x.set(1, 3, 4);
        x.order(1, 0, 0, false);
        x.order(3, 0, 0, false);
        x.order(2, 0, 0, false);
        x.order(4, 0, 0, false);
        x.days(1);
        Check.due("fire grows ahead", x.place(3, 1), 7);
        Check.due("four deeds", x.days(1), 4);
        // 50 - 20 + 5 + 5 + 5
        Check.due("tired", x.of(0, 2), 45);
        Check.due("done", x.of(0, 4), 4);
        Check.due("wall", x.place(3, 2), 3);
        Check.due("fire: 5 less, 3 more", x.place(3, 1), 5);
        x.set(4, 0, 19);
        x.set(1, 3, 4);
        x.set(2, 3, 97);
        x.order(1, 0, 0, false);
        x.order(2, 0, 0, false);
        x.days(1);
        x.set(1, 3, 4);
        x.order(3, 0, 0, false);
        x.days(1);
        Check.due("rest to 0 at least", x.of(0, 2), 5);
        Check.due("wall to 99 at most", x.place(3, 2), 99);
        x.set(1, 3, 4);
        x.days(1);
        Check.due("fire to 0 at least, and none grows", x.place(3, 1), 0);
        x.set(4, 0, 97);
        x.order(4, 0, 0, false);
        x.days(2);
        Check.due("tired to 99 at most", x.of(0, 2), 99);
        x.order(1, 0, 0, false);
        x.days(2);
        Check.due("rest instead of more", x.of(0, 2), 79);
    }

    private static void marches() {
        LateOrders x = duchy(0);
        // From 0 to 5: by 2 and 4, or by 3 and 1; both three roads.
        Check.reads(x, 3, "place 0 road 3;place 3 road 1;place 1 road 5;place 0 road 2;place 2 road 4;place 4 road 5;"
            + "place 5 road 6;place 7 road 8;", 8);
        x.order(0, 0, 6, true);
        x.days(1);
        int[] way = {2, 4, 5, 6, 6};
        for (int i = 0; i < way.length; i++) {
            Check.due("day " + i, x.days(1), 1);
            Check.due("on the way " + i, x.of(0, 0), way[i]);
        }
        Check.due("tires even there", x.of(0, 2), 25);
        x.order(0, 0, 7, false);
        x.order(0, 0, 0, false);
        x.days(2);
        Check.due("no way to 7; one road nearer to 0", x.of(0, 0), 5);
        Check.due("standing stays", x.of(0, 5), 60);
        x.order(0, 0, 0, false);
        x.order(0, 0, 0, false);
        x.days(2);
        Check.due("back by 6, then 5 and 1", x.of(0, 0), 1);
        Check.reads(x, 3, "place 1 road 9;place 9 road 0;place 0 road 11;place 1 road 10;place 10 road 11;place 1 road 0;", 6);
        x.order(0, 0, 11, true);
        x.days(2);
        Check.due("by 0", x.of(0, 0), 0);
        x.order(5, 0, 0, false);
        x.days(2);
        Check.due("at 11", x.of(0, 0), 11);
        int last = x.look(8) - 1;
        Check.due("a march was stopped", x.book(last, 1), 2);
        Check.due("its what", x.book(last, 3), 0);
        Check.due("no standing", x.of(0, 5), -1);
        x.order(0, 0, 9, false);
        x.days(2);
        Check.due("to 9 by 0", x.of(0, 0), 0);
        x.order(0, 0, 10, false);
        x.days(2);
        Check.due("to 10 by 1", x.of(0, 0), 1);
        x.order(0, 0, 0, false);
        x.days(2);
        Check.due("to 0", x.of(0, 0), 0);
    }

    private static void standing() {
        LateOrders x = duchy(0, 0);
        x.order(2, 0, 0, true);
        x.days(1);
        Check.due("none yet", x.of(0, 5), -1);
        Check.due("first time", x.days(1), 1);
        Check.due("standing build", x.of(0, 5), 2);
        Check.due("goes on", x.days(3), 3);
        Check.due("wall", x.place(0, 2), 12);
        // Another order: today's standing rests, but stays.
        x.order(4, 0, 0, false);
        x.days(1);
        Check.due("he stands alone", x.days(1), 1);
        Check.due("wall of the day before", x.place(0, 2), 15);
        Check.due("standing stays", x.of(0, 5), 2);
        Check.due("and goes on", x.days(1), 1);
        Check.due("wall again", x.place(0, 2), 18);
        // Another one that goes on takes its place, even missed.
        Check.reads(x, 0, "obeys 0 when what=3;obeys 1000;", 2);
        x.order(3, 0, 0, true);
        x.days(1);
        Check.due("missed", x.days(1), 0);
        Check.due("standing quench", x.of(0, 5), 3);
        Check.due("one missed", x.look(4), 1);
        Check.due("missed again", x.days(2), 0);
        Check.due("three missed", x.look(4), 3);
        // Stop, always obeyed, not DONE.
        Check.reads(x, 0, "obeys 0;", 1);
        int done = x.of(0, 4);
        int lines = x.look(8);
        x.order(5, 0, 0, false);
        x.order(5, 0, 0, false);
        x.days(1);
        x.order(0, 0, 11, true);
        x.order(5, 0, 0, false);
        Check.due("stopped", x.days(1), 0);
        Check.due("no standing", x.of(0, 5), -1);
        Check.due("stop is not DONE", x.of(0, 4), done);
        Check.due("nor missed", x.look(4), 4);
        book(x, lines, 12, 1, 0, 3);
        book(x, lines + 1, 13, 2, 0, 3);
        book(x, lines + 2, 13, 2, 0, -1);
        Check.due("march, then stop", x.days(1), 0);
        Check.due("no standing again", x.of(0, 5), -1);
        book(x, lines + 3, 14, 1, 0, 0);
        book(x, lines + 4, 14, 2, 0, 0);
        Check.due("no more lines", x.look(8), lines + 5);
        x.order(0, 1, 11, true);
        x.days(2);
        Check.due("standing march", x.of(1, 5), 110);
    }

    private static void tide() {
        LateOrders x = duchy(0);
        Check.reads(x, 2, "on 1 sea 3;on 0 fire 2 98;on 1 sea 4;on 1 fire 3 0;on 3 fire 2 10;", 5);
        x.set(1, 3, 50);
        x.days(1);
        Check.due("sea on day 0", x.look(2), 0);
        Check.due("fire of 2, grown", x.place(2, 1), 99);
        Check.due("fire of 3", x.place(3, 1), 53);
        x.days(1);
        Check.due("sea on day 1, by the later line", x.look(2), 4);
        Check.due("fire of 3 is out", x.place(3, 1), 0);
        x.days(1);
        Check.due("sea stays", x.look(2), 4);
        Check.due("fire stays at its most", x.place(2, 1), 99);
        x.days(1);
        Check.due("fire is 10, and grows", x.place(2, 1), 13);
        // The tide comes ahead of what is done on that day.
        LateOrders y = duchy(0);
        Check.reads(y, 2, "on 1 fire 0 7;on 1 sea 2;", 2);
        Check.reads(y, 0, "obeys 1000 when sea=2;obeys 0;", 2);
        y.order(3, 0, 0, false);
        Check.due("put out", y.days(2), 1);
        Check.due("7 - 5 + 3", y.place(0, 1), 5);
    }

    private static void fires() {
        LateOrders x = duchy(1, 2, 2);
        Check.reads(x, 0, "obeys 1000;grows 0-5 when fire=7;grows crowd when fire<50;grows 1000;", 4);
        x.set(1, 0, 1);
        x.set(1, 1, 2);
        x.set(1, 2, 3);
        x.set(1, 3, 7);
        x.set(1, 4, 50);
        x.days(1);
        int[] due = {1, 3, 5, 7, 99, 0};
        for (int place = 0; place < due.length; place++) {
            Check.due("fire of " + place, x.place(place, 1), due[place]);
        }
        Check.reads(x, 0, "", 0);
        x.days(1);
        Check.due("fire of 0, as usual", x.place(0, 1), 4);
        Check.due("no fire of 5", x.place(5, 1), 0);
    }

    private static void drowning() {
        LateOrders x = duchy(3, 1, 3, 2, 4, 0);
        x.set(5, 0, 6);
        x.set(0, 2, 6);
        x.set(2, 4, 60);
        x.set(2, 3, 59);
        for (int place = 0; place < 12; place++) {
            x.set(1, place, 9);
        }
        x.order(0, 0, 5, true);
        Check.due("first day", x.days(1), 0);
        // 2 lies high, 4 has its wall; 3, with 59, has none enough.
        Check.due("alive", x.look(1), 1 << 3 | 1 << 4);
        Check.due("drowned", x.look(3), 4);
        book(x, 0, 0, 3, 5, 0);
        book(x, 1, 0, 3, 1, 1);
        book(x, 2, 0, 3, 0, 3);
        book(x, 3, 0, 3, 2, 3);
        Check.due("no line more", x.book(4, 0), -2);
        Check.due("fire of 2", x.place(2, 1), 12);
        Check.due("fire of 4", x.place(4, 1), 12);
        Check.due("fire of 3 is out", x.place(3, 1), 0);
        Check.due("fire of 11 is out, where nobody was", x.place(11, 1), 0);
        Check.due("where he lies", x.of(0, 0), 3);
        Check.due("not alive", x.of(0, 3), 0);
        Check.due("no order is done by him", x.days(1), 0);
        Check.due("nor missed", x.look(4), 0);
        Check.due("drowned once", x.look(3), 4);
        Check.due("nor standing", x.of(0, 5), -1);
        Check.due("line none such", x.book(0, 4), -2);
        Check.due("line none such", x.book(0, -1), -2);
        Check.due("line none such", x.book(-1, 0), -2);
        // He marches out of the sea's way on the day it comes.
        LateOrders y = duchy(0, 0);
        Check.reads(y, 3, "place 0 road 1;", 1);
        Check.reads(y, 2, "on 1 sea 9;", 1);
        y.set(0, 1, 9);
        y.order(0, 0, 1, false);
        y.order(2, 1, 0, true);
        Check.due("both obey", y.days(2), 2);
        Check.due("who marched lives", y.look(1), 1);
        Check.due("his standing, as it was", y.of(1, 5), 2);
        Check.due("is done no more", y.days(2), 0);
        y.set(5, 0, 0);
        Check.due("nor on dry land", y.days(1), 0);
    }

    private static void ledger() {
        LateOrders x = duchy(0, 1);
        Check.reads(x, 1, "on 0 order 1 build;on 2 order 0 march 1;on 0 order 0 build daily;on 4 order 0 stop;", 4);
        Check.reads(x, 3, "place 0 road 1;", 1);
        x.order(4, 1, 0, false);
        Check.due("by hand alone", x.look(6), 1);
        Check.due("day 0", x.days(1), 0);
        Check.due("by hand and by the ledger", x.look(7), 3);
        Check.due("none by hand", x.look(6), 0);
        Check.due("day 1", x.days(1), 3);
        book(x, 0, 1, 0, 1, 4);
        book(x, 1, 1, 0, 1, 2);
        book(x, 2, 1, 0, 0, 2);
        Check.due("daily", x.of(0, 5), 2);
        Check.due("none of day 1", x.look(7), 0);
        Check.due("day 2: the standing", x.days(1), 1);
        Check.due("one of day 2", x.look(7), 1);
        Check.due("day 3: the march alone", x.days(1), 1);
        Check.due("he is there", x.of(0, 0), 1);
        Check.due("standing stays", x.of(0, 5), 2);
        Check.due("day 4", x.days(1), 1);
        Check.due("day 5: stop", x.days(1), 0);
        Check.due("no standing", x.of(0, 5), -1);
        // An order of the ledger to one who drowned is given, but nothing comes of it.
        x.set(5, 0, 9);
        x.days(1);
        Check.reads(x, 1, "on 7 order 0 build;on 7 order 1 stop;", 2);
        int lines = x.look(8);
        Check.due("day 7", x.days(1), 0);
        Check.due("day 8", x.days(1), 0);
        Check.due("no line", x.look(8), lines);
    }

    private static void ledgerBeyond() {
        LateOrders x = duchy(0, 1);
        for (int i = 0; i < 22; i++) {
            x.order(4, 0, 0, false);
        }
        Check.reads(x, 1, "on 0 order 1 build;on 0 order 1 build;on 0 order 1 build;on 1 order 1 quench;", 4);
        x.days(1);
        Check.due("24 at most", x.look(7), 24);
        Check.due("24 done", x.days(1), 24);
        Check.due("two of three", x.place(1, 2), 6);
        Check.due("one of day 1", x.look(7), 1);
    }

    private static void order() {
        // Orders as they were given, then those standing, subject by subject.
        LateOrders x = duchy(0, 0, 0);
        x.order(4, 2, 0, true);
        x.order(4, 1, 0, true);
        x.order(4, 0, 0, true);
        x.days(1);
        x.order(1, 2, 0, false);
        x.order(2, 0, 0, false);
        x.days(1);
        x.days(1);
        int[][] due = {{1, 2, 4}, {1, 1, 4}, {1, 0, 4}, {2, 2, 1}, {2, 0, 2}, {2, 1, 4}};
        for (int i = 0; i < due.length; i++) {
            book(x, i, due[i][0], 0, due[i][1], due[i][2]);
        }
        x.days(1);
        for (int i = 0; i < 3; i++) {
            book(x, 6 + i, 3, 0, i, 4);
        }
        // What one did is seen by the next one: he obeys by the wall.
        LateOrders y = duchy(0, 0);
        Check.reads(y, 0, "obeys 1000 when wall>2 or what=2;obeys 0;", 2);
        y.order(4, 0, 0, false);
        y.order(2, 1, 0, false);
        y.order(4, 0, 0, false);
        y.days(1);
        Check.due("two of three", y.days(1), 2);
        Check.due("one missed", y.look(4), 1);
        // The crowd ahead of the march is asked for how it tires; the march is done then.
        LateOrders z = duchy(0, 0, 1);
        Check.reads(z, 3, "place 0 road 1;", 1);
        Check.reads(z, 0, "obeys 1000;tires 10*crowd+what;", 2);
        z.order(0, 0, 1, false);
        z.order(4, 0, 0, false);
        z.days(2);
        Check.due("20 and 2 * 10 + 4", z.of(0, 2), 44);
    }

    private static void fullBook() {
        LateOrders x = duchy(0, 0, 0, 0);
        for (int who = 0; who < 4; who++) {
            x.order(4, who, 0, true);
        }
        x.days(38);
        Check.due("148 lines", x.look(8), 148);
        x.days(1);
        Check.due("150 lines", x.look(8), 150);
        book(x, 149, 38, 0, 1, 4);
        Check.due("the 151st", x.book(150, 0), -2);
        Check.due("no more lines, but deeds", x.days(1), 4);
        Check.due("150 lines still", x.look(8), 150);
        Check.due("done", x.of(3, 4), 39);
        x.undo();
        x.undo();
        Check.due("148 lines again", x.look(8), 148);
        Check.due("none there", x.book(148, 0), -2);
        x.order(5, 3, 0, false);
        x.days(2);
        Check.due("150 lines again", x.look(8), 150);
        book(x, 148, 38, 0, 0, 4);
    }

    private static void lastDay() {
        LateOrders x = new LateOrders();
        for (int i = 0; i < 166; i++) {
            x.days(60);
        }
        Check.due("day 9960", x.look(5), 9960);
        Check.due("too far", x.days(40), -1);
        Check.due("nothing is done", x.look(5), 9960);
        Check.due("to the last", x.days(39), 0);
        Check.due("day 9999", x.look(5), 9999);
        Check.due("beyond it", x.days(1), -1);
        Check.due("still there", x.look(5), 9999);
    }
}
