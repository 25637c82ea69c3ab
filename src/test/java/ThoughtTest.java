/** Promises 15 to 33: what is only thought. */
public final class ThoughtTest {
    private static final String LINE = "place 0 road 1;place 1 road 2;place 2 road 3;";

    private ThoughtTest() {
    }

    public static void main(String[] args) {
        goes();
        goesWithoutDraws();
        arrives();
        bath();
        follows();
        caught();
        said();
        prophets();
        words();
        ranks();
        queue();
        letters();
        bell();
        sits();
        lights();
        game();
        Check.close("ThoughtTest");
    }

    private static void goes() {
        LateOrders x = new LateOrders();
        x.subject(0, 9);
        x.subject(1, 9);
        x.subject(2, 0);
        Check.reads(x, 2, "on 2 sea 6;", 1);
        Check.reads(x, 0, "obeys 499 when zeal=0;obeys 500;tires 0;", 3);
        x.set(0, 0, 9);
        x.set(0, 2, 9);
        x.set(1, 0, 10);
        x.set(1, 1, 20);
        x.set(2, 5, 7);
        x.order(2, 0, 0, true);
        x.order(2, 1, 0, true);
        x.order(2, 2, 0, true);
        x.order(2, 2, 0, false);
        x.state(123);
        int[][] due = {{3, 36, 7, 0}, {3, 42, 13, 2}, {2, 19, 19, 3}, {2, 22, 22, 4}};
        for (int n = 1; n <= 4; n++) {
            for (int what = 0; what < 4; what++) {
                Check.due("goes(" + n + ", " + what + ")", x.goes(n, what), due[n - 1][what]);
            }
        }
        Check.due("goes(60, 3)", x.goes(60, 3), 60);
        Check.due("goes(60, 1)", x.goes(60, 1), 99);
        Check.due("goes(0, 0)", x.goes(0, 0), -1);
        Check.due("goes(61, 0)", x.goes(61, 0), -1);
        Check.due("goes(-1, 0)", x.goes(-1, 0), -1);
        Check.due("goes(1, 4)", x.goes(1, 4), -1);
        Check.due("goes(1, -1)", x.goes(1, -1), -1);
        int[] look = {3, 7, 0, 0, 0, 0, 4, 0, 0, 123, 3, 0, 1, 0, 0};
        for (int what = 0; what < look.length; what++) {
            Check.due("nothing of it stays: look(" + what + ")", x.look(what), look[what]);
        }
        Check.due("nor the fire", x.place(1, 1), 20);
        Check.due("nor the wall", x.place(0, 2), 0);
        Check.due("nor a standing", x.of(0, 5), -1);
        Check.due("nor a line", x.book(0, 0), -2);
        x.days(2);
        x.set(5, 0, 0);
        Check.due("missed before and then", x.goes(1, 3), x.look(4) + 1);
    }

    private static void goesWithoutDraws() {
        LateOrders x = new LateOrders();
        x.subject(0, 0);
        Check.due("500 is obeyed", x.of(0, 6), 500);
        x.order(4, 0, 0, true);
        // Tired by 5 he does not obey any more, in thought.
        Check.due("obeyed once", x.goes(2, 3), 0);
        Check.due("missed from then on", x.goes(5, 3), 3);
        Check.due("no draw", x.look(9), 0);
        x.set(5, 0, 5);
        Check.due("not above HIGH", x.goes(3, 0), 1);
        x.set(5, 0, 6);
        Check.due("drowned", x.goes(1, 0), 0);
        Check.due("none missed by the drowned", x.goes(9, 3), 0);
    }

    private static void arrives() {
        LateOrders x = new LateOrders();
        x.subject(0, 9);
        x.subject(3, 9);
        Check.reads(x, 3, LINE, 3);
        Check.reads(x, 0, "obeys 500;", 1);
        Check.due("he is there", x.arrives(0, 0), 0);
        Check.due("he does not go", x.arrives(0, 1), -1);
        x.order(0, 0, 3, true);
        int[] due = {0, 2, 3, 4};
        for (int place = 0; place < 4; place++) {
            Check.due("arrives(0, " + place + ")", x.arrives(0, place), due[place]);
        }
        Check.due("arrives(0, 11)", x.arrives(0, 11), -1);
        Check.due("arrives(0, 12)", x.arrives(0, 12), -1);
        Check.due("arrives(0, -1)", x.arrives(0, -1), -1);
        Check.due("arrives(2, 0)", x.arrives(2, 0), -1);
        Check.due("arrives(-1, 0)", x.arrives(-1, 0), -1);
        Check.due("day stays", x.look(5), 0);
        Check.reads(x, 2, "on 2 sea 9;", 1);
        x.set(0, 0, 9);
        x.set(0, 1, 9);
        Check.due("drowned there", x.arrives(0, 2), 3);
        Check.due("not beyond", x.arrives(0, 3), -1);
        Check.reads(x, 1, "on 57 order 1 march 2;on 59 order 1 march 1;", 2);
        Check.reads(x, 2, "", 0);
        Check.due("by the ledger", x.arrives(1, 2), 59);
        Check.due("not within 60", x.arrives(1, 1), -1);
        Check.reads(x, 1, "on 57 order 1 march 2;on 58 order 1 march 1;", 2);
        Check.due("within 60", x.arrives(1, 1), 60);
        Check.reads(x, 0, "obeys 499;", 1);
        Check.due("he does not obey", x.arrives(0, 1), -1);
        x.set(5, 0, 9);
        x.days(1);
        Check.due("3 drowned", x.look(1), 1);
        Check.due("not alive", x.arrives(1, 3), -1);
        // Behind a day on which he goes two roads he is first at the second.
        LateOrders y = new LateOrders();
        y.subject(0, 9);
        Check.reads(y, 3, LINE, 3);
        y.order(0, 0, 2, false);
        y.order(0, 0, 2, false);
        Check.due("not at 1 behind a day", y.arrives(0, 1), -1);
        Check.due("two roads", y.arrives(0, 2), 2);
    }

    private static void bath() {
        LateOrders x = new LateOrders();
        // By hand: day 1 brings 10 + 5 - 2 = 13, 7 off; then 9 at most bring 20.
        Check.due("least", x.bath(10, 20, 52, 20), 7);
        Check.due("order", x.bath(10, 20, 52, 21), 9);
        Check.due("one day", x.bath(10, 20, 52, 10), 7);
        Check.due("its order", x.bath(10, 20, 52, 11), 0);
        Check.due("at 99 at most", x.bath(99, 99, 90, 100), 0);
        Check.due("order kept at 99", x.bath(99, 99, 90, 101), 0);
        Check.due("at 0 at least", x.bath(3, 0, 9, 100), 0);
        Check.due("order at 0", x.bath(3, 0, 9, 101), 0);
        Check.due("from 0 to 0", x.bath(0, 0, 0, 10), 0);
        Check.due("from 0 to 99", x.bath(0, 99, 99, 100), 990);
        Check.due("from 99 to 0", x.bath(99, 0, 0, 20), 198);
        Check.due("from 9 to 0, from 0 by 9 to 9", x.bath(9, 0, 99, 20), 9);
        Check.due("its order", x.bath(9, 0, 99, 21), 0);
        Check.due("kept at 50", x.bath(50, 50, 33, 100), 0);
        Check.due("order at 50", x.bath(50, 50, 33, 101), 3);
        // 50 - 9 each day but for what comes: 9 bring 50 back from none.
        Check.due("lost on day 1", x.bath(50, 50, 9, 30), 27);
        Check.due("order against it", x.bath(50, 50, 9, 31), 9);
        // y too much on day 1: 59, then nothing is ordered: it stays at 59 with w 0.
        Check.due("nothing lost", x.bath(50, 50, 90, 30), 27);
        Check.due("nothing ordered", x.bath(50, 50, 90, 31), 0);
        // Up to 20 with w 4 from 10: 6, 11, 16, 20, 20.
        Check.due("off by 14, 9, 4, 0, 0", x.bath(10, 20, 4, 50), 27);
        int[][] wrong = {{-1, 0, 0, 10}, {100, 0, 0, 10}, {0, -1, 0, 10}, {0, 100, 0, 10}, {0, 0, -1, 10}, {0, 0, 100, 10},
            {0, 0, 0, 9}, {0, 0, 0, 0}, {0, 0, 0, 1}, {0, 0, 0, 12}, {0, 0, 0, 19}, {0, 0, 0, 102}, {0, 0, 0, 110},
            {0, 0, 0, -9}, {0, 0, 0, Integer.MIN_VALUE}};
        for (int[] w : wrong) {
            Check.due("bath(" + w[0] + ", " + w[1] + ", " + w[2] + ", " + w[3] + ")", x.bath(w[0], w[1], w[2], w[3]), -1);
        }
    }

    private static void follows() {
        LateOrders x = new LateOrders();
        int[] fibonacci = {1, 1, 2, 3, 5, 8, 13, 21, 34, 55, 89};
        for (int k = 0; k < fibonacci.length; k++) {
            Check.due("fibonacci " + k, x.follows(1001, 2, 1000, k), fibonacci[k]);
            Check.due("fibonacci modulo 7, " + k, x.follows(1001, 2, 7, k), fibonacci[k] % 7);
        }
        // x(k) = 2 x(k-1) + 3 x(k-3): 1 1 1 5 13 29 73
        int[] thrice = {1, 1, 1, 5, 13, 29, 73};
        for (int k = 0; k < thrice.length; k++) {
            Check.due("by three days " + k, x.follows(2003, 3, 1000, k), thrice[k]);
        }
        Check.due("d 1: 2 and 3 times", x.follows(2003, 1, 1000, 4), 625);
        Check.due("d 5, day 4", x.follows(7007, 5, 1000, 4), 1);
        Check.due("d 5, day 5", x.follows(7008, 5, 1000, 5), 15);
        Check.due("0 times", x.follows(0, 5, 1000, 5), 0);
        Check.due("modulo 1", x.follows(1001, 2, 1, 3), 0);
        Check.due("modulo 1, day 0", x.follows(1001, 2, 1, 0), 0);
        Check.due("2 to the millionth", x.follows(2000, 1, 1000, 1000000), 376);
        Check.due("fibonacci of a million", x.follows(1001, 2, 1000, 1000000), slowly(1, 1, 2, 1000, 1000000));
        Check.due("the most", x.follows(999999, 5, 1000, 1000000), slowly(999, 999, 5, 1000, 1000000));
        int[][] wrong = {{-1, 1, 1, 1}, {1000000, 1, 1, 1}, {0, 0, 1, 1}, {0, 6, 1, 1}, {0, 1, 0, 1}, {0, 1, 1001, 1},
            {0, 1, 1, -1}, {0, 1, 1, 1000001}};
        for (int[] w : wrong) {
            Check.due("follows(" + w[0] + ", " + w[1] + ", " + w[2] + ", " + w[3] + ")", x.follows(w[0], w[1], w[2], w[3]), -1);
        }
    }

    private static int slowly(int a, int b, int d, int m, int k) {
        int[] x = new int[k + 1];
        for (int i = 0; i <= k; i++) {
            x[i] = i < d ? 1 % m : (a * x[i - 1] + b * x[i - d]) % m;
        }
        return x[k];
    }

    private static void caught() {
        LateOrders x = new LateOrders();
        Check.due("alike without roads", x.caught(11, 11), 0);
        Check.due("never without roads", x.caught(11, 0), -1);
        Check.due("clock without roads", x.caught(11, -1), 1);
        Check.reads(x, 3, LINE + "place 4 road 5;place 5 road 6;place 6 road 7;place 7 road 4;"
            + "place 8 road 9;place 9 road 10;place 10 road 8;", 10);
        int[] fromEnd = {0, 1, 3, 3};
        int[] fromNext = {1, 0, 1, 2};
        for (int q = 0; q < 4; q++) {
            Check.due("caught(0, " + q + ")", x.caught(0, q), fromEnd[q]);
            Check.due("caught(1, " + q + ")", x.caught(1, q), fromNext[q]);
        }
        Check.due("clock from 0", x.caught(0, -1), 4);
        // On a ring of four one beside is caught at once, one across never.
        Check.due("beside", x.caught(4, 5), 1);
        Check.due("across", x.caught(4, 6), -1);
        Check.due("clock from 4", x.caught(4, -1), 3);
        Check.due("ring of three", x.caught(8, 10), 1);
        Check.due("clock from 8", x.caught(8, -1), 3);
        // 0 in the midst of a star: from any end one caught at 0, else at the other end by way of 0.
        LateOrders star = new LateOrders();
        Check.reads(star, 3, "place 0 road 1;place 2 road 0;place 0 road 11;", 3);
        Check.due("to the midst", star.caught(1, 0), 1);
        Check.due("by the midst", star.caught(1, 2), 2);
        Check.due("by the midst to the last", star.caught(2, 11), 2);
        Check.due("from the midst", star.caught(0, 11), 1);
        Check.due("clock of the star", star.caught(11, -1), 4);
        Check.due("elsewhere", x.caught(0, 4), -1);
        Check.due("caught(12, 0)", x.caught(12, 0), -1);
        Check.due("caught(-1, 0)", x.caught(-1, 0), -1);
        Check.due("caught(0, 12)", x.caught(0, 12), -1);
        Check.due("caught(0, -2)", x.caught(0, -2), -1);
        Check.due("caught(12, -1)", x.caught(12, -1), -1);
        Check.due("caught(-1, -1)", x.caught(-1, -1), -1);
    }

    private static void said() {
        LateOrders x = new LateOrders();
        int[][] due = {
            {5, 5, 31, 0, 1}, {5, 10, 1, 1, 1}, {600, 200, 1, 1, 1}, {999, 0, 2, 1, 1}, {5, 6, 2, 1, 1},
            {5, 2, 4, 1, 1}, {2, 0, 4, 1, 1}, {120, 21, 8, 1, 1}, {100, 1, 8, 1, 1}, {987, 789, 8, 1, 1},
            {7, 3, 16, 1, 1}, {0, 8, 2, 8, 1}, {0, 9, 2, -1, -1}, {1, 2, 3, 1, 2}, {1, 4, 3, 2, 2}, {1, 3, 3, 2, 2},
            {5, 6, 0, -1, -1}, {0, 0, 0, 0, 1}, {1, 256, 1, 8, 1}, {1, 512, 1, -1, -1}, {4, 1, 20, 1, 1}, {2, 0, 20, 1, 1},
            {3, 0, 20, 1, 1}, {1, 0, 20, 1, 2}, {998, 999, 2, 1, 1}, {999, 998, 1, 1, 1}, {999, 999, 8, 0, 1}, {999, 996, 4, 1, 1},
            {999, 499, 16, 1, 1}, {0, 0, 31, 0, 1}, {10, 1, 8, 1, 1}, {6, 3, 20, 1, 2}, {500, 0, 1, 1, 1}, {501, 105, 8, 1, 1},
        };
        for (int[] d : due) {
            String call = "said(" + d[0] + ", " + d[1] + ", " + d[2];
            Check.due(call + ", 0)", x.said(d[0], d[1], d[2], 0), d[3]);
            Check.due(call + ", 1)", x.said(d[0], d[1], d[2], 1), d[4]);
        }
        int[][] wrong = {{-1, 0, 0, 0}, {1000, 0, 0, 0}, {0, -1, 0, 0}, {0, 1000, 0, 0}, {0, 0, -1, 0}, {0, 0, 32, 0},
            {0, 0, 0, 2}, {0, 0, 0, -1}};
        for (int[] w : wrong) {
            Check.due("said(" + w[0] + ", " + w[1] + ", " + w[2] + ", " + w[3] + ")", x.said(w[0], w[1], w[2], w[3]), -1);
        }
        Check.due("many ways", x.said(0, 999, 31, 0), new Oracle().said(0, 999, 31, 0));
        Check.due("how many ways", x.said(0, 999, 31, 1), new Oracle().said(0, 999, 31, 1));
    }

    private static void prophets() {
        LateOrders x = new LateOrders();
        Check.due("prophet(-2)", x.prophet(-2), -1);
        Check.due("prophet(1024)", x.prophet(1024), -1);
        Check.due("none: best", x.wrong(1023, 10, -1), 0);
        Check.due("none: fooled", x.wrong(5, 10, -2), 2);
        Check.due("none: 0", x.wrong(5, 10, 0), -1);
        Check.due("first", x.prophet(1023), 1);
        Check.due("second", x.prophet(0), 2);
        Check.due("third", x.prophet(3), 3);
        Check.due("wrong of 0", x.wrong(0, 10, 0), 10);
        Check.due("wrong of 0 on 3", x.wrong(0, 3, 0), 3);
        Check.due("wrong of 0 on 0", x.wrong(0, 0, 0), 0);
        Check.due("wrong of 1", x.wrong(1023, 10, 1), 10);
        Check.due("wrong of 2", x.wrong(5, 3, 2), 2);
        Check.due("best", x.wrong(5, 3, -1), 1);
        Check.due("best of 10", x.wrong(5, 10, -1), 2);
        // Day 0: two of three say yes. It is no: 1 alone is left, and right for good.
        Check.due("fooled once", x.wrong(0, 10, -2), 1);
        // Day 0 and 1 yes: 0 and 2 are left. Day 2: half say yes, so one says no. It is yes: 0 is left.
        Check.due("half says no", x.wrong(1023, 10, -2), 1);
        // Days 0 to 2 so; day 3 no: 0 is wrong, all begin again: on day 4 one of three says yes, it is yes.
        Check.due("all begin again", x.wrong(1023 - 8, 10, -2), 3);
        Check.due("wrong of 3", x.wrong(0, 10, 3), -1);
        Check.due("wrong(.., -3)", x.wrong(0, 10, -3), -1);
        Check.due("wrong(-1)", x.wrong(-1, 10, 0), -1);
        Check.due("wrong(1024)", x.wrong(1024, 10, 0), -1);
        Check.due("wrong of -1 days", x.wrong(0, -1, 0), -1);
        Check.due("wrong of 11 days", x.wrong(0, 11, 0), -1);
        for (int i = 4; i <= 8; i++) {
            Check.due("prophet " + i, x.prophet(512), i);
        }
        Check.due("the ninth", x.prophet(0), -1);
        Check.due("of the eighth", x.wrong(0, 10, 7), 1);
        Check.due("of the eighth on 9", x.wrong(0, 9, 7), 0);
        Check.due("none is", x.prophet(-1), 0);
        Check.due("of none", x.wrong(0, 10, 0), -1);
        Check.due("first again", x.prophet(1), 1);
    }

    private static void words() {
        LateOrders x = new LateOrders();
        int[] wrong = {0, 10, 101, 1230, 9099, 10000, 11111, -2, -11, Integer.MIN_VALUE, Integer.MAX_VALUE};
        for (int w : wrong) {
            Check.due("spell(" + w + ")", x.spell(w), -1);
        }
        Check.due("none: digits", x.together(0), 0);
        Check.due("none: orders", x.together(1), 1);
        Check.due("together(2)", x.together(2), -1);
        Check.due("together(-1)", x.together(-1), -1);
        int[][] told = {
            // the words, how few digits, by how many orders
            {9999, 4, 1}, {1, 1, 1}, {12, 21, 3, 2}, {12, 34, 4, 2}, {12, 12, 2, 2}, {123, 2, 3, 1}, {111, 11, 3, 2},
            {11, 111, 1, 3, 6}, {1212, 2121, 5, 2}, {1, 2, 3, 4, 5, 5, 120}, {1234, 2345, 3451, 6, 2},
            {9991, 1999, 5, 1}, {12, 23, 31, 4, 6}, {1234, 4567, 23, 7, 2}, {1111, 2222, 3333, 4444, 5555, 20, 120},
            {9, 1, 1}, {11, 2, 1}, {99, 2, 1}, {111, 3, 1}, {999, 3, 1}, {1111, 4, 1}, {9, 99, 999, 9999, 4, 24},
            // Behind 123 any order is as good; 5 alone may not lie ahead of a 4.
            {123, 234, 345, 456, 6, 6}, {12, 21, 11, 22, 5, 10}, {4567, 1234, 3456, 2345, 5678, 8, 24},
            {456, 123, 345, 234, 5, 6, 18}, {12, 23, 34, 45, 51, 6, 50}, {12, 34, 56, 78, 9, 9, 120},
            {1, 312, 21, 22, 5, 3}, {33, 32, 111, 3, 22, 7, 23}, {32, 313, 13, 113, 6, 3}, {31, 113, 1, 21, 5, 3}, {32, 313, 13, 113, 7, 7, 7},
        };
        for (int[] row : told) {
            StringBuilder call = new StringBuilder("words");
            Check.due("none is", x.spell(-1), 0);
            for (int i = 0; i < row.length - 2; i++) {
                call.append(' ').append(row[i]);
                Check.due("spell(" + row[i] + ")", x.spell(row[i]), i + 1);
            }
            Check.due(call + ": digits", x.together(0), row[row.length - 2]);
            Check.due(call + ": orders", x.together(1), row[row.length - 1]);
        }
        Check.due("the sixth", x.spell(1), -1);
        Check.due("none is", x.spell(-1), 0);
        x.spell(123);
        x.spell(234);
        x.spell(3);
        Check.due("orders of three", x.together(1), 2);
    }

    private static void ranks() {
        LateOrders x = new LateOrders();
        int[][] due = {{1, 1, 1}, {2, 2, 2}, {4, 3, 2}, {6, 4, 3}, {9, 3, 3}, {12, 6, 4}, {13, 2, 13}, {100, 9, 10}, {840, 32, 30},
            {961, 3, 31}, {990, 24, 33}, {997, 2, 997}, {999, 8, 37}};
        for (int[] d : due) {
            Check.due("ranks(" + d[0] + ", 0)", x.ranks(d[0], 0), d[1]);
            Check.due("ranks(" + d[0] + ", 1)", x.ranks(d[0], 1), d[2]);
        }
        Check.due("ranks(0, 0)", x.ranks(0, 0), -1);
        Check.due("ranks(1000, 0)", x.ranks(1000, 0), -1);
        Check.due("ranks(-1, 1)", x.ranks(-1, 1), -1);
        Check.due("ranks(1, 2)", x.ranks(1, 2), -1);
        Check.due("ranks(1, -1)", x.ranks(1, -1), -1);
    }

    private static void queue() {
        LateOrders x = new LateOrders();
        int[][] wrong = {{-2, 1}, {100, 1}, {0, 0}, {0, 21}, {0, -1}};
        for (int[] w : wrong) {
            Check.due("comer(" + w[0] + ", " + w[1] + ")", x.comer(w[0], w[1]), -1);
        }
        for (int what = 0; what < 3; what++) {
            Check.due("nobody: queue(2, " + what + ")", x.queue(2, what), 0);
        }
        Check.due("queue(0, 0)", x.queue(0, 0), -1);
        Check.due("queue(4, 0)", x.queue(4, 0), -1);
        Check.due("queue(1, 3)", x.queue(1, 3), -1);
        Check.due("queue(1, -1)", x.queue(1, -1), -1);
        // Told out of order: served at 0 to 10, 10 to 30 (came 5), 30 to 31 (came 5, told later), 31 to 33 (came 20).
        Check.due("comer", x.comer(20, 2), 1);
        Check.due("comer", x.comer(5, 20), 2);
        Check.due("comer", x.comer(5, 1), 3);
        Check.due("comer", x.comer(0, 10), 4);
        Check.due("waited by one", x.queue(1, 0), 5 + 25 + 11);
        Check.due("last by one", x.queue(1, 1), 33);
        Check.due("most by one", x.queue(1, 2), 2);
        // By two: 0 to 10 | 5 to 25, then 10 to 11 (came 5), 20 to 22.
        Check.due("waited by two", x.queue(2, 0), 5);
        Check.due("last by two: not of the last one", x.queue(2, 1), 25);
        Check.due("most by two", x.queue(2, 2), 1);
        Check.due("waited by three", x.queue(3, 0), 0);
        Check.due("most by three", x.queue(3, 2), 0);
        Check.due("nobody", x.comer(-1, -99), 0);
        Check.due("last of none", x.queue(1, 1), 0);
        for (int i = 1; i <= 10; i++) {
            Check.due("comer " + i, x.comer(99, 20), i);
        }
        Check.due("the eleventh", x.comer(0, 1), -1);
        Check.due("all at 99: waited", x.queue(1, 0), 900);
        Check.due("all at 99: last", x.queue(1, 1), 299);
        Check.due("all at 99: most", x.queue(1, 2), 9);
        Check.due("all at 99 by three: waited", x.queue(3, 0), 3 * 20 + 3 * 40 + 60);
        Check.due("all at 99 by three: last", x.queue(3, 1), 179);
        Check.due("all at 99 by three: most", x.queue(3, 2), 7);
        x.comer(-1, 0);
        x.comer(0, 5);
        x.comer(5, 5);
        Check.due("begun by then", x.queue(1, 2), 0);
    }

    private static void letters() {
        LateOrders x = new LateOrders();
        int[][] wrong = {{-2, 1}, {100, 101}, {5, 5}, {5, 4}, {99, 100}, {0, 100}, {0, 0}};
        for (int[] w : wrong) {
            Check.due("letter(" + w[0] + ", " + w[1] + ")", x.letter(w[0], w[1]), -1);
        }
        Check.due("none: couples", x.cross(0), 0);
        Check.due("none: roads", x.cross(1), 0);
        Check.due("cross(2)", x.cross(2), -1);
        Check.due("cross(-1)", x.cross(-1), -1);
        Check.due("one", x.letter(98, 99), 1);
        Check.due("one: couples", x.cross(0), 0);
        Check.due("one: roads", x.cross(1), 1);
        Check.due("none is", x.letter(-1, -1), 0);
        Check.due("none: roads again", x.cross(1), 0);
        // Sent or coming at one time they do not cross.
        x.letter(1, 9);
        x.letter(1, 5);
        x.letter(3, 5);
        Check.due("alike: couples", x.cross(0), 1);
        Check.due("alike: roads", x.cross(1), 2);
        x.letter(-1, 0);
        // Told backwards, ten in one another.
        for (int i = 1; i <= 10; i++) {
            Check.due("letter " + i, x.letter(20 - i, 30 + i), i);
        }
        Check.due("the eleventh", x.letter(0, 1), -1);
        Check.due("ten: couples", x.cross(0), 45);
        Check.due("ten: roads", x.cross(1), 10);
        x.letter(-1, 0);
        // Two by two crossing, but never three: 0-20 with 1-19; 2-30 with 3-29.
        x.letter(0, 20);
        x.letter(1, 19);
        x.letter(2, 30);
        x.letter(3, 29);
        Check.due("pairs: couples", x.cross(0), 2);
        Check.due("pairs: roads", x.cross(1), 2);
    }

    private static void bell() {
        LateOrders x = new LateOrders();
        Check.due("all", x.bell(4095, 0), 0);
        Check.due("all: last", x.bell(4095, 1), 0);
        Check.due("not all", x.bell(4094, 0), -1);
        Check.due("not all: last", x.bell(4094, 1), -1);
        Check.due("bell(0, 0)", x.bell(0, 0), -1);
        Check.due("bell(4096, 0)", x.bell(4096, 0), -1);
        Check.due("bell(-1, 0)", x.bell(-1, 0), -1);
        Check.due("bell(4095, 2)", x.bell(4095, 2), -1);
        Check.due("bell(4095, -1)", x.bell(4095, -1), -1);
        Check.reads(x, 3, LINE + "place 3 road 4;place 4 road 5;place 5 road 6;place 6 road 7;place 7 road 8;place 8 road 9;"
            + "place 9 road 10;place 10 road 11;", 11);
        Check.due("from one end", x.bell(1, 0), 11);
        Check.due("the other end", x.bell(1, 1), 11);
        Check.due("from within", x.bell(1 << 6, 0), 6);
        Check.due("from within: last", x.bell(1 << 6, 1), 0);
        Check.due("from both ends", x.bell(1 | 1 << 11, 0), 5);
        Check.due("from both ends: the least", x.bell(1 | 1 << 11, 1), 5);
        Check.due("from 1 and 10", x.bell(1 << 1 | 1 << 10, 1), 5);
        Check.due("from 3 and 4", x.bell(3 << 3, 0), 7);
        Check.due("all but 7 and 9", x.bell(4095 & ~(1 << 7 | 1 << 9), 1), 7);
    }

    private static void sits() {
        LateOrders x = new LateOrders();
        int[] nobody = {0, 0, -1};
        for (int what = 0; what < 3; what++) {
            Check.due("nobody: sits(" + what + ")", x.sits(what), nobody[what]);
        }
        Check.due("sits(3)", x.sits(3), -1);
        Check.due("sits(-1)", x.sits(-1), -1);
        LateOrders y = new LateOrders();
        y.subject(0, 0);
        int[] atNone = {1, 0, 0};
        for (int what = 0; what < 3; what++) {
            Check.due("one at 0: sits(" + what + ")", y.sits(what), atNone[what]);
        }
        Check.reads(y, 3, LINE, 3);
        y.subject(3, 0);
        y.subject(0, 0);
        int[] drawn = {2, 3, 0};
        for (int what = 0; what < 3; what++) {
            Check.due("two at 0: sits(" + what + ")", y.sits(what), drawn[what]);
        }
        y.subject(2, 0);
        y.subject(2, 0);
        Check.due("five: roads", y.sits(1), 5);
        Check.due("five: at 2", y.sits(2), 2);
        x.subject(11, 0);
        int[] one = {1, 0, 11};
        for (int what = 0; what < 3; what++) {
            Check.due("one: sits(" + what + ")", x.sits(what), one[what]);
        }
        x.subject(1, 0);
        x.subject(1, 0);
        int[] apart = {2, -1, -1};
        for (int what = 0; what < 3; what++) {
            Check.due("apart: sits(" + what + ")", x.sits(what), apart[what]);
        }
        Check.reads(x, 3, "place 1 road 3;place 3 road 11;place 11 road 2;place 2 road 1;", 4);
        int[] joined = {2, 2, 1};
        for (int what = 0; what < 3; what++) {
            Check.due("joined: sits(" + what + ")", x.sits(what), joined[what]);
        }
        x.subject(11, 0);
        // 1 1 and 11 11: every one of 1, 2, 3, 11 costs four roads.
        Check.due("even: roads", x.sits(1), 4);
        Check.due("even: the least", x.sits(2), 1);
        x.subject(4, 0);
        Check.due("one apart", x.sits(1), -1);
        x.set(5, 0, 6);
        x.set(0, 1, 9);
        x.set(0, 11, 9);
        x.days(1);
        Check.due("he drowned: roads", x.sits(1), 4);
        Check.due("those alive alone", x.sits(0), 2);
        x.set(0, 1, 0);
        x.set(0, 11, 0);
        x.days(1);
        for (int what = 0; what < 3; what++) {
            Check.due("all drowned: sits(" + what + ")", x.sits(what), nobody[what]);
        }
    }

    private static void lights() {
        LateOrders x = new LateOrders();
        int[] rows = {1, 130, 68, 170, 0, 0};
        for (int n = 0; n < rows.length; n++) {
            Check.due("lights(1, " + n + ", 0)", x.lights(1, n, 0), rows[n]);
        }
        Check.due("lights(255, 1, 0)", x.lights(255, 1, 0), 0);
        Check.due("lights(128, 1, 0)", x.lights(128, 1, 0), 65);
        Check.due("lights(3, 1, 0)", x.lights(3, 1, 0), 135);
        Check.due("lights(200, 100000, 0)", x.lights(200, 100000, 0), 0);
        int[][] again = {{0, 1}, {255, 2}, {170, 2}, {68, 3}, {130, 4}, {1, 5}};
        for (int[] a : again) {
            Check.due("lights(" + a[0] + ", .., 1)", x.lights(a[0], -99, 1), a[1]);
        }
        Check.due("lights(-1)", x.lights(-1, 0, 0), -1);
        Check.due("lights(256)", x.lights(256, 0, 1), -1);
        Check.due("lights of -1 days", x.lights(1, -1, 0), -1);
        Check.due("lights of 100001 days", x.lights(1, 100001, 0), -1);
        Check.due("lights(1, 1, 2)", x.lights(1, 1, 2), -1);
        Check.due("lights(1, 1, -1)", x.lights(1, 1, -1), -1);
    }

    private static void game() {
        LateOrders x = new LateOrders();
        Oracle o = new Oracle();
        for (int n = 1; n <= 300; n++) {
            Check.due("game(" + n + ")", x.game(n), o.game(n));
        }
        int[][] due = {{75025, -1}, {100000, 1}, {99999, 3}, {75026, 1}, {46368, -1}, {46368 + 17711, 17711}, {75024, 1},
            {0, -1}, {-1, -1}, {100001, -1}, {Integer.MAX_VALUE, -1}, {Integer.MIN_VALUE, -1}};
        for (int[] d : due) {
            Check.due("game(" + d[0] + ")", x.game(d[0]), d[1]);
        }
        gameOfAll();
    }

    /** Of each n, by what of fewer is the least that wins: who takes k leaves n - k, of which at most 2 k may be taken. */
    private static void gameOfAll() {
        int[] wins = new int[100001];
        LateOrders x = new LateOrders();
        for (int n = 1; n <= 100000; n++) {
            int k = 1;
            while (k < n && wins[n - k] <= 2 * k) {
                k++;
            }
            wins[n] = k;
            if (n % 500 == 0) {
                x = new LateOrders();
            }
            Check.due("game(" + n + ")", x.game(n), k == n ? -1 : k);
        }
    }
}
