/**
 * Behind a call that is refused, and behind one that only asks, nothing else has changed but what the document says: of two
 * duchies that were told alike one is asked it, and both answer alike in all.
 */
public final class EdgesRefusedTest {
    private static final int MIN = Integer.MIN_VALUE;
    private static final int MAX = Integer.MAX_VALUE;

    private EdgesRefusedTest() {
    }

    public static void main(String[] args) {
        subjects();
        settings();
        orders();
        buildingsAndDays();
        tape();
        faults();
        seventeenthLines();
        noSuchText();
        toldForThought();
        toldForThoughtBeyond();
        looks();
        thoughts();
        thoughtsThatCant();
        nothingToUndo();
        noImage();
        Check.close("EdgesRefusedTest");
    }

    private static void some(String what, Twins.Deed deed) {
        LateOrders x = Twins.some();
        deed.to(x);
        Twins.alike(what, x, Twins.some());
    }

    private static void full(String what, Twins.Deed deed) {
        LateOrders x = Twins.full();
        deed.to(x);
        Twins.alike(what, x, Twins.full());
    }

    private static void subjects() {
        int[][] cant = {{-1, 0}, {12, 0}, {0, -1}, {0, 10}, {MIN, MIN}, {MAX, MAX}};
        for (int[] c : cant) {
            String call = "subject(" + c[0] + ", " + c[1] + ")";
            some(call, x -> Check.due(call, x.subject(c[0], c[1]), -1));
        }
        full("a nineteenth", x -> Check.due("a nineteenth", x.subject(0, 0), -1));
    }

    private static void settings() {
        int[][] cant = {{0, 0, -1}, {0, 0, 10}, {0, -1, 0}, {0, 12, 0}, {1, 0, -1}, {1, 0, 100}, {1, -1, 0}, {1, 12, 0}, {2, 0, -1},
            {2, 0, 100}, {2, -1, 0}, {2, 12, 0}, {3, 0, -1}, {3, 0, 10}, {3, -1, 0}, {3, 4, 0}, {4, 0, -1}, {4, 0, 100}, {4, -1, 0}, {4, 4, 0},
            {5, 0, -1}, {5, 0, 10}, {6, 0, 0}, {-1, 0, 0}, {MIN, 0, 0}, {MAX, 0, 0}};
        for (int[] c : cant) {
            String call = "set(" + c[0] + ", " + c[1] + ", " + c[2] + ")";
            some(call, x -> Check.due(call, x.set(c[0], c[1], c[2]), false));
        }
        full("ZEAL of a nineteenth", x -> Check.due("ZEAL of a nineteenth", x.set(3, 18, 0), false));
        full("TIRED of a nineteenth", x -> Check.due("TIRED of a nineteenth", x.set(4, 18, 0), false));
    }

    private static void orders() {
        int[][] cant = {{-1, 0, 0}, {6, 0, 0}, {0, 0, -1}, {0, 0, 12}, {0, 4, 0}, {0, -1, 0}, {1, 4, 0}, {5, 4, 0}, {4, 3, 0}, {5, 3, 0},
            {0, 3, 0}, {MIN, 0, 0}, {4, MAX, 0}};
        for (int[] c : cant) {
            String call = "order(" + c[0] + ", " + c[1] + ", " + c[2] + ", ..)";
            some(call, x -> Check.due(call, x.order(c[0], c[1], c[2], false), -1));
            some(call, x -> Check.due(call, x.order(c[0], c[1], c[2], true), -1));
        }
        some("a stop that goes on", x -> Check.due("a stop that goes on", x.order(5, 0, 0, true), -1));
        for (int what = 0; what < 6; what++) {
            int w = what;
            full("a 25th", x -> Check.due("a 25th", x.order(w, 17, 0, false), -1));
        }
    }

    private static void buildingsAndDays() {
        int[] places = {-1, 12, 9, MIN, MAX};
        for (int p : places) {
            some("builds(" + p + ")", x -> Check.due("builds(" + p + ")", x.builds(p), -1));
            full("builds(" + p + ")", x -> Check.due("builds(" + p + ")", x.builds(p), -1));
        }
        int[] days = {0, -1, 61, MIN, MAX};
        for (int n : days) {
            some("days(" + n + ")", x -> Check.due("days(" + n + ")", x.days(n), -1));
            full("days(" + n + ")", x -> Check.due("days(" + n + ")", x.days(n), -1));
        }
        LateOrders one = atTheLast();
        Check.due("days(3) from 9997", one.days(3), -1);
        Check.due("days(60) from 9997", one.days(60), -1);
        Twins.alike("days from 9997", one, atTheLast());
    }

    private static LateOrders atTheLast() {
        LateOrders x = new LateOrders();
        for (int i = 0; i < 166; i++) {
            x.days(60);
        }
        x.days(37);
        x.subject(0, 9);
        x.order(2, 0, 0, true);
        x.builds(5);
        return x;
    }

    private static void tape() {
        int[] ends = {21, 400, 401, -1, MIN, MAX};
        for (int n : ends) {
            some("end(" + n + ")", x -> Check.due("end(" + n + ")", x.end(n), false));
        }
        full("end(401)", x -> Check.due("end(401)", x.end(401), false));
        full("end(-1)", x -> Check.due("end(-1)", x.end(-1), false));
        full("a 401st byte", x -> Check.due("a 401st byte", x.feed(0x3b3b3b3b, 1, 2, 3, 4), -1));
    }

    /** A FAULT: the TEXT stays as it was; the TAPE is empty. fault() tells of the latest, of the other one too. */
    private static void faults() {
        String[][] texts = {
            {"obeys 1;obeys 1/0;", "obeys 1;obeys", "tires 5;obeys 1 when (((((((((", "?"},
            {"on 0 order 0 rest;on 0 order 18 rest;", "on 0 order 0 rest;on", "on 1000 order 0 rest;", "on 3 order 0 stop daily;"},
            {"on 3 sea 1;on 3 sea 10;", "on 3 sea 1;on 3", "on 3 fire 12 1;", "on 3 fire 9 100;"},
            {"place 0 road 1;place 1 road 1;", "place 0 road 1;place", "place 12 road 1;", "place 0 road 1"},
        };
        for (int k = 0; k < 4; k++) {
            for (String text : texts[k]) {
                faulty(k, text, Twins.some(), Twins.some());
                faulty(k, text, Twins.full(), Twins.full());
            }
        }
    }

    private static void faulty(int k, String text, LateOrders one, LateOrders other) {
        one.end(0);
        other.end(0);
        Check.due("a FAULT", Check.tell(one, k, text), -1);
        Check.due("the TAPE is empty", one.end(1), false);
        // So that fault() tells of both alike.
        Check.tell(one, 0, "?");
        Check.tell(other, 0, "?");
        Twins.alike("FAULT of TEXT " + k + " " + text, one, other);
    }

    private static void seventeenthLines() {
        String[] lines = {"grows 2;", "on 9 order 0 rest;", "on 9 sea 1;", "place 0 road 2;"};
        for (int k = 0; k < 4; k++) {
            LateOrders one = Twins.full();
            LateOrders other = Twins.full();
            one.end(0);
            other.end(0);
            Check.faulty(one, k, lines[k].repeat(17), 3, 16 * lines[k].length());
            Check.tell(one, 0, "?");
            Check.tell(other, 0, "?");
            Twins.alike("a 17th line of TEXT " + k, one, other);
        }
    }

    /** No such TEXT: the TAPE is empty, fault() tells 0; nothing else. */
    private static void noSuchText() {
        int[] none = {-1, 4, MIN, MAX};
        for (int k : none) {
            LateOrders one = Twins.some();
            LateOrders other = Twins.some();
            Check.due("text(" + k + ")", one.text(k), -1);
            Check.due("fault(0)", one.fault(0), 0);
            Check.due("fault(1)", one.fault(1), -1);
            other.end(0);
            Check.tell(one, 3, "?");
            Check.tell(other, 3, "?");
            Twins.alike("text(" + k + ")", one, other);
        }
    }

    private static void toldForThought() {
        int[] yes = {-2, 1024, MIN, MAX};
        for (int v : yes) {
            some("prophet(" + v + ")", x -> Check.due("prophet(" + v + ")", x.prophet(v), -1));
        }
        int[] words = {0, -2, 10, 101, 10000, 11111, MIN, MAX};
        for (int v : words) {
            some("spell(" + v + ")", x -> Check.due("spell(" + v + ")", x.spell(v), -1));
        }
        int[][] comers = {{-2, 1}, {100, 1}, {0, 0}, {0, 21}, {99, MIN}, {MAX, 5}};
        for (int[] c : comers) {
            String call = "comer(" + c[0] + ", " + c[1] + ")";
            some(call, x -> Check.due(call, x.comer(c[0], c[1]), -1));
        }
        int[][] letters = {{-2, 1}, {99, 100}, {5, 5}, {5, 4}, {0, 100}, {100, 101}, {MIN, 0}, {0, MAX}};
        for (int[] c : letters) {
            String call = "letter(" + c[0] + ", " + c[1] + ")";
            some(call, x -> Check.due(call, x.letter(c[0], c[1]), -1));
        }
    }

    private static void toldForThoughtBeyond() {
        full("a ninth prophet", x -> Check.due("a ninth prophet", x.prophet(1), -1));
        full("a sixth word", x -> Check.due("a sixth word", x.spell(1), -1));
        full("an eleventh comer", x -> Check.due("an eleventh comer", x.comer(0, 1), -1));
        full("an eleventh letter", x -> Check.due("an eleventh letter", x.letter(0, 1), -1));
    }

    private static void looks() {
        some("looks", x -> {
            for (int what = -1; what <= 15; what++) {
                x.look(what);
                x.place(what, what % 6);
                x.place(3, what);
                x.of(what, 6);
                x.of(2, what);
                x.book(what, 0);
                x.book(1, what);
                x.fault(what);
            }
        });
    }

    private static void thoughts() {
        Twins.Deed[] deeds = {
            x -> x.goes(60, 0), x -> x.goes(1, 3), x -> x.goes(7, 1), x -> x.goes(9, 2), x -> x.arrives(0, 11), x -> x.arrives(1, 3),
            x -> x.bath(5, 50, 33, 100), x -> x.bath(5, 50, 33, 101), x -> x.follows(3007, 5, 1000, 1000000), x -> x.caught(0, 11),
            x -> x.caught(0, -1), x -> x.said(0, 999, 31, 0), x -> x.said(0, 999, 31, 1), x -> x.wrong(5, 10, 1), x -> x.wrong(5, 10, -1),
            x -> x.wrong(5, 10, -2), x -> x.together(0), x -> x.together(1), x -> x.ranks(999, 1), x -> x.queue(1, 0), x -> x.queue(3, 2),
            x -> x.cross(0), x -> x.cross(1), x -> x.bell(1, 0), x -> x.bell(4095, 1), x -> x.sits(0), x -> x.sits(1), x -> x.sits(2),
            x -> x.lights(77, 100000, 0), x -> x.lights(77, 0, 1), x -> x.game(99999)};
        for (int i = 0; i < deeds.length; i++) {
            some("the thought " + i, deeds[i]);
            full("the thought " + i, deeds[i]);
        }
    }

    private static void thoughtsThatCant() {
        some("thoughts that can't be", x -> {
            int none = 0;
            none += x.goes(0, 0) + x.goes(61, 0) + x.goes(1, 4) + x.arrives(4, 0) + x.arrives(3, 1) + x.arrives(0, 12);
            none += x.bath(100, 0, 0, 10) + x.bath(0, 0, 0, 12) + x.follows(1, 6, 1, 1) + x.follows(1, 1, 0, 1) + x.caught(12, 0) + x.caught(0, -2);
            none += x.said(1000, 0, 0, 0) + x.said(0, 0, 32, 0) + x.wrong(0, 11, 0) + x.wrong(0, 10, 2) + x.wrong(0, 10, -3);
            none += x.together(2) + x.ranks(0, 0) + x.ranks(1000, 1) + x.queue(0, 0) + x.queue(4, 1) + x.queue(1, 3) + x.cross(2) + x.bell(0, 0);
            none += x.bell(4096, 1) + x.sits(3) + x.lights(256, 0, 0) + x.lights(0, 100001, 0) + x.game(0) + x.game(100001);
            Check.due("each is NONE", none, -31);
        });
    }

    private static void nothingToUndo() {
        LateOrders one = new LateOrders();
        Check.due("undo of nothing", one.undo(), false);
        Twins.alike("undo of nothing", one, new LateOrders());
        some("undo of nothing", x -> {
            x.builds(4);
            x.set(2, 4, 0);
            Check.due("undo of nothing", x.undo(), false);
            x.image(false);
            Check.due("undo of nothing", x.undo(), false);
            again(x);
        });
    }

    /** As some() went on when its image had been taken. */
    private static void again(LateOrders x) {
        x.days(2);
        x.state(777);
        x.builds(5);
        x.order(2, 2, 0, false);
        x.order(5, 1, 0, false);
    }

    private static void noImage() {
        LateOrders one = new LateOrders();
        LateOrders other = new LateOrders();
        for (LateOrders x : new LateOrders[] {one, other}) {
            x.subject(0, 9);
            x.order(2, 0, 0, true);
            x.days(2);
            x.builds(5);
        }
        Check.due("no image", one.image(false), false);
        Check.due("what can be undone stays", one.look(14), 4);
        Twins.alike("no image", one, other);
    }
}
