/** The edges that the document names of UNDO and THE IMAGE, promises 34 and 35. */
public final class EdgesUndoTest {
    private EdgesUndoTest() {
    }

    public static void main(String[] args) {
        nothing();
        eachGoesBack();
        ofAFullDuchy();
        everywhere();
        sixAreKept();
        sixOfEachKind();
        theLatestFirst();
        whatForgets();
        whatForgetsNot();
        theLawStays();
        whatIsToldForThoughtStays();
        linesGoBack();
        imageOfNothing();
        imageOfSome();
        imageOfAll();
        moreThanOnce();
        theLatestImage();
        imageAndUndo();
        imageAndLines();
        imageLeavesTapeAndFault();
        Check.close("EdgesUndoTest");
    }

    private static void some(String what, Twins.Deed deed, Twins.Deed other) {
        LateOrders x = Twins.some();
        LateOrders y = Twins.some();
        deed.to(x);
        other.to(y);
        Twins.alike(what, x, y);
    }

    private static void full(String what, Twins.Deed deed, Twins.Deed other) {
        LateOrders x = Twins.full();
        LateOrders y = Twins.full();
        deed.to(x);
        other.to(y);
        Twins.alike(what, x, y);
    }

    private static void undo(LateOrders x, int times) {
        for (int i = 0; i < times; i++) {
            Check.due("undo", x.undo(), true);
        }
    }

    private static void nothing(LateOrders x) {
        int left = x.look(14);
        Check.due("undo of nothing", x.undo(), false);
        Check.due("nothing was there", left, 0);
        Check.due("nothing is there", x.look(14), 0);
    }

    // ---- UNDO

    /** false if there is nothing: of a new one, and behind the last. */
    private static void nothing() {
        LateOrders x = new LateOrders();
        nothing(x);
        nothing(x);
        x.builds(0);
        undo(x, 1);
        nothing(x);
        x.days(1);
        undo(x, 1);
        nothing(x);
        Check.due("DAY", x.look(5), 0);
    }

    private static void eachGoesBack() {
        Twins.Deed none = x -> { };
        some("a BUILDING", x -> {
            x.builds(11);
            undo(x, 1);
        }, none);
        some("a BUILDING up to 99", x -> {
            x.state(1);
            x.set(2, 5, 98);
            Check.due("99", x.builds(5), 99);
            Check.due("no more", x.builds(5), -1);
            undo(x, 1);
        }, x -> {
            x.state(1);
            x.set(2, 5, 98);
        });
        for (int what = 0; what < 6; what++) {
            int w = what;
            some("an ORDER " + what, x -> {
                Check.due("given", x.order(w, 1, 5, w < 5), 3);
                undo(x, 1);
            }, none);
        }
        some("a DAY", x -> {
            x.days(1);
            undo(x, 1);
        }, none);
        some("three DAYS", x -> {
            x.days(3);
            undo(x, 3);
        }, none);
        some("a DAY, an ORDER, a BUILDING", x -> {
            x.days(1);
            x.order(1, 0, 0, true);
            x.builds(5);
            undo(x, 3);
        }, none);
        some("an ORDER, then a DAY", x -> {
            x.order(1, 0, 0, true);
            x.days(1);
            undo(x, 1);
        }, x -> x.order(1, 0, 0, true));
    }

    private static void ofAFullDuchy() {
        full("the 24th ORDER", x -> {
            x.days(1);
            x.state(9);
            for (int i = 0; i < 23; i++) {
                x.order(3, i % 18, 0, false);
            }
            x.state(9);
            Check.due("24", x.order(3, 17, 0, true), 24);
            Check.due("25", x.order(3, 17, 0, true), -1);
            undo(x, 1);
        }, x -> {
            x.days(1);
            x.state(9);
            for (int i = 0; i < 23; i++) {
                x.order(3, i % 18, 0, false);
            }
            x.state(9);
        });
        full("DAYS of a full duchy", x -> {
            x.state(9);
            x.days(6);
            undo(x, 6);
        }, x -> x.state(9));
        full("DAYS on which all drown", x -> {
            x.set(5, 0, 9);
            x.days(2);
            undo(x, 2);
        }, x -> x.set(5, 0, 9));
    }

    /** Each PLACE and each SUBJECT, the first and the last. */
    private static void everywhere() {
        LateOrders x = everyone();
        LateOrders y = everyone();
        for (int turn = 0; turn < 2; turn++) {
            x.days(4);
            undo(x, 4);
        }
        for (int p = 0; p < 12; p++) {
            for (int what = 0; what < 4; what++) {
                Check.due("place(" + p + ", " + what + ")", x.place(p, what), y.place(p, what));
            }
        }
        for (int who = 0; who < 18; who++) {
            for (int what = 0; what < 6; what++) {
                Check.due("of(" + who + ", " + what + ")", x.of(who, what), y.of(who, what));
            }
        }
        for (int what = 0; what < 14; what++) {
            Check.due("look(" + what + ")", x.look(what), y.look(what));
        }
        Twins.alike("four DAYS of all, undone twice", x, y);
    }

    /** On the next four DAYS each SUBJECT builds or marches, each FIRE grows and each PLACE is drowned. */
    private static LateOrders everyone() {
        LateOrders x = new LateOrders();
        for (int who = 0; who < 18; who++) {
            x.subject(who % 12, 9);
        }
        for (int p = 0; p < 12; p++) {
            x.set(1, p, 10 + p);
        }
        Check.reads(x, 2, "on 3 sea 9;on 4 sea 8;", 2);
        StringBuilder ring = new StringBuilder();
        for (int p = 0; p < 12; p++) {
            ring.append("place ").append(p).append(" road ").append((p + 1) % 12).append(';');
        }
        Check.reads(x, 3, ring.toString(), 12);
        for (int who = 0; who < 18; who++) {
            x.order(who % 2 * 2, who, (who + 1) % 12, true);
        }
        x.days(1);
        x.state(99);
        return x;
    }

    private static void sixAreKept() {
        for (int n = 0; n <= 9; n++) {
            LateOrders x = new LateOrders();
            for (int i = 1; i <= n; i++) {
                x.builds(3);
                Check.due("what can be undone", x.look(14), Math.min(i, 6));
            }
            for (int left = Math.min(n, 6); left > 0; left--) {
                Check.due("left", x.look(14), left);
                Check.due("undo", x.undo(), true);
                Check.due("WALL", x.place(3, 2), n - Math.min(n, 6) + left - 1);
            }
            nothing(x);
            Check.due("WALL stays", x.place(3, 2), Math.max(0, n - 6));
        }
        // Six again behind those that were undone.
        LateOrders x = new LateOrders();
        for (int i = 0; i < 20; i++) {
            x.builds(3);
        }
        undo(x, 4);
        x.builds(4);
        x.builds(4);
        Check.due("two left and two", x.look(14), 4);
        for (int i = 0; i < 3; i++) {
            x.builds(5);
        }
        Check.due("six", x.look(14), 6);
        undo(x, 6);
        nothing(x);
        Check.due("WALL of 3: one of the two left was forgotten", x.place(3, 2), 15);
        Check.due("WALL of 4", x.place(4, 2), 0);
        Check.due("WALL of 5", x.place(5, 2), 0);
    }

    /** DAY by DAY, ORDER by ORDER, BUILDING by BUILDING; of days(60) the latest six. */
    private static void sixOfEachKind() {
        LateOrders x = new LateOrders();
        x.subject(0, 9);
        int[] days = {1, 5, 6, 7, 60};
        int day = 0;
        for (int n : days) {
            x.state(1);
            x.days(n);
            day += n;
            int kept = Math.min(n, 6);
            Check.due("of days(" + n + ")", x.look(14), kept);
            for (int i = 1; i <= kept; i++) {
                undo(x, 1);
                Check.due("DAY", x.look(5), day - i);
            }
            nothing(x);
            day -= kept;
        }
        x.state(1);
        for (int i = 0; i < 24; i++) {
            x.order(4, 0, 0, false);
        }
        for (int i = 1; i <= 6; i++) {
            undo(x, 1);
            Check.due("ORDERS", x.look(6), 24 - i);
        }
        nothing(x);
        Check.due("18 stay", x.look(6), 18);
    }

    private static void theLatestFirst() {
        LateOrders x = new LateOrders();
        x.subject(0, 9);
        Check.reads(x, 0, "obeys 1000;", 1);
        x.builds(7);
        x.order(2, 0, 0, true);
        x.days(1);
        x.builds(8);
        x.order(5, 0, 0, false);
        x.days(1);
        Check.due("DONE", x.of(0, 4), 1);
        int[][] due = {
            // DAY, ORDERS, WALL of 7, WALL of 8, DONE, ORDERS of yesterday
            {1, 1, 1, 1, 0, 1}, {1, 0, 1, 1, 0, 1}, {1, 0, 1, 0, 0, 1}, {0, 1, 1, 0, 0, 0}, {0, 0, 1, 0, 0, 0}, {0, 0, 0, 0, 0, 0}};
        for (int[] d : due) {
            undo(x, 1);
            int[] is = {x.look(5), x.look(6), x.place(7, 2), x.place(8, 2), x.of(0, 4), x.look(7)};
            for (int i = 0; i < d.length; i++) {
                Check.due("undone to " + d[0] + " " + d[1] + " " + d[2] + ": " + i, is[i], d[i]);
            }
        }
        nothing(x);
    }

    private static LateOrders twoBuilt() {
        LateOrders x = new LateOrders();
        x.subject(0, 5);
        Check.lay(x, "");
        x.builds(9);
        x.builds(9);
        return x;
    }

    /** Whatever else is told forgets them, though it changes nothing. */
    private static void whatForgets() {
        Twins.Deed[] deeds = {
            x -> x.state(0), x -> x.subject(0, 0), x -> x.set(0, 0, 5), x -> x.set(1, 0, 0), x -> x.set(2, 0, 0), x -> x.set(3, 0, 5),
            x -> x.set(4, 0, 0), x -> x.set(5, 0, 0), x -> x.text(1), x -> x.text(2), x -> x.text(3),
            x -> Check.reads(x, 1, "on 5 order 0 rest;", 1), x -> Check.reads(x, 2, "on 5 sea 0;", 1),
            x -> Check.reads(x, 3, "place 5 road 6;", 1)};
        for (int i = 0; i < deeds.length; i++) {
            LateOrders x = twoBuilt();
            Check.due("two", x.look(14), 2);
            deeds[i].to(x);
            Check.due("what is told " + i, x.look(14), 0);
            nothing(x);
            Check.due("WALL stays", x.place(9, 2), 2);
            x.builds(9);
            Check.due("one again", x.look(14), 1);
            undo(x, 1);
            Check.due("WALL", x.place(9, 2), 2);
            nothing(x);
        }
        LateOrders x = twoBuilt();
        x.image(true);
        x.builds(9);
        Check.due("gone back", x.image(false), true);
        nothing(x);
        Check.due("WALL of THE IMAGE", x.place(9, 2), 2);
    }

    /** But THE LAW, what is told for thought, the taking of THE IMAGE; and what is only asked, or refused. */
    private static void whatForgetsNot() {
        Twins.Deed[] deeds = {
            x -> x.text(0), x -> Check.reads(x, 0, "obeys 1;", 1), x -> Check.faulty(x, 0, "obeys", 1, 5), x -> x.image(true), x -> x.image(false),
            x -> x.prophet(1), x -> x.prophet(-1), x -> x.prophet(-2), x -> x.spell(1), x -> x.spell(-1), x -> x.spell(0), x -> x.comer(1, 1),
            x -> x.comer(-1, 1), x -> x.comer(1, 0), x -> x.letter(1, 2), x -> x.letter(-1, 2), x -> x.letter(2, 1), x -> x.goes(9, 0),
            x -> x.arrives(0, 3), x -> x.end(0), x -> x.feed(0x20202020, 0x20202020, 0x20202020, 0x20202020, 0x20202020), x -> x.end(1),
            x -> x.text(4), x -> Check.faulty(x, 1, "on", 1, 2), x -> Check.faulty(x, 2, "on", 1, 2), x -> Check.faulty(x, 3, "place", 1, 5),
            x -> x.subject(12, 0), x -> x.set(0, 0, 10), x -> x.set(6, 0, 0), x -> x.order(5, 0, 0, true), x -> x.builds(12), x -> x.days(0),
            x -> x.days(61), x -> x.look(14), x -> x.sits(2), x -> x.bell(1, 1)};
        for (int i = 0; i < deeds.length; i++) {
            LateOrders x = twoBuilt();
            deeds[i].to(x);
            Check.due("two still, behind " + i, x.look(14), 2);
            undo(x, 1);
            Check.due("WALL", x.place(9, 2), 1);
            undo(x, 1);
            Check.due("WALL", x.place(9, 2), 0);
            nothing(x);
        }
    }

    /** THE LAW is not what goes back: it is as it was told last. */
    private static void theLawStays() {
        String[] laws = {"obeys 7;tires 8;grows 9;", ""};
        for (String law : laws) {
            some("THE LAW " + law, x -> {
                x.builds(4);
                x.end(0);
                Check.tell(x, 0, law);
                undo(x, 1);
            }, x -> {
                x.end(0);
                Check.tell(x, 0, law);
            });
            some("THE LAW behind a DAY " + law, x -> {
                x.days(2);
                x.end(0);
                Check.tell(x, 0, law);
                undo(x, 2);
            }, x -> {
                x.end(0);
                Check.tell(x, 0, law);
            });
        }
    }

    private static void whatIsToldForThoughtStays() {
        Twins.Deed more = x -> {
            x.prophet(99);
            x.spell(77);
            x.comer(2, 2);
            x.letter(3, 4);
        };
        Twins.Deed none = x -> {
            x.prophet(-1);
            x.spell(-1);
            x.comer(-1, 0);
            x.letter(-1, 0);
        };
        for (Twins.Deed told : new Twins.Deed[] {more, none}) {
            some("what is told for thought", x -> {
                x.days(1);
                told.to(x);
                undo(x, 1);
            }, told);
            some("what is told for thought, behind a BUILDING", x -> {
                x.builds(4);
                x.order(1, 0, 0, false);
                told.to(x);
                undo(x, 2);
            }, told);
        }
    }

    /** THE BOOK, too: the lines are gone, and others may come instead. */
    private static void linesGoBack() {
        LateOrders x = new LateOrders();
        x.subject(0, 9);
        Check.reads(x, 0, "obeys 1000;", 1);
        x.order(2, 0, 0, true);
        x.days(3);
        Check.due("two lines", x.look(8), 2);
        undo(x, 1);
        Check.due("one line", x.look(8), 1);
        Check.due("line 0", x.book(0, 0), 1);
        Check.due("line 1 is gone", x.book(1, 0), -2);
        x.order(5, 0, 0, false);
        x.days(2);
        Check.due("three lines", x.look(8), 3);
        Check.due("line 1", x.book(1, 0), 2);
        Check.due("line 2: a stop", x.book(2, 1), 2);
        undo(x, 3);
        undo(x, 1);
        Check.due("no line", x.look(8), 0);
        Check.due("line 0 is gone", x.book(0, 0), -2);
    }

    // ---- THE IMAGE

    private static void imageOfNothing() {
        LateOrders x = new LateOrders();
        Check.due("none", x.image(false), false);
        Check.due("none still", x.image(false), false);
        Check.due("taken", x.image(true), true);
        manyThings(x);
        Check.due("gone back", x.image(false), true);
        LateOrders y = new LateOrders();
        y.image(true);
        Twins.alike("a new one", x, y);
    }

    /** Something else of all that can be told and be. */
    private static void manyThings(LateOrders x) {
        for (int i = 0; i < 3; i++) {
            x.subject(11 - i, 3);
        }
        for (int p = 0; p < 12; p += 11) {
            x.set(0, p, 1);
            x.set(1, p, 77);
            x.set(2, p, 8);
        }
        int last = x.look(0) - 1;
        x.set(3, 0, 3);
        x.set(3, last, 4);
        x.set(4, 0, 33);
        x.set(4, last, 44);
        x.set(5, 0, 2);
        int left = x.end(0) ? 1 : 0;
        Check.due("the TAPE is empty", left, 1);
        Check.tell(x, 0, "obeys 77;grows 7;tires 7;");
        Check.tell(x, 1, "on 0 order 0 rest;");
        Check.tell(x, 2, "on 11 fire 3 77;on 2 sea 9;");
        Check.tell(x, 3, "place 7 road 8;place 0 road 11;");
        x.state(4711);
        x.prophet(-1);
        x.prophet(77);
        x.spell(-1);
        x.spell(77);
        x.comer(-1, 0);
        x.comer(7, 7);
        x.letter(-1, 0);
        x.letter(7, 17);
        x.order(2, 0, 0, true);
        x.days(4);
        x.order(3, 0, 0, true);
        x.builds(6);
        // So that TAPE and fault() are as they are of any other.
        Check.tell(x, 0, "");
    }

    /** The TAPE of both is empty, fault() tells of none: these are not of THE IMAGE. */
    private static void bare(LateOrders x) {
        x.end(0);
        x.text(4);
    }

    private static void imageOfSome() {
        some("THE IMAGE of some", x -> {
            x.image(true);
            manyThings(x);
            Check.due("gone back", x.image(false), true);
            bare(x);
        }, x -> {
            x.image(true);
            x.image(false);
            bare(x);
        });
    }

    private static void imageOfAll() {
        full("THE IMAGE of all", x -> {
            x.image(true);
            manyThings(x);
            Check.due("gone back", x.image(false), true);
            bare(x);
        }, x -> {
            x.image(true);
            x.image(false);
            bare(x);
        });
        LateOrders x = everyone();
        LateOrders y = everyone();
        x.image(true);
        x.days(4);
        Check.due("all drowned", x.look(3), 18);
        Check.due("gone back", x.image(false), true);
        for (int who = 0; who < 18; who++) {
            for (int what = 0; what < 6; what++) {
                Check.due("of(" + who + ", " + what + ")", x.of(who, what), y.of(who, what));
            }
        }
        for (int p = 0; p < 12; p++) {
            for (int what = 0; what < 4; what++) {
                Check.due("place(" + p + ", " + what + ")", x.place(p, what), y.place(p, what));
            }
        }
        Check.due("what can be undone: nothing", x.look(14), 0);
        Check.due("ORDERS of yesterday", x.look(7), 18);
    }

    private static void moreThanOnce() {
        some("gone back three times", x -> {
            x.image(true);
            for (int i = 0; i < 3; i++) {
                manyThings(x);
                Check.due("gone back", x.image(false), true);
                nothing(x);
            }
            bare(x);
        }, x -> {
            x.image(true);
            x.image(false);
            bare(x);
        });
    }

    private static void theLatestImage() {
        LateOrders x = new LateOrders();
        for (int i = 1; i <= 3; i++) {
            x.builds(0);
            Check.due("taken", x.image(true), true);
            x.builds(0);
            x.builds(0);
            Check.due("gone back", x.image(false), true);
            Check.due("to the latest", x.place(0, 2), i);
        }
        Check.due("there at once", x.image(false), true);
        Check.due("nothing changes", x.place(0, 2), 3);
    }

    /** What can be undone is not of it: it stays as it is taken, and is nothing when it is gone back to. */
    private static void imageAndUndo() {
        LateOrders x = new LateOrders();
        for (int i = 0; i < 8; i++) {
            x.builds(0);
        }
        Check.due("taken", x.image(true), true);
        Check.due("six still", x.look(14), 6);
        undo(x, 4);
        Check.due("undone past it", x.place(0, 2), 4);
        Check.due("gone back", x.image(false), true);
        Check.due("as it was taken", x.place(0, 2), 8);
        nothing(x);
        x.builds(0);
        Check.due("one", x.look(14), 1);
        Check.due("gone back", x.image(false), true);
        nothing(x);
        Check.due("as it was taken", x.place(0, 2), 8);
    }

    /** Its lines of THE BOOK come back, though others were written instead. */
    private static void imageAndLines() {
        LateOrders x = new LateOrders();
        x.subject(0, 9);
        Check.reads(x, 0, "obeys 1000;", 1);
        x.order(2, 0, 0, true);
        x.days(4);
        x.image(true);
        undo(x, 3);
        Check.due("none is left", x.look(8), 0);
        x.order(5, 0, 0, false);
        Check.reads(x, 0, "obeys 0;", 1);
        x.days(5);
        int[][] other = {{1, 1, 0, 2}, {2, 2, 0, 2}};
        int[][] due = {{1, 0, 0, 2}, {2, 0, 0, 2}, {3, 0, 0, 2}};
        for (int line = 0; line < 2; line++) {
            for (int what = 0; what < 4; what++) {
                Check.due("another book(" + line + ", " + what + ")", x.book(line, what), other[line][what]);
            }
        }
        Check.due("two lines", x.look(8), 2);
        x.image(false);
        Check.due("three lines", x.look(8), 3);
        for (int line = 0; line < 3; line++) {
            for (int what = 0; what < 4; what++) {
                Check.due("book(" + line + ", " + what + ")", x.book(line, what), due[line][what]);
            }
        }
        Check.due("no more", x.book(3, 0), -2);
        x.days(1);
        Check.due("a line behind them", x.book(3, 0), 4);
    }

    /** All but the TAPE and fault(). */
    private static void imageLeavesTapeAndFault() {
        LateOrders x = new LateOrders();
        x.subject(0, 0);
        Check.faulty(x, 0, "obeys 1/0;", 2, 8);
        Check.lay(x, "obeys 12;");
        x.image(true);
        Check.due("the FAULT stays", x.fault(0), 2);
        Check.due("its place stays", x.fault(1), 8);
        Check.due("the TAPE stays: nine", x.end(9), true);
        Check.due("the TAPE stays: no more", x.end(10), false);
        x.end(7);
        x.feed(0x353b2020, 0x20202020, 0x20202020, 0x20202020, 0x20202020);
        x.image(false);
        Check.due("the TAPE is as it is", x.end(27), true);
        Check.due("no more", x.end(28), false);
        Check.due("the FAULT is as it is", x.fault(1), 8);
        Check.due("what it tells", x.text(0), 1);
        Check.due("15", x.of(0, 6), 15);
        Check.due("no FAULT", x.fault(0), 0);
        x.image(false);
        Check.due("no FAULT still", x.fault(0), 0);
        Check.due("no LAW", x.look(10), 0);
        Check.due("500", x.of(0, 6), 500);
        Check.due("the TAPE is empty", x.end(1), false);
    }
}
