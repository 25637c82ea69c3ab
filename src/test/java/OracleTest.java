import java.util.ArrayList;
import java.util.List;
import java.util.Random;

/** Runs of calls by fixed draws, each answer held against the Oracle's. */
public final class OracleTest {
    private final Random random;
    private final LateOrders x = new LateOrders();
    private final Oracle o = new Oracle();
    private final List<String> calls = new ArrayList<>();
    private final int manner;
    private boolean told = false;

    private OracleTest(long seed) {
        random = new Random(seed);
        manner = random.nextInt(8);
    }

    public static void main(String[] args) {
        int runs = args.length > 0 ? Integer.parseInt(args[0]) : 1500;
        int first = args.length > 1 ? Integer.parseInt(args[1]) : 0;
        for (int seed = first; seed < first + runs; seed++) {
            OracleTest run = new OracleTest(seed);
            while (run.calls.size() < 480 && !run.told) {
                run.someCall();
            }
            if (run.told) {
                System.out.println("in the run by " + seed);
                break;
            }
        }
        Check.close("OracleTest");
    }

    private void due(String call, long got, long want) {
        calls.add(call + " " + got);
        if (got != want && !told) {
            told = true;
            for (String c : calls) {
                System.out.println(c);
            }
        }
        Check.due(call, got, want);
    }

    private void due(String call, boolean got, boolean want) {
        due(call, got ? 1L : 0L, want ? 1L : 0L);
    }

    private int upTo(int n) {
        return random.nextInt(n + 1);
    }

    /** Mostly from least to most, sometimes just beyond or far off. */
    private int near(int least, int most) {
        int kind = random.nextInt(40);
        switch (kind) {
            case 0: return least - 1;
            case 1: return most + 1;
            case 2: return random.nextInt();
            case 3: return least;
            case 4: return most;
            case 5: return random.nextBoolean() ? Integer.MIN_VALUE : Integer.MAX_VALUE;
            default: return least + random.nextInt(most - least + 1);
        }
    }

    private void someCall() {
        int kind = manner < 6 ? random.nextInt(100) : 60 + random.nextInt(120);
        if (kind < 45) {
            someDeed();
        } else if (kind < 85) {
            someLook();
        } else if (kind < 90) {
            someText();
        } else {
            someThought(random.nextInt(22));
        }
    }

    private void someDeed() {
        int a;
        int b;
        int c;
        switch (random.nextInt(calls.size() < 60 ? 10 : 14)) {
            case 0:
                a = near(0, 11);
                b = near(0, 9);
                due("subject " + a + " " + b, x.subject(a, b), o.subject(a, b));
                break;
            case 1:
                a = near(0, 5);
                b = a == 3 || a == 4 ? near(0, Math.max(0, o.w.subjects.size() - 1)) : near(0, 11);
                c = a == 0 || a == 3 || a == 5 ? near(0, manner == 1 ? 5 : 9) : near(0, 99);
                if (a == 5 && manner > 1) {
                    c = Math.min(c, 5);
                }
                due("set " + a + " " + b + " " + c, x.set(a, b, c), o.set(a, b, c));
                break;
            case 2:
                a = near(0, 11);
                due("builds " + a, x.builds(a), o.builds(a));
                break;
            case 3:
                if (random.nextInt(4) == 0) {
                    a = random.nextInt();
                    due("state " + a, x.state(a), o.state(a));
                }
                break;
            case 4:
            case 5:
                a = random.nextInt(10) == 0 ? near(1, 60) : 1 + upTo(2);
                due("days " + a, x.days(a), o.days(a));
                break;
            case 6:
            case 7:
            case 8:
            case 9:
                for (int i = upTo(manner == 2 ? 26 : 4); i >= 0; i--) {
                    a = near(0, 5);
                    b = near(0, Math.max(0, o.w.subjects.size() - 1));
                    c = near(0, 11);
                    boolean goesOn = random.nextBoolean();
                    due("order " + a + " " + b + " " + c + " " + goesOn, x.order(a, b, c, goesOn), o.order(a, b, c, goesOn));
                }
                break;
            case 10:
            case 11:
            case 12:
                for (int i = upTo(8); i >= 0; i--) {
                    due("undo", x.undo(), o.undo());
                }
                break;
            default:
                boolean taken = random.nextBoolean();
                due("image " + taken, x.image(taken), o.image(taken));
                break;
        }
    }

    private void someLook() {
        int a;
        int b;
        switch (random.nextInt(5)) {
            case 0:
                a = near(0, 14);
                due("look " + a, x.look(a), o.look(a));
                break;
            case 1:
                a = near(0, 11);
                b = near(0, 5);
                due("place " + a + " " + b, x.place(a, b), o.place(a, b));
                break;
            case 2:
                a = near(0, Math.max(0, o.w.subjects.size() - 1));
                b = near(0, 7);
                due("of " + a + " " + b, x.of(a, b), o.of(a, b));
                break;
            case 3:
                a = near(0, Math.max(0, o.w.book.size() - 1));
                b = near(0, 3);
                due("book " + a + " " + b, x.book(a, b), o.book(a, b));
                break;
            default:
                due("look 9", x.look(9), o.look(9));
                due("look 14", x.look(14), o.look(14));
                break;
        }
    }

    private void someText() {
        int k = near(0, 3);
        String text = k == 0 ? law() : k == 1 ? ledger() : k == 2 ? tide() : roads();
        if (random.nextInt(4) == 0) {
            text = spoilt(text);
        }
        text = text.length() > 400 ? text.substring(0, 400) : text;
        if (o.tape.length() > 0 && random.nextBoolean()) {
            due("end 0", x.end(0), o.end(0));
        }
        for (int from = 0; from < text.length() || from == 0; from += 20) {
            int[] v = new int[5];
            for (int i = 0; i < 5; i++) {
                v[i] = Check.four(text, from + 4 * i);
            }
            due("feed", x.feed(v[0], v[1], v[2], v[3], v[4]), o.feed(v[0], v[1], v[2], v[3], v[4]));
        }
        int to = random.nextInt(10) == 0 ? near(0, 400) : text.length();
        due("end " + to, x.end(to), o.end(to));
        if (random.nextInt(20) != 0) {
            String tape = o.tape;
            due("text " + k + " \"" + tape + "\"", x.text(k), o.text(k));
            due("fault 0", x.fault(0), o.fault(0));
            due("fault 1", x.fault(1), o.fault(1));
            due("look " + (10 + (k & 3)), x.look(10 + (k & 3)), o.look(10 + (k & 3)));
        }
    }

    private String blank() {
        String[] some = {" ", " ", " ", "\n", "  ", " \n "};
        return some[random.nextInt(some.length)];
    }

    private String nothing() {
        return random.nextInt(5) == 0 ? blank() : "";
    }

    private String unit() {
        String[] words = {"zeal", "tired", "what", "fire", "wall", "high", "sea", "crowd", "done", "day"};
        return random.nextInt(3) > 0 ? words[random.nextInt(words.length)]
            : Integer.toString(random.nextInt(random.nextInt(4) == 0 ? 10000 : 12));
    }

    private String amount() {
        StringBuilder t = new StringBuilder(unit());
        while (random.nextInt(3) == 0) {
            int sign = random.nextInt(4);
            t.append(nothing()).append("+-*/".charAt(sign)).append(nothing());
            t.append(sign == 3 ? Integer.toString(random.nextInt(12) + (random.nextInt(20) == 0 ? 0 : 1)) : unit());
        }
        return t.toString();
    }

    private String condition(int depth) {
        int kind = random.nextInt(depth > 9 ? 4 : 12);
        if (kind < 4) {
            return amount() + nothing() + "<=>".charAt(random.nextInt(3)) + nothing() + amount();
        }
        if (kind < 6) {
            return "not" + blank() + condition(depth + 1);
        }
        if (kind < 9) {
            return "(" + nothing() + condition(depth + 1) + nothing() + ")";
        }
        return condition(depth + 1) + blank() + (kind < 11 ? "and" : "or") + blank() + condition(depth + 1);
    }

    private String law() {
        StringBuilder t = new StringBuilder();
        int lines = random.nextInt(12) == 0 ? 16 + upTo(2) : upTo(5);
        for (int i = 0; i < lines; i++) {
            String[] words = {"obeys", "tires", "grows"};
            int word = random.nextInt(3);
            t.append(words[word]).append(blank());
            if (word == 0 && random.nextBoolean()) {
                t.append(random.nextInt(1100)).append("+");
            }
            t.append(lines > 10 ? unit() : amount());
            if (lines <= 10 && random.nextInt(3) > 0) {
                t.append(blank()).append("when").append(blank()).append(condition(0));
            }
            t.append(nothing()).append(";");
        }
        return t.toString();
    }

    private int soon() {
        return random.nextInt(15) == 0 ? near(0, 999) & 0xffff : o.w.day + random.nextInt(6);
    }

    private String ledger() {
        StringBuilder t = new StringBuilder();
        int lines = random.nextInt(8) == 0 ? 14 + upTo(4) : upTo(6);
        for (int i = 0; i < lines; i++) {
            String[] words = {"march", "rest", "build", "quench", "stand", "stop"};
            int word = random.nextInt(6);
            t.append("on").append(nothing()).append(soon()).append(nothing()).append("order").append(blank());
            t.append(near(0, Math.max(0, o.w.subjects.size() - 1)) & 0xff).append(nothing()).append(words[word]);
            if (word == 0) {
                t.append(blank()).append(near(0, 11) & 0xff);
            }
            if (random.nextInt(3) == 0 && (word != 5 || random.nextInt(10) == 0)) {
                t.append(blank()).append("daily");
            }
            t.append(";");
        }
        return t.toString();
    }

    private String tide() {
        StringBuilder t = new StringBuilder();
        int lines = random.nextInt(8) == 0 ? 15 + upTo(3) : upTo(6);
        for (int i = 0; i < lines; i++) {
            t.append("on ").append(soon());
            if (random.nextInt(3) == 0) {
                t.append(" sea ").append(manner == 3 ? near(0, 9) & 0xff : near(0, 5) & 7);
            } else {
                t.append(" fire ").append(near(0, 11) & 0xff).append(blank()).append(near(0, 99) & 0xff);
            }
            t.append(";");
        }
        return t.toString();
    }

    private String roads() {
        StringBuilder t = new StringBuilder();
        int lines = random.nextInt(3) == 0 ? 15 + upTo(2) : 8 + upTo(8);
        for (int i = 0; i < lines; i++) {
            int a = random.nextInt(12);
            int b = random.nextInt(60) == 0 ? near(0, 11) & 0xff : manner % 2 == 0 ? (a + 1) % 12 : (a + 1 + random.nextInt(11)) % 12;
            t.append("place ").append(a).append(" road ").append(b).append(nothing()).append(";");
        }
        return t.toString();
    }

    private String spoilt(String text) {
        StringBuilder t = new StringBuilder(text);
        String[] bits = {";", "(", ")", " ", "0", "12345", "on", "obeys", "when", "not ", "not not not not not not not not not ",
            "((((((((( ", "?", "\u00e9", "X", ".", "\t", "/0", "/ 0", "daily", "stop", "stop daily", "sea", "<", "and", "or", "tires 1;"};
        for (int i = upTo(2); i >= 0; i--) {
            int at = upTo(t.length());
            if (t.length() > 0 && random.nextInt(3) == 0) {
                t.deleteCharAt(Math.min(at, t.length() - 1));
            } else {
                t.insert(at, bits[random.nextInt(bits.length)]);
            }
        }
        return t.toString();
    }

    private void someThought(int kind) {
        int a = near(1, 60);
        int b = near(0, 3);
        int c;
        int d;
        switch (kind) {
            case 0:
            case 1:
                due("goes " + a + " " + b, x.goes(a, b), o.goes(a, b));
                break;
            case 2:
            case 3:
                a = near(0, Math.max(0, o.w.subjects.size() - 1));
                b = near(0, 11);
                due("arrives " + a + " " + b, x.arrives(a, b), o.arrives(a, b));
                break;
            case 4:
                a = near(0, 99);
                b = near(0, 99);
                c = near(0, 99);
                d = 10 * near(1, 10) + near(0, 1);
                due("bath " + a + " " + b + " " + c + " " + d, x.bath(a, b, c, d), o.bath(a, b, c, d));
                break;
            case 5:
                a = near(0, 999999);
                b = near(1, 5);
                c = random.nextBoolean() ? near(1, 12) : near(1, 1000);
                d = random.nextInt(10) == 0 ? near(0, 1000000) : near(0, 40);
                due("follows " + a + " " + b + " " + c + " " + d, x.follows(a, b, c, d), o.follows(a, b, c, d));
                break;
            case 6:
            case 7:
                a = near(0, 11);
                b = random.nextInt(4) == 0 ? -1 : near(0, 11);
                due("caught " + a + " " + b, x.caught(a, b), o.caught(a, b));
                break;
            case 8:
                a = near(0, 999);
                b = near(0, 999);
                c = random.nextBoolean() ? 31 : near(0, 31);
                d = near(0, 1);
                due("said " + a + " " + b + " " + c + " " + d, x.said(a, b, c, d), o.said(a, b, c, d));
                break;
            case 9:
                a = random.nextInt(10) == 0 ? -1 : near(0, 1023);
                due("prophet " + a, x.prophet(a), o.prophet(a));
                break;
            case 10:
                a = near(0, 1023);
                b = near(0, 10);
                c = near(-2, 7);
                due("wrong " + a + " " + b + " " + c, x.wrong(a, b, c), o.wrong(a, b, c));
                break;
            case 11:
                a = random.nextInt(10) == 0 ? -1 : random.nextBoolean() ? Integer.parseInt(digits()) : near(1, 9999);
                due("spell " + a, x.spell(a), o.spell(a));
                break;
            case 12:
                a = near(0, 1);
                due("together " + a, x.together(a), o.together(a));
                break;
            case 13:
                a = near(1, 999);
                b = near(0, 1);
                due("ranks " + a + " " + b, x.ranks(a, b), o.ranks(a, b));
                break;
            default:
                someMore(kind);
                break;
        }
    }

    private String digits() {
        StringBuilder t = new StringBuilder();
        for (int i = upTo(3); i >= 0; i--) {
            t.append(1 + random.nextInt(2));
        }
        return t.toString();
    }

    private void someMore(int kind) {
        int a = near(0, 1);
        int b;
        int c;
        switch (kind) {
            case 14:
                a = random.nextInt(12) == 0 ? -1 : near(0, random.nextBoolean() ? 20 : 99);
                b = near(1, 20);
                due("comer " + a + " " + b, x.comer(a, b), o.comer(a, b));
                break;
            case 15:
                a = near(1, 3);
                b = near(0, 2);
                due("queue " + a + " " + b, x.queue(a, b), o.queue(a, b));
                break;
            case 16:
                a = random.nextInt(12) == 0 ? -1 : near(0, random.nextBoolean() ? 10 : 99);
                b = random.nextBoolean() ? near(0, 99) : (int) Math.min(99L, (long) a + 1 + upTo(8));
                due("letter " + a + " " + b, x.letter(a, b), o.letter(a, b));
                break;
            case 17:
                due("cross " + a, x.cross(a), o.cross(a));
                break;
            case 18:
                b = near(1, 4095);
                due("bell " + b + " " + a, x.bell(b, a), o.bell(b, a));
                break;
            case 19:
                a = near(0, 2);
                due("sits " + a, x.sits(a), o.sits(a));
                break;
            case 20:
                b = near(0, 255);
                c = random.nextInt(5) == 0 ? near(0, 100000) : near(0, 6);
                due("lights " + b + " " + c + " " + a, x.lights(b, c, a), o.lights(b, c, a));
                break;
            default:
                b = random.nextInt(300) + 1;
                due("game " + b, x.game(b), o.game(b));
                break;
        }
    }
}
