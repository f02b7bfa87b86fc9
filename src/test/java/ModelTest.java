import java.util.Random;

/** Random runs of calls, each answer compared with the model's. */
public final class ModelTest {
    private static Random random;
    private static LashRing x;
    private static Model m;
    private static int run;

    public static void main(String[] args) {
        int runs = args.length > 0 ? Integer.parseInt(args[0]) : 250;
        int first = args.length > 1 ? Integer.parseInt(args[1]) : 0;
        for (run = first; run < first + runs; run++) {
            random = new Random(run);
            x = new LashRing();
            m = new Model();
            oneRun();
        }
        Check.end("ModelTest");
    }

    private static int below(int n) {
        return random.nextInt(n);
    }

    private static void due(String call, long got, long want) {
        Check.due("run " + run + ": " + call, got, want);
    }

    private static void oneRun() {
        int calls = 0;
        while (calls < 400) {
            if (calls == 0 ? below(10) > 0 : below(150) == 0) {
                calls += tellText();
            }
            oneCall();
            calls++;
        }
    }

    private static int tellText() {
        String text = below(4) == 0 ? spoiled(text()) : text();
        if (text.length() > 900) {
            text = text.substring(0, 900);
        }
        for (int from = 0; from < text.length(); from += 20) {
            int[] w = new int[5];
            for (int i = 0; i < 20; i++) {
                int b = from + i < text.length() ? text.charAt(from + i) : below(256);
                w[i / 4] = w[i / 4] << 8 | b;
            }
            due("feed", x.feed(w[0], w[1], w[2], w[3], w[4]), m.feed(w[0], w[1], w[2], w[3], w[4]));
        }
        int n = text.length();
        due("butt of '" + text + "'", x.butt(n), m.butt(n));
        due("fault(0) of '" + text + "'", x.fault(0), m.fault(0));
        due("fault(1) of '" + text + "'", x.fault(1), m.fault(1));
        for (int i = -1; i <= 12; i++) {
            due("count(" + i + ")", x.count(i), m.count(i));
        }
        return text.length() / 20 + 20;
    }

    // ---- texts

    private static boolean inStrays;

    private static String text() {
        int from = below(21);
        int to = from + below(Math.min(6, 21 - from));
        StringBuilder t = new StringBuilder("butt eye " + from + " " + to + ";");
        int shooters = below(10) == 0 ? 0 : 1 + below(4);
        for (int i = 0; i < shooters; i++) {
            t.append("shooter shake ").append(below(10)).append(";");
        }
        for (int i = below(5); i >= 0; i--) {
            switch (below(5)) {
                case 0: t.append("wind ").append(below(10)); break;
                case 1: inStrays = true; t.append("strays : ").append(sum(below(5))); break;
                case 2: inStrays = false; t.append("opens : ").append(truth(below(5))); break;
                default: t.append("top ").append(below(100)).append(" falls ").append(below(below(2) == 0 ? 5 : 100))
                    .append(" cost ").append(below(below(2) == 0 ? 10 : 100)); break;
            }
            t.append(";").append(below(5) == 0 ? "\n" : "");
        }
        return t.toString();
    }

    private static String sum(int depth) {
        StringBuilder t = new StringBuilder(term(depth));
        for (int i = below(3); i > 0; i--) {
            t.append(below(2) == 0 ? " + " : "-").append(term(depth));
        }
        return t.toString();
    }

    private static String term(int depth) {
        return below(4) == 0 ? atom(depth) + "*" + atom(depth) : atom(depth);
    }

    private static String atom(int depth) {
        if (depth > 0 && below(4) == 0) {
            return "(" + sum(depth - 1) + ")";
        }
        if (depth > 0 && below(4) == 0) {
            return "if " + truth(depth - 1) + " then " + sum(depth - 1) + " else " + sum(depth - 1) + " end";
        }
        if (below(3) == 0) {
            return String.valueOf(below(below(8) == 0 ? 1000 : 10));
        }
        String[] words = inStrays ? new String[] {"wind", "lot", "shake", "age", "aim", "lot", "wind"}
            : new String[] {"wind", "minute", "hurt"};
        return words[below(words.length)];
    }

    private static String truth(int depth) {
        StringBuilder t = new StringBuilder(unit(depth));
        for (int i = below(3); i > 0; i--) {
            t.append(below(2) == 0 ? " or " : " and ").append(unit(depth));
        }
        return t.toString();
    }

    private static String unit(int depth) {
        if (depth > 0 && below(4) == 0) {
            return "not " + unit(depth - 1);
        }
        if (depth > 0 && below(4) == 0) {
            return "[" + truth(depth - 1) + "]";
        }
        return sum(depth) + "=<>".charAt(below(3)) + sum(depth);
    }

    private static String spoiled(String text) {
        StringBuilder t = new StringBuilder(text);
        String[] parts = {";", ":", "(", "((((((", "[", "[[[[[[", "not ", "not not not not not not ", "if ", ")", "]", "1000",
            "999", "21", "A", "\t", "butt ", "shooter shake 1;", "hurt", "lot", " end ", "", "=", "*", "" + (char) 200, "wind"};
        for (int i = 1 + below(3); i > 0 && t.length() > 0; i--) {
            int from = below(t.length());
            int to = Math.min(t.length(), from + below(3) * below(4));
            t.replace(from, to, parts[below(parts.length)]);
        }
        if (below(4) == 0) {
            t.setLength(below(t.length() + 1));
        }
        return t.toString();
    }

    // ---- calls

    private static int num(int least, int most) {
        int r = below(60);
        return r == 0 ? least - 1 : r == 1 ? most + 1 : r == 2 ? random.nextInt() : least + below(most - least + 1);
    }

    private static int anyShooter() {
        int n = m.count(2);
        return n == 0 || below(40) == 0 ? num(0, 3) : below(n);
    }

    private static long deed() {
        switch (below(8)) {
            case 0: return 0;
            case 1: return below(3);
            case 2: return 9 + below(12);
            case 3: return below(20) == 0 ? random.nextLong() : 0;
            default: return 10000L + 10000 * anyShooter() + 100 * num(0, 20) + num(0, 9);
        }
    }

    private static void fillTray() {
        int tray = num(0, 3);
        int sort = below(3) == 0 ? num(0, 3) : 2;
        int n = below(4) == 0 ? num(0, 40) : 1 + below(4);
        due("numbers", x.numbers(tray, sort, n), m.numbers(tray, sort, n));
        int kind = below(3);
        int s = anyShooter();
        int aim = below(21);
        for (int i = 0; i < n && i < 40; i++) {
            int lot = below(10);
            int place = below(4) == 0 || m.lands(s, aim, lot) < 0 ? num(0, 20) : m.lands(s, aim, lot);
            long v = kind == 0 ? deed() : kind == 1 ? place : 100 * lot + place;
            due("write", x.write(tray, i, v), m.write(tray, i, v));
        }
        if (kind == 1) {
            due("shooters", x.shooters(tray, aim), m.shooters(tray, aim));
            due("odds", x.odds(tray, aim, s, 0), m.odds(tray, aim, s, 0));
            due("odds", x.odds(tray, aim, s, 1), m.odds(tray, aim, s, 1));
            due("tells", x.tells(tray, aim), m.tells(tray, aim));
        } else if (kind == 2) {
            due("winds", x.winds(tray, s, aim), m.winds(tray, s, aim));
            due("attempt", x.attempt(tray, s, aim), m.attempt(tray, s, aim));
        }
    }

    private static void oneCall() {
        int s = anyShooter();
        int o = anyShooter();
        int aim = num(0, 20);
        int lot = num(0, 9);
        int what = num(0, 1);
        int tray = num(0, 3);
        int n;
        long v;
        switch (below(52)) {
            case 0: n = num(0, 2); due("fault", x.fault(n), m.fault(n)); break;
            case 1: due("shooter", x.shooter(s, what), m.shooter(s, what)); break;
            case 2: due("points", x.points(s), m.points(s)); break;
            case 3: due("lands", x.lands(s, aim, lot), m.lands(s, aim, lot)); break;
            case 4: due("far", x.far(aim), m.far(aim)); break;
            case 5: due("scores", x.scores(aim), m.scores(aim)); break;
            case 6: n = num(0, 99); due("open", x.open(n), m.open(n)); break;
            case 7: due("opens", x.opens(what), m.opens(what)); break;
            case 8: case 48: case 49: due("shoot", x.shoot(s, aim, lot), m.shoot(s, aim, lot)); break;
            case 9: n = num(1, 99); due("waits", x.waits(n), m.waits(n)); break;
            case 10: n = num(1, 2); due("waits", x.waits(n), m.waits(n)); break;
            case 11: due("heal", x.heal(), m.heal()); break;
            case 12: due("wind", x.wind(lot), m.wind(lot)); break;
            case 13: n = num(1, 10); due("undo", x.undo(n), m.undo(n)); break;
            case 14: n = num(1, 2); due("undo", x.undo(n), m.undo(n)); break;
            case 15: n = num(0, 3); due("judge", x.judge(tray, n), m.judge(tray, n)); break;
            case 16: due("perform", x.perform(tray), m.perform(tray)); break;
            case 17: int seed = random.nextInt(); n = num(1, 40); due("day", x.day(seed, n), m.day(seed, n)); break;
            case 18: due("leads", x.leads(), m.leads()); break;
            case 19: due("touches", x.touches(s, aim), m.touches(s, aim)); break;
            case 20: due("mean", x.mean(s, aim, what), m.mean(s, aim, what)); break;
            case 21: due("bestAim", x.bestAim(s), m.bestAim(s)); break;
            case 22: due("careful", x.careful(s), m.careful(s)); break;
            case 23: due("edge", x.edge(s), m.edge(s)); break;
            case 24: due("dares", x.dares(s), m.dares(s)); break;
            case 25: due("likeliest", x.likeliest(s, aim), m.likeliest(s, aim)); break;
            case 26: n = num(0, 99); due("leaves", x.leaves(s, n), m.leaves(s, n)); break;
            case 27: due("greedy", x.greedy(), m.greedy()); break;
            case 28: n = num(1, 3); due("beats", x.beats(s, o, n, what), m.beats(s, o, n, what)); break;
            case 29: n = num(0, 4); due("round", x.round(s, n, what), m.round(s, n, what)); break;
            case 30: n = num(0, 4); due("begins", x.begins(s, n), m.begins(s, n)); break;
            case 31: due("shooters", x.shooters(tray, aim), m.shooters(tray, aim)); break;
            case 32: due("odds", x.odds(tray, aim, s, what), m.odds(tray, aim, s, what)); break;
            case 33: due("tells", x.tells(tray, aim), m.tells(tray, aim)); break;
            case 34: due("winds", x.winds(tray, s, aim), m.winds(tray, s, aim)); break;
            case 35: due("attempt", x.attempt(tray, s, aim), m.attempt(tray, s, aim)); break;
            case 36: n = below(2) == 0 ? 0 : 10 + num(0, 3); due("order", x.order(n), m.order(n)); break;
            case 37: n = num(0, 999); due("expects", x.expects(s, aim, n), m.expects(s, aim, n)); break;
            case 38: n = num(0, 3); due("expects", x.expects(s, aim, n), m.expects(s, aim, n)); break;
            case 39: due("rests", x.rests(s, aim), m.rests(s, aim)); break;
            case 40: due("guards", x.guards(s), m.guards(s)); break;
            case 41: n = num(0, 40); v = random.nextLong(); due("write", x.write(tray, n, v), m.write(tray, n, v)); break;
            case 42: due("lists", x.lists(tray, s, aim), m.lists(tray, s, aim)); break;
            case 43: due("image", x.image(what), m.image(what)); break;
            case 44: due("restore", x.restore(what), m.restore(what)); break;
            case 45: case 46: n = num(0, 11); due("count", x.count(n), m.count(n)); break;
            case 47: n = num(0, 0) - 1; due("butt", x.butt(n), m.butt(n)); break;
            default: fillTray(); break;
        }
    }
}
