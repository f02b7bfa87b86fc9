import java.util.ArrayDeque;
import java.util.ArrayList;
import java.util.Deque;
import java.util.HashMap;
import java.util.List;
import java.util.Map;
import java.util.regex.Matcher;
import java.util.regex.Pattern;

/** A second program of the document, plain and slow, which random runs are compared with. */
final class Model {
    /** What a law knows: lot, shake, age, aim, wind, minute, hurt. */
    interface Sum {
        long tell(Map<String, Integer> words);
    }

    interface Truth {
        boolean holds(Map<String, Integer> words);
    }

    static final class Fault extends RuntimeException {
        private static final long serialVersionUID = 1L;
        final int kind;
        final int place;

        Fault(int kind, int place) {
            this.kind = kind;
            this.place = place;
        }
    }

    static final class Told {
        int from = 10, to = 10, top = 10, falls = 1, cost = 10, wind = 0, lines = 0;
        List<Integer> shakes = new ArrayList<>();
        Sum strays = null;
        Truth opens = null;
    }

    static final class Now implements Cloneable {
        int[] points = new int[4], ages = new int[4];
        int hurt, wind, minute;

        Now copy() {
            Now n = new Now();
            n.points = points.clone();
            n.ages = ages.clone();
            n.hurt = hurt;
            n.wind = wind;
            n.minute = minute;
            return n;
        }
    }

    private String tape = "";
    private int fault = 0, place = -1;
    private Told told = new Told();
    private Now now = new Now();
    private Deque<Now> undo = new ArrayDeque<>();
    private final long[][] trays = new long[4][];
    private final int[] sorts = new int[4];
    private final Told[] imageTold = new Told[2];
    private final Now[] imageNow = new Now[2];

    // ---- reading

    private static final Pattern TOKEN = Pattern.compile("[ \\n]*(?:([a-z]+)|([0-9]+)|([;:+\\-*()\\[\\]=<>])|(.)|$)",
        Pattern.DOTALL);

    private final class Parse {
        final List<String> tokens = new ArrayList<>();
        final List<Integer> places = new ArrayList<>();
        int at = 0;
        boolean strays;

        Parse(String text) {
            Matcher m = TOKEN.matcher(text);
            int from = 0;
            while (m.find(from)) {
                if (m.end() == m.start() || m.group(1) == null && m.group(2) == null && m.group(3) == null && m.group(4) == null) {
                    break;
                }
                for (int g = 1; g <= 4; g++) {
                    if (m.group(g) != null) {
                        boolean bad = g == 4 || g == 2 && m.group(g).length() > 3;
                        tokens.add(bad ? "?" : m.group(g));
                        places.add(m.start(g));
                    }
                }
                from = m.end();
            }
            tokens.add("");
            places.add(text.length());
        }

        String here() {
            return tokens.get(at);
        }

        Fault bad(int kind) {
            return new Fault(here().equals("?") ? 1 : kind, places.get(at));
        }

        boolean is(String s) {
            return here().equals(s);
        }

        void need(String s) {
            if (!is(s)) {
                throw bad(2);
            }
            at++;
        }

        boolean isN() {
            return !here().isEmpty() && Character.isDigit(here().charAt(0));
        }

        int number(int least, int most) {
            if (!isN()) {
                throw bad(2);
            }
            int v = Integer.parseInt(here());
            if (v < least || v > most) {
                throw bad(3);
            }
            at++;
            return v;
        }

        Told text() {
            Told t = new Told();
            need("butt");
            need("eye");
            t.from = number(0, 20);
            t.to = number(t.from, 20);
            need(";");
            t.lines = 1;
            while (!is("")) {
                line(t);
                need(";");
                t.lines++;
            }
            return t;
        }

        void line(Told t) {
            if (is("top")) {
                at++;
                t.top = number(0, 99);
                need("falls");
                t.falls = number(0, 99);
                need("cost");
                t.cost = number(0, 99);
            } else if (is("shooter")) {
                if (t.shakes.size() == 4) {
                    throw bad(4);
                }
                at++;
                need("shake");
                t.shakes.add(number(0, 9));
            } else if (is("wind")) {
                at++;
                t.wind = number(0, 9);
            } else if (is("strays")) {
                at++;
                need(":");
                strays = true;
                t.strays = sum(6);
            } else if (is("opens")) {
                at++;
                need(":");
                strays = false;
                t.opens = truth(6);
            } else {
                throw bad(2);
            }
        }

        /** left: how many may still stand within. */
        void enter(int left) {
            if (left == 0) {
                throw bad(4);
            }
            at++;
        }

        Sum sum(int left) {
            Sum all = term(left);
            while (is("+") || is("-")) {
                int sign = is("+") ? 1 : -1;
                at++;
                Sum a = all, b = term(left);
                all = w -> keep(a.tell(w) + sign * b.tell(w));
            }
            return all;
        }

        Sum term(int left) {
            Sum all = atom(left);
            while (is("*")) {
                at++;
                Sum a = all, b = atom(left);
                all = w -> keep(a.tell(w) * b.tell(w));
            }
            return all;
        }

        Sum atom(int left) {
            if (isN()) {
                int v = number(0, 999);
                return w -> v;
            }
            if (is("(")) {
                enter(left);
                Sum s = sum(left - 1);
                need(")");
                return s;
            }
            if (is("if")) {
                enter(left);
                Truth t = truth(left - 1);
                need("then");
                Sum a = sum(left - 1);
                need("else");
                Sum b = sum(left - 1);
                need("end");
                return w -> t.holds(w) ? a.tell(w) : b.tell(w);
            }
            String words = strays ? " wind lot shake age aim " : " wind minute hurt ";
            if (!is("") && !is("?") && words.contains(" " + here() + " ")) {
                String word = here();
                at++;
                return w -> w.get(word);
            }
            throw bad(2);
        }

        Truth truth(int left) {
            Truth all = both(left);
            while (is("or")) {
                at++;
                Truth a = all, b = both(left);
                all = w -> a.holds(w) || b.holds(w);
            }
            return all;
        }

        Truth both(int left) {
            Truth all = unit(left);
            while (is("and")) {
                at++;
                Truth a = all, b = unit(left);
                all = w -> a.holds(w) && b.holds(w);
            }
            return all;
        }

        Truth unit(int left) {
            if (is("not")) {
                enter(left);
                Truth t = unit(left - 1);
                return w -> !t.holds(w);
            }
            if (is("[")) {
                enter(left);
                Truth t = truth(left - 1);
                need("]");
                return t;
            }
            Sum a = sum(left);
            String sign = here();
            if (!is("=") && !is("<") && !is(">")) {
                throw bad(2);
            }
            at++;
            Sum b = sum(left);
            return w -> {
                int c = Long.compare(a.tell(w), b.tell(w));
                return sign.equals("=") ? c == 0 : sign.equals("<") ? c < 0 : c > 0;
            };
        }
    }

    private static long keep(long v) {
        return Math.max(-1000000, Math.min(1000000, v));
    }

    // ---- the butt

    int feed(int a, int b, int c, int d, int e) {
        if (tape.length() > 880) {
            return -5;
        }
        for (int v : new int[] {a, b, c, d, e}) {
            for (int i = 3; i >= 0; i--) {
                tape += (char) (v >> 8 * i & 255);
            }
        }
        return tape.length();
    }

    int butt(int n) {
        if (n < 0 || n > tape.length()) {
            return -3;
        }
        String text = tape.substring(0, n);
        tape = "";
        try {
            told = new Parse(text).text();
        } catch (Fault f) {
            fault = f.kind;
            place = f.place;
            return -30 - fault;
        }
        fault = 0;
        place = -1;
        now = new Now();
        now.wind = told.wind;
        undo.clear();
        return told.lines;
    }

    int fault(int what) {
        return what == 0 ? fault : what == 1 ? place : -1;
    }

    private boolean noShooter(int s) {
        return s < 0 || s >= told.shakes.size();
    }

    private static boolean noPlace(long p) {
        return p < 0 || p > 20;
    }

    private static boolean noLot(long p) {
        return p < 0 || p > 9;
    }

    int shooter(int s, int what) {
        return noShooter(s) || what < 0 || what > 1 ? -2 : what == 0 ? told.shakes.get(s) : now.ages[s];
    }

    int points(int s) {
        return noShooter(s) ? -99000002 : now.points[s];
    }

    private int land(int s, int aim, int lot, int age, int wind) {
        int shake = told.shakes.get(s);
        int d = (lot - 5) * shake / 5;
        if (told.strays != null) {
            Map<String, Integer> w = new HashMap<>();
            w.put("lot", lot);
            w.put("shake", shake);
            w.put("age", age);
            w.put("aim", aim);
            w.put("wind", wind);
            d = (int) told.strays.tell(w);
        }
        d = Math.max(-9, Math.min(9, d));
        return Math.max(0, Math.min(20, aim + d));
    }

    private int landNow(int s, int aim, int lot) {
        return land(s, aim, lot, now.ages[s], now.wind);
    }

    private boolean isOpen(int minute, int hurt, int wind) {
        if (told.opens == null) {
            return minute % 2 == 1;
        }
        Map<String, Integer> w = new HashMap<>();
        w.put("minute", minute);
        w.put("hurt", Math.min(9, hurt));
        w.put("wind", wind);
        return told.opens.holds(w);
    }

    private boolean isOpen() {
        return isOpen(now.minute, now.hurt, now.wind);
    }

    private int score(int p, boolean open, int cost) {
        if (p >= told.from && p <= told.to) {
            return open ? -cost : 0;
        }
        int far = p < told.from ? told.from - p : p - told.to;
        int s = told.top;
        for (int i = 1; i < far; i++) {
            s -= told.falls;
        }
        return s < 0 ? 0 : s;
    }

    int lands(int s, int aim, int lot) {
        return noShooter(s) || noPlace(aim) || noLot(lot) ? -2 : landNow(s, aim, lot);
    }

    int far(int p) {
        return noPlace(p) ? -2 : Math.max(0, Math.max(told.from - p, p - told.to));
    }

    int scores(int p) {
        return noPlace(p) ? -99000002 : score(p, isOpen(), told.cost);
    }

    int open(int n) {
        return n < 0 || n > 99 ? -3 : isOpen(now.minute + n, now.hurt, now.wind) ? 1 : 0;
    }

    int opens(int what) {
        if (what != 0 && what != 1) {
            return -2;
        }
        for (int n = 0; n <= 99; n++) {
            if (open(n) == what) {
                return n;
            }
        }
        return -1;
    }

    // ---- deeds

    private void did(Now before) {
        undo.push(before);
        if (undo.size() > 10) {
            undo.removeLast();
        }
    }

    private int fire(Now n, int s, int aim, int lot) {
        int p = land(s, aim, lot, n.ages[s], n.wind);
        boolean open = isOpen(n.minute, n.hurt, n.wind);
        int sc = score(p, open, told.cost);
        n.points[s] += sc;
        n.ages[s] = Math.min(9, n.ages[s] + 1);
        if (open && p >= told.from && p <= told.to) {
            n.hurt++;
        }
        n.minute++;
        return sc;
    }

    int shoot(int s, int aim, int lot) {
        if (noShooter(s) || noPlace(aim) || noLot(lot)) {
            return -99000011;
        }
        did(now.copy());
        return fire(now, s, aim, lot);
    }

    int waits(int n) {
        if (n < 1 || n > 99) {
            return -3;
        }
        did(now.copy());
        return now.minute += n;
    }

    int heal() {
        did(now.copy());
        int h = now.hurt;
        now.hurt = 0;
        return h;
    }

    int wind(int n) {
        if (noLot(n)) {
            return -11;
        }
        did(now.copy());
        int w = now.wind;
        now.wind = n;
        return w;
    }

    int undo(int n) {
        if (n < 1 || n > 10 || n > undo.size()) {
            return -3;
        }
        for (int i = 0; i < n; i++) {
            now = undo.pop();
        }
        return undo.size();
    }

    private boolean deed(Now n, long v) {
        if (v == 0) {
            n.minute++;
        } else if (v == 1) {
            n.hurt = 0;
        } else if (v >= 10 && v <= 19) {
            n.wind = (int) v - 10;
        } else if (v >= 10000 && v <= 49999) {
            int r = (int) v - 10000;
            int s = r / 10000, aim = r % 10000 / 100, lot = r % 10000 % 100;
            if (noShooter(s) || noPlace(aim) || noLot(lot)) {
                return false;
            }
            fire(n, s, aim, lot);
        } else {
            return false;
        }
        return true;
    }

    private static boolean noTray(int t) {
        return t < 0 || t > 3;
    }

    int judge(int tray, int what) {
        if (noTray(tray) || what < 0 || what > 3) {
            return -2;
        }
        if (trays[tray] == null) {
            return -6;
        }
        Now n = now.copy();
        int bad = -1;
        for (int i = 0; i < trays[tray].length; i++) {
            if (!deed(n, trays[tray][i])) {
                bad = i;
                break;
            }
        }
        return what == 0 ? bad : what == 1 ? (bad < 0 ? 0 : 1) : what == 2 ? n.minute : n.hurt;
    }

    int perform(int tray) {
        if (noTray(tray)) {
            return -2;
        }
        if (trays[tray] == null) {
            return -6;
        }
        Now before = now.copy();
        int done = 0;
        while (done < trays[tray].length && deed(now, trays[tray][done])) {
            done++;
        }
        if (done > 0) {
            did(before);
        }
        return done;
    }

    private int x;

    private int draw() {
        x = x * 1103515245 + 12345;
        return x >>> 16;
    }

    int day(int seed, int times) {
        if (times < 1 || times > 40) {
            return -3;
        }
        x = seed;
        Now before = now.copy();
        int done = 0;
        for (int i = 0; i < times; i++) {
            int k = draw() % 6;
            long v = k;
            if (k == 2) {
                v = 10 + draw() % 10;
            } else if (k > 2) {
                v = 10000 + 10000L * (draw() % 4);
                v += 100L * (draw() % 21);
                v += draw() % 10;
            }
            if (deed(now, v)) {
                done++;
            }
        }
        if (done > 0) {
            did(before);
        }
        return done;
    }

    int leads() {
        int best = -1;
        for (int s = 0; s < told.shakes.size(); s++) {
            if (best < 0 || now.points[s] > now.points[best]) {
                best = s;
            }
        }
        return best;
    }

    // ---- aims

    private int sum(int s, int aim, int age, boolean open, int cost) {
        int sum = 0;
        for (int lot = 0; lot < 10; lot++) {
            sum += score(land(s, aim, lot, age, now.wind), open, cost);
        }
        return sum;
    }

    private int sumNow(int s, int aim) {
        return sum(s, aim, now.ages[s], isOpen(), told.cost);
    }

    private int best(int s, int age, boolean open, int cost) {
        int best = 0;
        for (int aim = 1; aim < 21; aim++) {
            if (sum(s, aim, age, open, cost) > sum(s, best, age, open, cost)) {
                best = aim;
            }
        }
        return best;
    }

    int touches(int s, int aim) {
        if (noShooter(s) || noPlace(aim)) {
            return -2;
        }
        int n = 0;
        for (int lot = 0; lot < 10; lot++) {
            n += far(landNow(s, aim, lot)) == 0 ? 1 : 0;
        }
        return n;
    }

    private static long part(long a, long b, int what) {
        java.math.BigInteger g = java.math.BigInteger.valueOf(a).gcd(java.math.BigInteger.valueOf(b));
        return (what == 0 ? a : b) / g.longValue();
    }

    int mean(int s, int aim, int what) {
        return noShooter(s) || noPlace(aim) || what < 0 || what > 1 ? -99000002 : (int) part(sumNow(s, aim), 10, what);
    }

    int bestAim(int s) {
        return noShooter(s) ? -2 : best(s, now.ages[s], isOpen(), told.cost);
    }

    int careful(int s) {
        if (noShooter(s)) {
            return -2;
        }
        int bits = 0;
        for (int aim = 0; aim < 21; aim++) {
            bits |= touches(s, aim) == 0 ? 1 << aim : 0;
        }
        return bits;
    }

    int edge(int s) {
        if (noShooter(s)) {
            return -2;
        }
        int best = -1;
        for (int aim = 0; aim < 21; aim++) {
            if (touches(s, aim) == 0 && (best < 0 || sumNow(s, aim) > sumNow(s, best))) {
                best = aim;
            }
        }
        return best;
    }

    int dares(int s) {
        if (noShooter(s)) {
            return -2;
        }
        int most = -1;
        for (int cost = 0; cost <= 99; cost++) {
            if (touches(s, best(s, now.ages[s], true, cost)) > 0) {
                most = cost;
            }
        }
        return most;
    }

    int likeliest(int s, int aim) {
        if (noShooter(s) || noPlace(aim)) {
            return -2;
        }
        int best = -1, most = 0;
        for (int p = 0; p < 21; p++) {
            int n = ways(s, aim, p);
            if (n > most) {
                best = p;
                most = n;
            }
        }
        return best;
    }

    private int ways(int s, int aim, long p) {
        int n = 0;
        for (int lot = 0; lot < 10; lot++) {
            n += landNow(s, aim, lot) == p ? 1 : 0;
        }
        return n;
    }

    int leaves(int s, int n) {
        if (noShooter(s)) {
            return -2;
        }
        if (n < 0 || n > 99) {
            return -3;
        }
        for (int age = 0; age <= 9; age++) {
            boolean more = false;
            for (int aim = 0; aim < 21; aim++) {
                more |= sum(s, aim, age, isOpen(), told.cost) > 10 * n;
            }
            if (!more) {
                return age;
            }
        }
        return -1;
    }

    int greedy() {
        int bits = 0;
        for (int s = 0; s < told.shakes.size(); s++) {
            bits |= touches(s, best(s, now.ages[s], false, told.cost)) > 0 ? 1 << s : 0;
        }
        return bits;
    }

    // ---- rounds

    private Map<Integer, Long> totals(int s, int n) {
        Map<Integer, Long> all = new HashMap<>();
        all.put(0, 1L);
        int aim = bestAim(s);
        for (int i = 0; i < n; i++) {
            Map<Integer, Long> next = new HashMap<>();
            for (Map.Entry<Integer, Long> e : all.entrySet()) {
                for (int lot = 0; lot < 10; lot++) {
                    next.merge(e.getKey() + scores(landNow(s, aim, lot)), e.getValue(), Long::sum);
                }
            }
            all = next;
        }
        return all;
    }

    long beats(int s, int other, int n, int what) {
        if (noShooter(s) || noShooter(other) || s == other || what < 0 || what > 1) {
            return -2;
        }
        if (n < 1 || n > 3) {
            return -3;
        }
        long won = 0, all = 0;
        for (Map.Entry<Integer, Long> a : totals(s, n).entrySet()) {
            for (Map.Entry<Integer, Long> b : totals(other, n).entrySet()) {
                long w = a.getValue() * b.getValue();
                all += w;
                won += a.getKey() > b.getKey() ? w : 0;
            }
        }
        return part(won, all, what);
    }

    private int roundFirst;

    /** The most that is scored from a turn on, times ten for each turn that is left. */
    private long most(int s, int left, int minute, int age, int hurt, Map<String, Long> met) {
        if (left == 0) {
            return 0;
        }
        String key = left + " " + age + " " + hurt;
        if (met.containsKey(key)) {
            return met.get(key);
        }
        long scale = 1;
        for (int i = 1; i < left; i++) {
            scale *= 10;
        }
        boolean open = isOpen(minute, hurt, now.wind);
        long best = Long.MIN_VALUE;
        int first = -1;
        for (int aim = 0; aim <= 21; aim++) {
            long sum = 0;
            for (int lot = 0; lot < 10; lot++) {
                if (aim == 21) {
                    sum += most(s, left - 1, minute + 1, age, hurt, met);
                } else {
                    int p = land(s, aim, lot, age, now.wind);
                    int h = open && far(p) == 0 ? hurt + 1 : hurt;
                    sum += score(p, open, told.cost) * scale + most(s, left - 1, minute + 1, Math.min(9, age + 1), h, met);
                }
            }
            if (sum > best) {
                best = sum;
                first = aim;
            }
        }
        roundFirst = first;
        met.put(key, best);
        return best;
    }

    long round(int s, int n, int what) {
        if (noShooter(s) || what < 0 || what > 1) {
            return -99000002;
        }
        if (n < 0 || n > 4) {
            return -99000003;
        }
        long[] scales = {1, 10, 100, 1000, 10000};
        return part(most(s, n, now.minute, now.ages[s], now.hurt, new HashMap<>()), scales[n], what);
    }

    int begins(int s, int n) {
        if (noShooter(s)) {
            return -2;
        }
        if (n < 0 || n > 4) {
            return -3;
        }
        roundFirst = -1;
        most(s, n, now.minute, now.ages[s], now.hurt, new HashMap<>());
        return roundFirst;
    }

    // ---- seen

    private int seen(int tray, int aim) {
        if (noTray(tray) || noPlace(aim)) {
            return -2;
        }
        if (trays[tray] == null) {
            return -6;
        }
        if (trays[tray].length < 1 || trays[tray].length > 8) {
            return -4;
        }
        for (long v : trays[tray]) {
            if (noPlace(v)) {
                return -3;
            }
        }
        return 0;
    }

    int shooters(int tray, int aim) {
        int code = seen(tray, aim);
        if (code < 0) {
            return code;
        }
        int bits = 0;
        for (int s = 0; s < told.shakes.size(); s++) {
            boolean can = true;
            for (long v : trays[tray]) {
                can &= ways(s, aim, v) > 0;
            }
            bits |= can ? 1 << s : 0;
        }
        return bits;
    }

    long odds(int tray, int aim, int s, int what) {
        if (noTray(tray) || noPlace(aim) || noShooter(s) || what < 0 || what > 1) {
            return -2;
        }
        int code = seen(tray, aim);
        if (code < 0) {
            return code;
        }
        long all = 0, own = 0;
        for (int i = 0; i < told.shakes.size(); i++) {
            long w = 1;
            for (long v : trays[tray]) {
                w *= ways(i, aim, v);
            }
            all += w;
            own = i == s ? w : own;
        }
        return all == 0 ? -5 : part(own, all, what);
    }

    int tells(int tray, int aim) {
        int bits = shooters(tray, aim);
        if (bits < 0) {
            return bits;
        }
        if (bits == 0) {
            return -1;
        }
        int best = -1, fewest = 99;
        for (int a = 0; a < 21; a++) {
            int pairs = 0;
            for (int i = 0; i < 4; i++) {
                for (int j = 0; j < i; j++) {
                    boolean meet = false;
                    for (int p = 0; p < 21 && (bits >> i & bits >> j & 1) == 1; p++) {
                        meet |= ways(i, a, p) > 0 && ways(j, a, p) > 0;
                    }
                    pairs += meet ? 1 : 0;
                }
            }
            if (pairs < fewest) {
                best = a;
                fewest = pairs;
            }
        }
        return best;
    }

    int winds(int tray, int s, int aim) {
        if (noTray(tray) || noShooter(s) || noPlace(aim)) {
            return -2;
        }
        if (trays[tray] == null) {
            return -6;
        }
        if (trays[tray].length < 1 || trays[tray].length > 8) {
            return -4;
        }
        int bits = 1023;
        for (long v : trays[tray]) {
            if (v < 0 || v > 999 || noPlace(v % 100)) {
                return -3;
            }
        }
        for (long v : trays[tray]) {
            for (int w = 0; w < 10; w++) {
                if (land(s, aim, (int) v / 100, now.ages[s], w) != v % 100) {
                    bits &= ~(1 << w);
                }
            }
        }
        return bits;
    }

    int attempt(int tray, int s, int aim) {
        int bits = winds(tray, s, aim);
        if (bits < 0) {
            return bits;
        }
        if (bits == 0) {
            return -1;
        }
        int best = -1, least = 99;
        for (int lot = 0; lot < 10; lot++) {
            int greatest = 0;
            for (int p = 0; p < 21; p++) {
                int n = 0;
                for (int w = 0; w < 10; w++) {
                    n += (bits >> w & 1) == 1 && land(s, aim, lot, now.ages[s], w) == p ? 1 : 0;
                }
                greatest = Math.max(greatest, n);
            }
            if (greatest < least) {
                best = lot;
                least = greatest;
            }
        }
        return best;
    }

    // ---- order, expected

    private List<Integer> bestOrder;
    private int bestTotal;

    private void orders(List<Integer> sofar, int total) {
        int n = told.shakes.size();
        if (sofar.size() == n) {
            if (bestOrder == null || total > bestTotal) {
                bestOrder = new ArrayList<>(sofar);
                bestTotal = total;
            }
            return;
        }
        for (int s = 0; s < n; s++) {
            if (!sofar.contains(s)) {
                boolean open = isOpen(now.minute + sofar.size(), now.hurt, now.wind);
                int aim = best(s, now.ages[s], open, told.cost);
                int gain = sum(s, aim, now.ages[s], open, told.cost);
                sofar.add(s);
                orders(sofar, total + gain);
                sofar.remove(sofar.size() - 1);
            }
        }
    }

    int order(int what) {
        bestOrder = null;
        bestTotal = 0;
        orders(new ArrayList<>(), 0);
        if (what == 0) {
            return bestTotal;
        }
        return what < 10 || what - 10 >= bestOrder.size() ? -99000002 : bestOrder.get(what - 10);
    }

    int expects(int s, int aim, int d) {
        if (noShooter(s) || noPlace(aim)) {
            return -2;
        }
        if (d < 0 || d > 999) {
            return -3;
        }
        int hand = aim;
        boolean open = false;
        for (int i = 1; i <= Math.min(d, 6 + d % 2); i++) {
            if (i % 2 == 1) {
                open = sum(s, hand, now.ages[s], true, told.cost) <= sum(s, hand, now.ages[s], false, told.cost);
            } else {
                hand = best(s, now.ages[s], open, told.cost);
            }
        }
        return d % 2 == 0 ? hand : open ? 1 : 0;
    }

    int rests(int s, int aim) {
        if (noShooter(s) || noPlace(aim)) {
            return -2;
        }
        return expects(s, aim, 4) == expects(s, aim, 6) ? 1 : 0;
    }

    int guards(int s) {
        if (noShooter(s)) {
            return -2;
        }
        int best = -1, most = 0;
        for (int aim = 0; aim < 21; aim++) {
            int v = Math.min(sum(s, aim, now.ages[s], true, told.cost), sum(s, aim, now.ages[s], false, told.cost));
            if (best < 0 || v > most) {
                best = aim;
                most = v;
            }
        }
        return best;
    }

    // ---- trays, images

    int numbers(int tray, int sort, int n) {
        if (noTray(tray) || sort < 0 || sort > 3) {
            return -2;
        }
        if (n < 0 || n > 40) {
            return -3;
        }
        trays[tray] = new long[n];
        sorts[tray] = sort;
        return 0;
    }

    long write(int tray, int i, long v) {
        if (noTray(tray)) {
            return -2;
        }
        if (trays[tray] == null) {
            return -6;
        }
        if (i < 0 || i >= trays[tray].length) {
            return -7;
        }
        int shift = 64 - (8 << sorts[tray]);
        return trays[tray][i] = v << shift >> shift;
    }

    int lists(int tray, int s, int aim) {
        if (noTray(tray) || noShooter(s) || noPlace(aim)) {
            return -2;
        }
        if (trays[tray] == null) {
            return -6;
        }
        int n = 0;
        while (n < 10 && n < trays[tray].length) {
            trays[tray][n] = landNow(s, aim, n);
            n++;
        }
        return n;
    }

    int image(int i) {
        if (i < 0 || i > 1) {
            return -2;
        }
        imageTold[i] = told;
        imageNow[i] = now.copy();
        return 0;
    }

    int restore(int i) {
        if (i < 0 || i > 1) {
            return -2;
        }
        if (imageTold[i] == null) {
            return -5;
        }
        told = imageTold[i];
        now = imageNow[i].copy();
        undo.clear();
        return 0;
    }

    int count(int what) {
        int[] all = {told.from, told.to, told.shakes.size(), told.top, told.falls, told.cost, now.wind, now.minute,
            now.hurt, undo.size(), tape.length(), told.lines};
        return what < 0 || what > 11 ? -1 : all[what];
    }
}
