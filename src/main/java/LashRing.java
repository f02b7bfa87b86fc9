import java.util.Arrays;

/** Bull's-eye is a person's: see README.md; the numbered promises stand in the document. */
public final class LashRing {
    public static final int NONE = -1;

    private static final int NO_SUCH = -2;
    private static final int BAD_NUMBER = -3;
    private static final int TOO_MANY = -4;
    private static final int NOT_NOW = -5;
    private static final int MISSING = -6;
    private static final int NO_NUMBER = -7;
    private static final int WHY_NOT = -11;
    private static final int BAD_TEXT = -30;
    /** Codes of calls that may answer small negative numbers as scores are this much less. */
    private static final int APART = 99000000;

    private static final int MOST_BYTES = 900;
    private static final int MOST_SHOOTERS = 4;
    private static final int MOST_NUMBERS = 40;
    private static final int MOST_SEEN = 8;
    private static final int MOST_UNDONE = 10;
    private static final int MOST_TIMES = 40;
    private static final int MOST_ROUND = 4;
    private static final int MOST_MATCH = 3;
    private static final int MOST_DEPTH = 999;
    private static final int TRAYS = 4;
    private static final int IMAGES = 2;
    private static final int PLACES = 21;
    private static final int LOTS = 10;
    private static final int WINDS = 10;
    private static final int MINUTES = 100;
    private static final int OLDEST = 9;
    private static final int MOST_SCORE = 99;
    private static final int MOST_SHAKE = 9;
    private static final int TO_WAIT = 21;

    private final byte[] tape = new byte[MOST_BYTES];
    private int taped = 0;
    private final Reader reader = new Reader();
    private Butt target = new Butt();
    private final State now = new State();
    private final State trial = new State();
    private final History history = new History();
    private final Tray[] trays = new Tray[TRAYS];
    private final Butt[] imageButts = new Butt[IMAGES];
    private final State[] imageStates = new State[IMAGES];
    private final Range range = new Range();
    private final Table[] tables = new Table[MOST_SHOOTERS];
    private final int[] spots = new int[PLACES];
    private final RoundPlay roundPlay = new RoundPlay();
    /** Its rows are long, so it is made by the first match. */
    private Match match = null;
    /** What each shooter gains in each turn of an ORDER. */
    private final int[] gains = new int[MOST_SHOOTERS * MOST_SHOOTERS];
    /** The number that the next DRAW of a DAY follows from. */
    private int drawn = 0;

    public LashRing() {
        for (int i = 0; i < trays.length; i++) {
            trays[i] = new Tray();
        }
        for (int i = 0; i < imageStates.length; i++) {
            imageStates[i] = new State();
        }
        for (int i = 0; i < tables.length; i++) {
            tables[i] = new Table();
        }
    }

    // ---- the butt

    public int feed(int a, int b, int c, int d, int e) {
        if (taped + 20 > MOST_BYTES) {
            return NOT_NOW;
        }
        putOnTape(a);
        putOnTape(b);
        putOnTape(c);
        putOnTape(d);
        putOnTape(e);
        return taped;
    }

    public int butt(int n) {
        if (n < 0 || n > taped) {
            return BAD_NUMBER;
        }
        taped = 0;
        Butt told = reader.read(tape, n);
        if (told == null) {
            return BAD_TEXT - reader.fault;
        }
        target = told;
        now.begin(told.wind);
        history.forget();
        return told.lines;
    }

    public int fault(int what) {
        if (what == 0) {
            return reader.fault;
        }
        return what == 1 ? reader.place : NONE;
    }

    public int shooter(int s, int what) {
        if (!isShooter(s) || !isHalf(what)) {
            return NO_SUCH;
        }
        return what == 0 ? target.shakeOf(s) : now.ageOf(s);
    }

    public int points(int s) {
        return isShooter(s) ? now.pointsOf(s) : NO_SUCH - APART;
    }

    public int lands(int s, int aim, int lot) {
        return isShot(s, aim, lot) ? landingNow(s, aim, lot) : NO_SUCH;
    }

    public int far(int place) {
        return isPlace(place) ? target.distance(place) : NO_SUCH;
    }

    public int scores(int place) {
        return isPlace(place) ? target.worth(place, isOpenNow()) : NO_SUCH - APART;
    }

    public int open(int n) {
        if (n < 0 || n >= MINUTES) {
            return BAD_NUMBER;
        }
        return isOpenIn(n) ? 1 : 0;
    }

    public int opens(int what) {
        if (!isHalf(what)) {
            return NO_SUCH;
        }
        for (int n = 0; n < MINUTES; n++) {
            if (isOpenIn(n) == (what == 1)) {
                return n;
            }
        }
        return NONE;
    }

    // ---- deeds

    public int shoot(int s, int aim, int lot) {
        if (!isShot(s, aim, lot)) {
            return WHY_NOT - APART;
        }
        history.keep(now);
        return takeShot(now, s, aim, lot);
    }

    public int waits(int n) {
        if (n < 1 || n >= MINUTES) {
            return BAD_NUMBER;
        }
        history.keep(now);
        now.minute += n;
        return now.minute;
    }

    public int heal() {
        history.keep(now);
        int was = now.hurt;
        now.hurt = 0;
        return was;
    }

    public int wind(int n) {
        if (!isWind(n)) {
            return WHY_NOT;
        }
        history.keep(now);
        int was = now.wind;
        now.wind = n;
        return was;
    }

    public int undo(int n) {
        if (n < 1 || n > history.size) {
            return BAD_NUMBER;
        }
        history.goBack(n, now);
        return history.size;
    }

    public int judge(int tray, int what) {
        if (!isTray(tray) || what < 0 || what > 3) {
            return NO_SUCH;
        }
        Tray deeds = trays[tray];
        if (!deeds.there) {
            return MISSING;
        }
        trial.copyFrom(now);
        int done = doAll(trial, deeds);
        boolean all = done == deeds.size;
        switch (what) {
            case 0: return all ? NONE : done;
            case 1: return all ? 0 : 1;
            case 2: return trial.minute;
            default: return trial.hurt;
        }
    }

    public int perform(int tray) {
        if (!isTray(tray)) {
            return NO_SUCH;
        }
        if (!trays[tray].there) {
            return MISSING;
        }
        trial.copyFrom(now);
        int done = doAll(now, trays[tray]);
        if (done > 0) {
            history.keep(trial);
        }
        return done;
    }

    public int day(int seed, int times) {
        if (times < 1 || times > MOST_TIMES) {
            return BAD_NUMBER;
        }
        trial.copyFrom(now);
        drawn = seed;
        int done = 0;
        for (int i = 0; i < times; i++) {
            if (doDeed(now, drawDeed())) {
                done++;
            }
        }
        if (done > 0) {
            history.keep(trial);
        }
        return done;
    }

    public int leads() {
        int first = NONE;
        int most = 0;
        for (int s = 0; s < target.shooterCount; s++) {
            if (first == NONE || now.pointsOf(s) > most) {
                first = s;
                most = now.pointsOf(s);
            }
        }
        return first;
    }

    // ---- aims

    public int touches(int s, int aim) {
        if (!isShooter(s) || !isPlace(aim)) {
            return NO_SUCH;
        }
        return tableNow(s).touchCount(aim);
    }

    public int mean(int s, int aim, int what) {
        if (!isShooter(s) || !isPlace(aim) || !isHalf(what)) {
            return NO_SUCH - APART;
        }
        int sum = tableNow(s).sum(aim, costNow());
        return (int) lowest(sum, LOTS, what);
    }

    public int bestAim(int s) {
        return isShooter(s) ? tableNow(s).best(costNow()) : NO_SUCH;
    }

    public int careful(int s) {
        if (!isShooter(s)) {
            return NO_SUCH;
        }
        Table table = tableNow(s);
        int bits = 0;
        for (int aim = 0; aim < PLACES; aim++) {
            if (table.touchCount(aim) == 0) {
                bits |= 1 << aim;
            }
        }
        return bits;
    }

    public int edge(int s) {
        if (!isShooter(s)) {
            return NO_SUCH;
        }
        Table table = tableNow(s);
        int first = NONE;
        int most = 0;
        for (int aim = 0; aim < PLACES; aim++) {
            int sum = table.sum(aim, 0);
            if (table.touchCount(aim) == 0 && (first == NONE || sum > most)) {
                first = aim;
                most = sum;
            }
        }
        return first;
    }

    public int dares(int s) {
        if (!isShooter(s)) {
            return NO_SUCH;
        }
        Table table = tableNow(s);
        for (int cost = MOST_SCORE; cost >= 0; cost--) {
            if (table.touchCount(table.best(cost)) > 0) {
                return cost;
            }
        }
        return NONE;
    }

    public int likeliest(int s, int aim) {
        if (!isShooter(s) || !isPlace(aim)) {
            return NO_SUCH;
        }
        countSpots(s, aim);
        int first = 0;
        for (int place = 1; place < PLACES; place++) {
            if (spots[place] > spots[first]) {
                first = place;
            }
        }
        return first;
    }

    public int leaves(int s, int n) {
        if (!isShooter(s)) {
            return NO_SUCH;
        }
        if (n < 0 || n > MOST_SCORE) {
            return BAD_NUMBER;
        }
        int cost = costNow();
        Table table = tables[0];
        for (int age = 0; age <= OLDEST; age++) {
            table.fill(range, target, target.shakeOf(s), age, now.wind);
            if (table.sum(table.best(cost), cost) <= n * LOTS) {
                return age;
            }
        }
        return NONE;
    }

    public int greedy() {
        int bits = 0;
        for (int s = 0; s < target.shooterCount; s++) {
            Table table = tableNow(s);
            if (table.touchCount(table.best(0)) > 0) {
                bits |= 1 << s;
            }
        }
        return bits;
    }

    // ---- rounds

    public long beats(int s, int other, int n, int what) {
        if (!isShooter(s) || !isShooter(other) || s == other || !isHalf(what)) {
            return NO_SUCH;
        }
        if (n < 1 || n > MOST_MATCH) {
            return BAD_NUMBER;
        }
        if (match == null) {
            match = new Match();
        }
        match.begin();
        addToMatch(tableNow(s), n, 1);
        addToMatch(tableNow(other), n, -1);
        return lowest(match.won(), match.ways, what);
    }

    public long round(int s, int n, int what) {
        if (!isShooter(s) || !isHalf(what)) {
            return NO_SUCH - APART;
        }
        if (n < 0 || n > MOST_ROUND) {
            return BAD_NUMBER - APART;
        }
        playRound(s, n);
        return lowest(roundPlay.worth(0, 0), roundPlay.scale, what);
    }

    public int begins(int s, int n) {
        if (!isShooter(s)) {
            return NO_SUCH;
        }
        if (n < 0 || n > MOST_ROUND) {
            return BAD_NUMBER;
        }
        if (n == 0) {
            return NONE;
        }
        playRound(s, n);
        return roundPlay.first;
    }

    // ---- seen

    public int shooters(int tray, int aim) {
        int code = refusedSeen(tray, aim);
        return code != 0 ? code : seenShooters(tray, aim);
    }

    public long odds(int tray, int aim, int s, int what) {
        if (!isShooter(s) || !isHalf(what)) {
            return NO_SUCH;
        }
        int code = refusedSeen(tray, aim);
        if (code != 0) {
            return code;
        }
        long all = 0;
        long own = 0;
        for (int i = 0; i < target.shooterCount; i++) {
            long ways = waysSeen(tray, i, aim);
            all += ways;
            if (i == s) {
                own = ways;
            }
        }
        return all == 0 ? NOT_NOW : lowest(own, all, what);
    }

    public int tells(int tray, int aim) {
        int code = refusedSeen(tray, aim);
        if (code != 0) {
            return code;
        }
        int seen = seenShooters(tray, aim);
        if (seen == 0) {
            return NONE;
        }
        fillAllTables();
        int first = 0;
        int fewest = pairsThatMeet(seen, 0);
        for (int next = 1; next < PLACES; next++) {
            int pairs = pairsThatMeet(seen, next);
            if (pairs < fewest) {
                first = next;
                fewest = pairs;
            }
        }
        return first;
    }

    public int winds(int tray, int s, int aim) {
        int code = refusedStrayed(tray, s, aim);
        return code != 0 ? code : strayedWinds(tray, s, aim);
    }

    public int attempt(int tray, int s, int aim) {
        int code = refusedStrayed(tray, s, aim);
        if (code != 0) {
            return code;
        }
        int winds = strayedWinds(tray, s, aim);
        if (winds == 0) {
            return NONE;
        }
        int first = 0;
        int least = mostAlike(winds, s, aim, 0);
        for (int lot = 1; lot < LOTS; lot++) {
            int alike = mostAlike(winds, s, aim, lot);
            if (alike < least) {
                first = lot;
                least = alike;
            }
        }
        return first;
    }

    // ---- order, expected

    public int order(int what) {
        int n = target.shooterCount;
        if (what != 0 && (what < 10 || what >= 10 + n)) {
            return NO_SUCH - APART;
        }
        tellGains(n);
        int best = bestOrder(n);
        return what == 0 ? gainOf(best, n) : turnOf(best, n, what - 10);
    }

    public int expects(int s, int aim, int d) {
        if (!isShooter(s) || !isPlace(aim)) {
            return NO_SUCH;
        }
        if (d < 0 || d > MOST_DEPTH) {
            return BAD_NUMBER;
        }
        Table table = tableNow(s);
        int hand = aim;
        boolean rested = false;
        for (int depth = 2; depth <= d && !rested; depth += 2) {
            int next = nextHand(table, hand);
            rested = next == hand;
            hand = next;
        }
        if ((d & 1) == 0) {
            return hand;
        }
        return eyeOpensAgainst(table, hand) ? 1 : 0;
    }

    public int rests(int s, int aim) {
        if (!isShooter(s) || !isPlace(aim)) {
            return NO_SUCH;
        }
        Table table = tableNow(s);
        int hand = aim;
        // An AIM follows from the one before: after as many steps as there are AIMS it stands or goes round.
        for (int i = 0; i < PLACES; i++) {
            hand = nextHand(table, hand);
        }
        return nextHand(table, hand) == hand ? 1 : 0;
    }

    public int guards(int s) {
        if (!isShooter(s)) {
            return NO_SUCH;
        }
        Table table = tableNow(s);
        int first = 0;
        int most = table.lesser(0, target.cost);
        for (int aim = 1; aim < PLACES; aim++) {
            int sum = table.lesser(aim, target.cost);
            if (sum > most) {
                first = aim;
                most = sum;
            }
        }
        return first;
    }

    // ---- trays, images

    public int numbers(int tray, int sort, int n) {
        if (!isTray(tray) || sort < 0 || sort > 3) {
            return NO_SUCH;
        }
        if (n < 0 || n > MOST_NUMBERS) {
            return BAD_NUMBER;
        }
        trays[tray].begin(sort, n);
        return 0;
    }

    public long write(int tray, int i, long v) {
        if (!isTray(tray)) {
            return NO_SUCH;
        }
        if (!trays[tray].there) {
            return MISSING;
        }
        if (i < 0 || i >= trays[tray].size) {
            return NO_NUMBER;
        }
        return trays[tray].put(i, v);
    }

    public int lists(int tray, int s, int aim) {
        if (!isTray(tray) || !isShooter(s) || !isPlace(aim)) {
            return NO_SUCH;
        }
        if (!trays[tray].there) {
            return MISSING;
        }
        int n = Math.min(LOTS, trays[tray].size);
        for (int lot = 0; lot < n; lot++) {
            trays[tray].put(lot, landingNow(s, aim, lot));
        }
        return n;
    }

    public int image(int i) {
        if (!isImage(i)) {
            return NO_SUCH;
        }
        imageButts[i] = target;
        imageStates[i].copyFrom(now);
        return 0;
    }

    public int restore(int i) {
        if (!isImage(i)) {
            return NO_SUCH;
        }
        Butt kept = imageButts[i];
        if (kept == null) {
            return NOT_NOW;
        }
        target = kept;
        now.copyFrom(imageStates[i]);
        history.forget();
        return 0;
    }

    public int count(int what) {
        switch (what) {
            case 0: return target.from;
            case 1: return target.to;
            case 2: return target.shooterCount;
            case 3: return target.top;
            case 4: return target.falls;
            case 5: return target.cost;
            case 6: return now.wind;
            case 7: return now.minute;
            case 8: return now.hurt;
            case 9: return history.size;
            case 10: return taped;
            case 11: return target.lines;
            default: return NONE;
        }
    }

    // ---- what there is

    private boolean isShooter(int s) {
        return s >= 0 && s < target.shooterCount && s < MOST_SHOOTERS;
    }

    private static boolean isPlace(long place) {
        return place >= 0 && place < PLACES;
    }

    private static boolean isLot(long lot) {
        return lot >= 0 && lot < LOTS;
    }

    private static boolean isWind(int n) {
        return n >= 0 && n < WINDS;
    }

    private static boolean isHalf(int what) {
        return what == 0 || what == 1;
    }

    private boolean isShot(int s, int aim, int lot) {
        return isShooter(s) && isPlace(aim) && isLot(lot);
    }

    private boolean isTray(int tray) {
        return tray >= 0 && tray < trays.length;
    }

    private boolean isImage(int i) {
        return i >= 0 && i < IMAGES;
    }

    private void putOnTape(int word) {
        for (int shift = 24; shift >= 0 && taped < tape.length; shift -= 8) {
            tape[taped] = (byte) (word >>> shift);
            taped++;
        }
    }

    // ---- the eye and the shots

    private boolean isOpenIn(int n) {
        return range.isEyeOpen(target, now.minute + n, now.hurt, now.wind);
    }

    private boolean isOpenNow() {
        return isOpenIn(0);
    }

    /** What a touch costs now: nothing while the eye is shut. */
    private int costNow() {
        return isOpenNow() ? target.cost : 0;
    }

    private int landingNow(int s, int aim, int lot) {
        return range.landing(target, target.shakeOf(s), now.ageOf(s), now.wind, aim, lot);
    }

    private Table tableNow(int s) {
        Table table = tables[0];
        table.fill(range, target, target.shakeOf(s), now.ageOf(s), now.wind);
        return table;
    }

    private void fillAllTables() {
        for (int s = 0; s < target.shooterCount && s < tables.length; s++) {
            tables[s].fill(range, target, target.shakeOf(s), now.ageOf(s), now.wind);
        }
    }

    // ---- deeds on a state

    private int takeShot(State state, int s, int aim, int lot) {
        int place = range.landing(target, target.shakeOf(s), state.ageOf(s), state.wind, aim, lot);
        boolean open = range.isEyeOpen(target, state.minute, state.hurt, state.wind);
        int score = target.worth(place, open);
        state.addShot(s, score);
        if (open && target.distance(place) == 0) {
            state.hurt++;
        }
        state.minute++;
        return score;
    }

    private int doAll(State state, Tray deeds) {
        for (int i = 0; i < deeds.size; i++) {
            if (!doDeed(state, deeds.at(i))) {
                return i;
            }
        }
        return deeds.size;
    }

    private boolean doDeed(State state, long deed) {
        if (deed == 0) {
            state.minute++;
            return true;
        }
        if (deed == 1) {
            state.hurt = 0;
            return true;
        }
        if (deed >= 10 && deed <= 19) {
            state.wind = (int) deed - 10;
            return true;
        }
        if (deed < 10000 || deed > 49999) {
            return false;
        }
        int told = (int) deed - 10000;
        int s = told / 10000;
        int aim = told % 10000 / 100;
        int lot = told % 100;
        if (!isShot(s, aim, lot)) {
            return false;
        }
        takeShot(state, s, aim, lot);
        return true;
    }

    private int draw() {
        drawn = 1103515245 * drawn + 12345;
        return drawn >>> 16;
    }

    /** The next deed of a day, as a TRAY would tell it. */
    private int drawDeed() {
        int sort = draw() % 6;
        if (sort < 2) {
            return sort;
        }
        if (sort == 2) {
            return 10 + draw() % WINDS;
        }
        int s = draw() % MOST_SHOOTERS;
        int aim = draw() % PLACES;
        int lot = draw() % LOTS;
        return 10000 + s * 10000 + aim * 100 + lot;
    }

    // ---- rounds and matches

    private void playRound(int s, int n) {
        for (int older = 0; older < n && older < tables.length; older++) {
            int age = Math.min(OLDEST, now.ageOf(s) + older);
            tables[older].fill(range, target, target.shakeOf(s), age, now.wind);
        }
        roundPlay.begin();
        for (int turn = n - 1; turn >= 0; turn--) {
            for (int older = 0; older <= turn && older < tables.length; older++) {
                for (int hurt = 0; hurt <= older; hurt++) {
                    boolean open = range.isEyeOpen(target, now.minute + turn, now.hurt + hurt, now.wind);
                    roundPlay.settle(tables[older], older, hurt, open, target.cost);
                }
            }
            roundPlay.scale *= LOTS;
        }
    }

    private void addToMatch(Table table, int n, int sign) {
        if (match == null) {
            return;
        }
        boolean open = isOpenNow();
        int aim = table.best(costNow());
        for (int lot = 0; lot < LOTS; lot++) {
            match.tell(lot, sign * target.worth(table.landingAt(aim, lot), open));
        }
        for (int i = 0; i < n; i++) {
            match.addShot();
        }
    }

    private static long lowest(long above, long below, int what) {
        long a = Math.abs(above);
        long b = below;
        for (int i = 0; i < 200 && b != 0; i++) {
            long rest = a % b;
            a = b;
            b = rest;
        }
        long chosen = what == 0 ? above : below;
        return a == 0 ? chosen : chosen / a;
    }

    // ---- seen

    /** The code by which a call on SEEN is refused, 0 if it isn't. */
    private int refusedSeen(int tray, int aim) {
        if (!isTray(tray) || !isPlace(aim)) {
            return NO_SUCH;
        }
        int code = refusedSize(trays[tray]);
        if (code != 0) {
            return code;
        }
        for (int i = 0; i < trays[tray].size; i++) {
            if (!isPlace(trays[tray].at(i))) {
                return BAD_NUMBER;
            }
        }
        return 0;
    }

    private static int refusedSize(Tray told) {
        if (!told.there) {
            return MISSING;
        }
        return told.size < 1 || told.size > MOST_SEEN ? TOO_MANY : 0;
    }

    private void countSpots(int s, int aim) {
        Arrays.fill(spots, 0);
        for (int lot = 0; lot < LOTS; lot++) {
            addSpot(range.landing(target, target.shakeOf(s), now.ageOf(s), now.wind, aim, lot));
        }
    }

    private void addSpot(int place) {
        if (isPlace(place)) {
            spots[place]++;
        }
    }

    /** By how many rows of LOTS a shooter can have shot all that a TRAY tells. */
    private long waysSeen(int tray, int s, int aim) {
        countSpots(s, aim);
        long ways = 1;
        for (int i = 0; i < trays[tray].size; i++) {
            long place = trays[tray].at(i);
            ways *= isPlace(place) ? spots[(int) place] : 0;
        }
        return ways;
    }

    private int seenShooters(int tray, int aim) {
        int bits = 0;
        for (int s = 0; s < target.shooterCount; s++) {
            if (waysSeen(tray, s, aim) > 0) {
                bits |= 1 << s;
            }
        }
        return bits;
    }

    private int pairsThatMeet(int seen, int aim) {
        int pairs = 0;
        for (int s = 0; s < tables.length; s++) {
            for (int other = s + 1; other < tables.length; other++) {
                boolean both = (seen >> s & 1) == 1 && (seen >> other & 1) == 1;
                if (both && (tables[s].reached(aim) & tables[other].reached(aim)) != 0) {
                    pairs++;
                }
            }
        }
        return pairs;
    }

    // ---- strayed

    /** The code by which a call on STRAYED is refused, 0 if it isn't. */
    private int refusedStrayed(int tray, int s, int aim) {
        if (!isTray(tray) || !isShooter(s) || !isPlace(aim)) {
            return NO_SUCH;
        }
        int code = refusedSize(trays[tray]);
        if (code != 0) {
            return code;
        }
        for (int i = 0; i < trays[tray].size; i++) {
            long v = trays[tray].at(i);
            if (v < 0 || !isLot(v / 100) || !isPlace(v % 100)) {
                return BAD_NUMBER;
            }
        }
        return 0;
    }

    private int landingByWind(int s, int aim, int lot, int wind) {
        return range.landing(target, target.shakeOf(s), now.ageOf(s), wind, aim, lot);
    }

    private int strayedWinds(int tray, int s, int aim) {
        int bits = 0;
        for (int wind = 0; wind < WINDS; wind++) {
            if (strayedBy(trays[tray], s, aim, wind)) {
                bits |= 1 << wind;
            }
        }
        return bits;
    }

    private boolean strayedBy(Tray told, int s, int aim, int wind) {
        for (int i = 0; i < told.size; i++) {
            long v = told.at(i);
            if (landingByWind(s, aim, (int) (v / 100), wind) != v % 100) {
                return false;
            }
        }
        return true;
    }

    private int mostAlike(int winds, int s, int aim, int lot) {
        Arrays.fill(spots, 0);
        for (int wind = 0; wind < WINDS; wind++) {
            if ((winds >> wind & 1) == 1) {
                addSpot(landingByWind(s, aim, lot, wind));
            }
        }
        int most = 0;
        for (int place = 0; place < PLACES; place++) {
            most = Math.max(most, spots[place]);
        }
        return most;
    }

    // ---- orders: two bits a turn, the first turn's the highest

    private void tellGains(int n) {
        fillAllTables();
        for (int turn = 0; turn < n && turn < MOST_SHOOTERS; turn++) {
            int cost = isOpenIn(turn) ? target.cost : 0;
            for (int s = 0; s < n && s < MOST_SHOOTERS; s++) {
                gains[turn * MOST_SHOOTERS + s] = tables[s].sum(tables[s].best(cost), cost);
            }
        }
    }

    private int bestOrder(int n) {
        int best = NONE;
        int most = 0;
        int end = 1 << 2 * Math.min(n, MOST_SHOOTERS);
        for (int order = 0; order < end; order++) {
            if (isOrder(order, n)) {
                int gain = gainOf(order, n);
                if (best == NONE || gain > most) {
                    best = order;
                    most = gain;
                }
            }
        }
        return best;
    }

    private static int turnOf(int order, int n, int turn) {
        return order >> 2 * (n - 1 - turn) & 3;
    }

    private static boolean isOrder(int order, int n) {
        int met = 0;
        for (int turn = 0; turn < n; turn++) {
            met |= 1 << turnOf(order, n, turn);
        }
        return met == (1 << n) - 1;
    }

    private int gainOf(int order, int n) {
        int sum = 0;
        for (int turn = 0; turn < n && turn < MOST_SHOOTERS; turn++) {
            sum += gains[turn * MOST_SHOOTERS + turnOf(order, n, turn)];
        }
        return sum;
    }

    // ---- expected

    private boolean eyeOpensAgainst(Table table, int hand) {
        return table.sum(hand, target.cost) <= table.sum(hand, 0);
    }

    private int nextHand(Table table, int hand) {
        return table.best(eyeOpensAgainst(table, hand) ? target.cost : 0);
    }

    // ---- classes inside

    /** What the text tells; never changed once it is read, so that images may share it. */
    private static final class Butt {
        int from = 10;
        int to = 10;
        int top = 10;
        int falls = 1;
        int cost = 10;
        int wind = 0;
        int lines = 0;
        int shooterCount = 0;
        final int[] shakes = new int[MOST_SHOOTERS];
        Law strays = null;
        Law opens = null;

        int shakeOf(int s) {
            return s >= 0 && s < shakes.length ? shakes[s] : 0;
        }

        void addShooter(int shake) {
            if (shooterCount < shakes.length) {
                shakes[shooterCount] = shake;
                shooterCount++;
            }
        }

        int distance(int place) {
            if (place < from) {
                return from - place;
            }
            return place > to ? place - to : 0;
        }

        int worth(int place, boolean open) {
            int distance = distance(place);
            if (distance == 0) {
                return open ? -cost : 0;
            }
            return Math.max(0, top - falls * (distance - 1));
        }
    }

    /** A law as a row of steps on a stack: numbers as they are, all else below 0. */
    private static final class Law {
        static final int ADD = -1;
        static final int TAKE = -2;
        static final int TIMES = -3;
        static final int SAME = -4;
        static final int LESS = -5;
        static final int MORE = -6;
        static final int BOTH = -7;
        static final int EITHER = -8;
        static final int NOT = -9;
        static final int CHOOSE = -10;
        /** The word w is the step WORDS - w. */
        static final int WORDS = -11;

        static final int LOT = 0;
        static final int SHAKE = 1;
        static final int AGE = 2;
        static final int AIM = 3;
        static final int WIND = 4;
        static final int MINUTE = 5;
        static final int HURT = 6;
        static final int WORD_COUNT = 7;

        private static final int FARTHEST = 1000000;

        private final int[] steps;
        final boolean namesAim;

        Law(int[] steps) {
            this.steps = steps;
            boolean named = false;
            for (int i = 0; i < steps.length; i++) {
                named = named || steps[i] == WORDS - AIM;
            }
            namesAim = named;
        }

        /** Both sums of an if are worked out, as no step can fail; only the one is taken. */
        int tell(int[] words, int[] stack) {
            int height = 0;
            for (int i = 0; i < steps.length; i++) {
                int step = steps[i];
                if (step >= 0 || step <= WORDS) {
                    if (height < stack.length) {
                        stack[height] = step >= 0 ? step : wordAt(words, WORDS - step);
                        height++;
                    }
                } else if (step == NOT) {
                    if (height >= 1 && height <= stack.length) {
                        stack[height - 1] = 1 - stack[height - 1];
                    }
                } else if (step == CHOOSE) {
                    if (height >= 3 && height <= stack.length) {
                        height -= 2;
                        stack[height - 1] = stack[height - 1] != 0 ? stack[height] : stack[height + 1];
                    }
                } else if (height >= 2 && height <= stack.length) {
                    height--;
                    stack[height - 1] = join(step, stack[height - 1], stack[height]);
                }
            }
            return height > 0 && stack.length > 0 ? stack[0] : 0;
        }

        private static int wordAt(int[] words, int w) {
            return w >= 0 && w < words.length ? words[w] : 0;
        }

        private static int join(int step, int a, int b) {
            switch (step) {
                case SAME: return a == b ? 1 : 0;
                case LESS: return a < b ? 1 : 0;
                case MORE: return a > b ? 1 : 0;
                case BOTH: return a & b;
                case EITHER: return a | b;
                default: break;
            }
            long v = step == ADD ? (long) a + b : step == TAKE ? (long) a - b : (long) a * b;
            return v > FARTHEST ? FARTHEST : v < -FARTHEST ? -FARTHEST : (int) v;
        }
    }

    /** Works the laws: where shots land and whether the eye is open. */
    private static final class Range {
        /** Of six within one another each leaves five values waiting at most, and all about them three more. */
        private static final int STACK = 64;
        private static final int MOST_STRAYED = 9;

        private final int[] words = new int[Law.WORD_COUNT];
        private final int[] stack = new int[STACK];

        int stray(Butt butt, int shake, int age, int wind, int aim, int lot) {
            if (butt.strays == null) {
                return held((lot - 5) * shake / 5);
            }
            words[Law.LOT] = lot;
            words[Law.SHAKE] = shake;
            words[Law.AGE] = Math.min(age, 9);
            words[Law.AIM] = aim;
            words[Law.WIND] = wind;
            return held(butt.strays.tell(words, stack));
        }

        private static int held(int stray) {
            return Math.max(-MOST_STRAYED, Math.min(MOST_STRAYED, stray));
        }

        static int placeOf(int aim, int stray) {
            return Math.max(0, Math.min(PLACES - 1, aim + stray));
        }

        int landing(Butt butt, int shake, int age, int wind, int aim, int lot) {
            return placeOf(aim, stray(butt, shake, age, wind, aim, lot));
        }

        boolean isEyeOpen(Butt butt, int minute, int hurt, int wind) {
            if (butt.opens == null) {
                return (minute & 1) == 1;
            }
            words[Law.MINUTE] = minute;
            words[Law.HURT] = Math.min(hurt, 9);
            words[Law.WIND] = wind;
            return butt.opens.tell(words, stack) != 0;
        }
    }

    /** Where one shooter's shots land by each AIM and LOT, and what they score but for touches. */
    private static final class Table {
        private final int[] landings = new int[PLACES * LOTS];
        private final int[] touched = new int[PLACES];
        private final int[] missed = new int[PLACES];

        void fill(Range range, Butt butt, int shake, int age, int wind) {
            Arrays.fill(touched, 0);
            Arrays.fill(missed, 0);
            boolean namesAim = butt.strays != null && butt.strays.namesAim;
            for (int lot = 0; lot < LOTS; lot++) {
                int stray = range.stray(butt, shake, age, wind, 0, lot);
                for (int aim = 0; aim < PLACES; aim++) {
                    if (namesAim && aim > 0) {
                        stray = range.stray(butt, shake, age, wind, aim, lot);
                    }
                    int place = Range.placeOf(aim, stray);
                    landings[aim * LOTS + lot] = place;
                    if (butt.distance(place) == 0) {
                        touched[aim]++;
                    } else {
                        missed[aim] += butt.worth(place, false);
                    }
                }
            }
        }

        int landingAt(int aim, int lot) {
            return isPlace(aim) && isLot(lot) ? landings[aim * LOTS + lot] : 0;
        }

        int touchCount(int aim) {
            return isPlace(aim) ? touched[aim] : 0;
        }

        /** Ten times what is scored on the mean, each touch costing so much. */
        int sum(int aim, int cost) {
            return isPlace(aim) ? missed[aim] - cost * touched[aim] : 0;
        }

        int lesser(int aim, int cost) {
            return Math.min(sum(aim, cost), sum(aim, 0));
        }

        int best(int cost) {
            int first = 0;
            int most = sum(0, cost);
            for (int aim = 1; aim < PLACES; aim++) {
                int sum = sum(aim, cost);
                if (sum > most) {
                    first = aim;
                    most = sum;
                }
            }
            return first;
        }

        /** PLACES where a shot at an AIM can land, as bits. */
        int reached(int aim) {
            int bits = 0;
            for (int lot = 0; lot < LOTS; lot++) {
                bits |= 1 << landingAt(aim, lot);
            }
            return bits;
        }
    }

    /** All that undoing brings back. */
    private static final class State {
        private final int[] points = new int[MOST_SHOOTERS];
        private final int[] ages = new int[MOST_SHOOTERS];
        int hurt = 0;
        int wind = 0;
        int minute = 0;

        void begin(int firstWind) {
            Arrays.fill(points, 0);
            Arrays.fill(ages, 0);
            hurt = 0;
            minute = 0;
            wind = firstWind;
        }

        void copyFrom(State other) {
            for (int s = 0; s < MOST_SHOOTERS; s++) {
                points[s] = other.points[s];
                ages[s] = other.ages[s];
            }
            hurt = other.hurt;
            wind = other.wind;
            minute = other.minute;
        }

        int pointsOf(int s) {
            return s >= 0 && s < points.length ? points[s] : 0;
        }

        int ageOf(int s) {
            return s >= 0 && s < ages.length ? ages[s] : 0;
        }

        void addShot(int s, int score) {
            if (s >= 0 && s < points.length && s < ages.length) {
                points[s] += score;
                ages[s] = Math.min(OLDEST, ages[s] + 1);
            }
        }
    }

    /** The states ahead of the latest calls, in a ring. */
    private static final class History {
        private final State[] kept = new State[MOST_UNDONE];
        private int next = 0;
        int size = 0;

        History() {
            for (int i = 0; i < kept.length; i++) {
                kept[i] = new State();
            }
        }

        void keep(State state) {
            kept[next].copyFrom(state);
            next = (next + 1) % MOST_UNDONE;
            size = Math.min(MOST_UNDONE, size + 1);
        }

        void goBack(int n, State into) {
            if (n < 1 || n > size) {
                return;
            }
            next = (next + MOST_UNDONE - n) % MOST_UNDONE;
            size -= n;
            into.copyFrom(kept[next]);
        }

        void forget() {
            size = 0;
        }
    }

    private static final class Tray {
        boolean there = false;
        int size = 0;
        private int sort = 0;
        private final long[] values = new long[MOST_NUMBERS];

        void begin(int newSort, int n) {
            there = true;
            sort = newSort;
            size = Math.max(0, Math.min(MOST_NUMBERS, n));
            Arrays.fill(values, 0L);
        }

        long at(int i) {
            return i >= 0 && i < values.length ? values[i] : 0;
        }

        long put(int i, long v) {
            if (i < 0 || i >= values.length) {
                return 0;
            }
            values[i] = cut(v);
            return values[i];
        }

        private long cut(long v) {
            switch (sort) {
                case 0: return (byte) v;
                case 1: return (short) v;
                case 2: return (int) v;
                default: return v;
            }
        }
    }

    /** A round from its end on: what is still to come by how much older and how much more hurt. */
    private static final class RoundPlay {
        private static final int WIDTH = MOST_ROUND + 2;

        private final long[] worths = new long[WIDTH * WIDTH];
        /** What the worths are to be divided by. */
        long scale = 1;
        /** What the latest settled turn begins with. */
        int first = NONE;

        void begin() {
            Arrays.fill(worths, 0L);
            scale = 1;
            first = NONE;
        }

        long worth(int older, int hurt) {
            boolean there = older >= 0 && older < WIDTH && hurt >= 0 && hurt < WIDTH;
            return there ? worths[older * WIDTH + hurt] : 0;
        }

        /** In place: turns settle from the youngest on, and look at none that is younger. */
        void settle(Table table, int older, int hurt, boolean open, int cost) {
            if (older < 0 || older >= WIDTH || hurt < 0 || hurt >= WIDTH) {
                return;
            }
            long missed = worth(older + 1, hurt);
            long touched = open ? worth(older + 1, hurt + 1) : missed;
            long most = 0;
            first = NONE;
            for (int aim = 0; aim < PLACES; aim++) {
                int touches = table.touchCount(aim);
                long sum = table.sum(aim, open ? cost : 0) * scale + (LOTS - touches) * missed + touches * touched;
                if (first == NONE || sum > most) {
                    first = aim;
                    most = sum;
                }
            }
            long waited = LOTS * worth(older, hurt);
            if (waited > most) {
                first = TO_WAIT;
                most = waited;
            }
            worths[older * WIDTH + hurt] = most;
        }
    }

    /** By how many ways the first shooter is ahead by how much. */
    private static final class Match {
        private static final int MIDDLE = 2 * MOST_MATCH * MOST_SCORE;

        private int[] aheads = new int[2 * MIDDLE + 1];
        private int[] spare = new int[2 * MIDDLE + 1];
        private final int[] steps = new int[LOTS];
        long ways = 1;

        void begin() {
            Arrays.fill(aheads, 0);
            aheads[MIDDLE] = 1;
            ways = 1;
        }

        void tell(int lot, int gain) {
            if (isLot(lot)) {
                steps[lot] = gain;
            }
        }

        void addShot() {
            Arrays.fill(spare, 0);
            for (int i = 0; i < aheads.length; i++) {
                if (aheads[i] != 0) {
                    spread(i, aheads[i]);
                }
            }
            int[] old = aheads;
            aheads = spare;
            spare = old;
            ways *= LOTS;
        }

        private void spread(int from, int times) {
            for (int lot = 0; lot < LOTS; lot++) {
                int to = from + steps[lot];
                if (to >= 0 && to < spare.length) {
                    spare[to] += times;
                }
            }
        }

        long won() {
            long sum = 0;
            for (int i = MIDDLE + 1; i < aheads.length; i++) {
                sum += aheads[i];
            }
            return sum;
        }
    }

    /** The text's tokens in a row: what each is and where it begins. */
    private static final class Tokens {
        /** Numbers are as they are, words and signs from here on. */
        static final int WORD = 1000;
        static final int SIGN = 2000;
        static final int BAD = 3000;
        static final int END = 4000;
        private static final int START_BITS = 10;

        private static final String SIGNS = ";:+-*()[]=<>";
        /** A word is WORD and its place in this row; one that isn't here is as the one behind the last. */
        private static final String WORDS =
            "butt eye top falls cost shooter shake wind strays opens or and not if then else end lot age aim minute hurt ";
        static final int BUTT = WORD;
        static final int EYE = WORD + 1;
        static final int TOP = WORD + 2;
        static final int FALLS = WORD + 3;
        static final int COST = WORD + 4;
        static final int SHOOTER = WORD + 5;
        static final int SHAKE = WORD + 6;
        static final int WIND = WORD + 7;
        static final int STRAYS = WORD + 8;
        static final int OPENS = WORD + 9;
        static final int OR = WORD + 10;
        static final int AND = WORD + 11;
        static final int NOT = WORD + 12;
        static final int IF = WORD + 13;
        static final int THEN = WORD + 14;
        static final int ELSE = WORD + 15;
        static final int FINISH = WORD + 16;
        static final int LOT = WORD + 17;
        static final int AGE = WORD + 18;
        static final int AIM = WORD + 19;
        static final int MINUTE = WORD + 20;
        static final int HURT = WORD + 21;

        /** Of each what it is, and in the lowest bits where it begins. */
        private final int[] tokens = new int[MOST_BYTES + 1];
        private int size = 0;

        int at(int i) {
            return i >= 0 && i < size && i < tokens.length ? tokens[i] >> START_BITS : END;
        }

        int startOf(int i) {
            return i >= 0 && i < size && i < tokens.length ? tokens[i] & (1 << START_BITS) - 1 : 0;
        }

        /** The last token is the end. */
        void scan(byte[] text, int n) {
            int length = Math.max(0, Math.min(n, text.length));
            size = 0;
            int start = 0;
            while (start < length) {
                int b = text[start];
                int behind = start + 1;
                if (isSmall(b)) {
                    while (behind < length && isSmall(text[behind])) {
                        behind++;
                    }
                    add(wordOf(text, start, behind), start);
                } else if (isDigit(b)) {
                    while (behind < length && isDigit(text[behind])) {
                        behind++;
                    }
                    add(numberOf(text, start, behind), start);
                } else if (b != 10 && b != 32) {
                    add(b > 0 && SIGNS.indexOf((char) b) >= 0 ? SIGN + b : BAD, start);
                }
                start = behind;
            }
            add(END, length);
        }

        private void add(int token, int start) {
            if (size < tokens.length) {
                tokens[size] = token << START_BITS | start;
                size++;
            }
        }

        private static boolean isSmall(int b) {
            return b >= 'a' && b <= 'z';
        }

        private static boolean isDigit(int b) {
            return b >= '0' && b <= '9';
        }

        private static int numberOf(byte[] text, int start, int behind) {
            if (behind - start > 3) {
                return BAD;
            }
            int value = 0;
            for (int i = Math.max(0, start); i < behind && i < text.length; i++) {
                value = value * 10 + text[i] - '0';
            }
            return value;
        }

        private static int wordOf(byte[] text, int start, int behind) {
            int word = WORD;
            int next = start;
            boolean alike = true;
            for (int i = 0; i < WORDS.length(); i++) {
                char c = WORDS.charAt(i);
                if (c != ' ') {
                    alike = alike && next >= 0 && next < behind && next < text.length && text[next] == c;
                    next++;
                } else if (alike && next == behind) {
                    return word;
                } else {
                    word++;
                    next = start;
                    alike = true;
                }
            }
            return word;
        }
    }

    /** Reads a text into a butt, up to the first fault. */
    private static final class Reader {
        private static final int NO_TOKEN = 1;
        private static final int MISPLACED = 2;
        private static final int OUT_OF_BOUNDS = 3;
        private static final int ONE_TOO_MANY = 4;
        private static final int MOST_WITHIN = 6;

        private final Tokens tokens = new Tokens();
        private int at = 0;
        /** The token at hand; none is once there is a fault, so that nothing more is read. */
        private int token = NONE;
        private final int[] steps = new int[MOST_BYTES];
        private int stepCount = 0;
        private boolean inStrays = false;
        int fault = 0;
        int place = NONE;

        /** null: there is a fault. */
        Butt read(byte[] text, int n) {
            fault = 0;
            place = NONE;
            tokens.scan(text, n);
            at = 0;
            token = tokens.at(0);
            Butt made = new Butt();
            take(Tokens.BUTT);
            take(Tokens.EYE);
            made.from = takeNumber(0, PLACES - 1);
            made.to = takeNumber(made.from, PLACES - 1);
            take(Tokens.SIGN + ';');
            made.lines = 1;
            for (int i = 0; i < MOST_BYTES && fault == 0 && token != Tokens.END; i++) {
                readLine(made);
                take(Tokens.SIGN + ';');
                made.lines++;
            }
            return fault == 0 ? made : null;
        }

        private void fail(int kind) {
            if (fault == 0) {
                fault = token == Tokens.BAD ? NO_TOKEN : kind;
                place = tokens.startOf(at);
                token = NONE;
            }
        }

        private void step() {
            if (fault == 0) {
                at++;
                token = tokens.at(at);
            }
        }

        private boolean isNumber() {
            return token >= 0 && token < Tokens.WORD;
        }

        private void take(int wanted) {
            if (token == wanted) {
                step();
            } else {
                fail(MISPLACED);
            }
        }

        private int takeNumber(int least, int most) {
            int value = token;
            if (!isNumber()) {
                fail(MISPLACED);
            } else if (value < least || value > most) {
                fail(OUT_OF_BOUNDS);
            }
            step();
            return value;
        }

        private void readLine(Butt made) {
            switch (token) {
                case Tokens.TOP:
                    readTop(made);
                    break;
                case Tokens.SHOOTER:
                    readShooter(made);
                    break;
                case Tokens.WIND:
                    step();
                    made.wind = takeNumber(0, WINDS - 1);
                    break;
                case Tokens.STRAYS:
                    made.strays = readLaw(true);
                    break;
                case Tokens.OPENS:
                    made.opens = readLaw(false);
                    break;
                default:
                    fail(MISPLACED);
                    break;
            }
        }

        private void readTop(Butt made) {
            step();
            made.top = takeNumber(0, MOST_SCORE);
            take(Tokens.FALLS);
            made.falls = takeNumber(0, MOST_SCORE);
            take(Tokens.COST);
            made.cost = takeNumber(0, MOST_SCORE);
        }

        private void readShooter(Butt made) {
            if (made.shooterCount >= MOST_SHOOTERS) {
                fail(ONE_TOO_MANY);
            }
            step();
            take(Tokens.SHAKE);
            made.addShooter(takeNumber(0, MOST_SHAKE));
        }

        private Law readLaw(boolean strays) {
            inStrays = strays;
            stepCount = 0;
            step();
            take(Tokens.SIGN + ':');
            if (strays) {
                readSum(0);
            } else {
                readTruth(0);
            }
            return new Law(Arrays.copyOf(steps, stepCount));
        }

        private void put(int lawStep) {
            if (stepCount < steps.length) {
                steps[stepCount] = lawStep;
                stepCount++;
            }
        }

        /** Whether one of not [ ( if may stand within so many; if so it is behind. */
        private boolean goesWithin(int within) {
            if (within >= MOST_WITHIN) {
                fail(ONE_TOO_MANY);
                return false;
            }
            step();
            return true;
        }

        private void readTruth(int within) {
            readBoth(within);
            for (int i = 0; i < MOST_BYTES && token == Tokens.OR; i++) {
                step();
                readBoth(within);
                put(Law.EITHER);
            }
        }

        private void readBoth(int within) {
            readUnit(within);
            for (int i = 0; i < MOST_BYTES && token == Tokens.AND; i++) {
                step();
                readUnit(within);
                put(Law.BOTH);
            }
        }

        private void readUnit(int within) {
            if (token == Tokens.NOT) {
                if (goesWithin(within)) {
                    readUnit(within + 1);
                    put(Law.NOT);
                }
            } else if (token == Tokens.SIGN + '[') {
                if (goesWithin(within)) {
                    readTruth(within + 1);
                    take(Tokens.SIGN + ']');
                }
            } else {
                readCompared(within);
            }
        }

        private void readCompared(int within) {
            readSum(within);
            int compared;
            switch (token) {
                case Tokens.SIGN + '=':
                    compared = Law.SAME;
                    break;
                case Tokens.SIGN + '<':
                    compared = Law.LESS;
                    break;
                case Tokens.SIGN + '>':
                    compared = Law.MORE;
                    break;
                default:
                    fail(MISPLACED);
                    return;
            }
            step();
            readSum(within);
            put(compared);
        }

        private void readSum(int within) {
            readTerm(within);
            for (int i = 0; i < MOST_BYTES && (token == Tokens.SIGN + '+' || token == Tokens.SIGN + '-'); i++) {
                int joined = token == Tokens.SIGN + '+' ? Law.ADD : Law.TAKE;
                step();
                readTerm(within);
                put(joined);
            }
        }

        private void readTerm(int within) {
            readAtom(within);
            for (int i = 0; i < MOST_BYTES && token == Tokens.SIGN + '*'; i++) {
                step();
                readAtom(within);
                put(Law.TIMES);
            }
        }

        private void readAtom(int within) {
            int word = lawWord();
            if (word != NONE) {
                put(Law.WORDS - word);
                step();
            } else if (isNumber()) {
                put(token);
                step();
            } else if (token == Tokens.SIGN + '(') {
                if (goesWithin(within)) {
                    readSum(within + 1);
                    take(Tokens.SIGN + ')');
                }
            } else if (token == Tokens.IF) {
                if (goesWithin(within)) {
                    readChoice(within + 1);
                }
            } else {
                fail(MISPLACED);
            }
        }

        private void readChoice(int within) {
            readTruth(within);
            take(Tokens.THEN);
            readSum(within);
            take(Tokens.ELSE);
            readSum(within);
            take(Tokens.FINISH);
            put(Law.CHOOSE);
        }

        /** Which word of the law at hand stands there, NONE if none does. */
        private int lawWord() {
            switch (token) {
                case Tokens.WIND: return Law.WIND;
                case Tokens.LOT: return inStrays ? Law.LOT : NONE;
                case Tokens.SHAKE: return inStrays ? Law.SHAKE : NONE;
                case Tokens.AGE: return inStrays ? Law.AGE : NONE;
                case Tokens.AIM: return inStrays ? Law.AIM : NONE;
                case Tokens.MINUTE: return inStrays ? NONE : Law.MINUTE;
                case Tokens.HURT: return inStrays ? NONE : Law.HURT;
                default: return NONE;
            }
        }
    }
}
