/** Edges that the document names of promises 1 to 11, and of a SHOT and the eye by the Terms. */
final class ButtEdges {
    private static final String TEXT = "butt eye 9 11;top 20 falls 4 cost 15;shooter shake 0;shooter shake 2;wind 3;";
    private static final int MOST = Integer.MAX_VALUE;
    private static final int LEAST = Integer.MIN_VALUE;

    private ButtEdges() {
    }

    static void all() {
        aNewObject();
        fed();
        fullTape();
        firstBytes();
        allAnew();
        allStays();
        refusedButts();
        faults();
        shooters();
        points();
        strayed();
        strayedWithoutLaw();
        landed();
        landsNow();
        touched();
        far();
        scored();
        scoresNow();
        openEye();
        wordsOfStrays();
        wordsOfOpens();
        keptSums();
        chosen();
        openLater();
        opensFirst();
    }

    private static void aNewObject() {
        Check.promise(1, "No shooters.");
        LashRing x = new LashRing();
        Check.due("count(2)", x.count(2), 0);
        for (int s = -1; s <= 4; s++) {
            Check.due("shooter(" + s + ", 0)", x.shooter(s, 0), -2);
            Check.due("points(" + s + ")", x.points(s), -99000002);
        }
        Check.due("leads()", x.leads(), -1);
        Check.due("greedy()", x.greedy(), 0);
    }

    /** Twenty bytes of which one is told, all others blanks. */
    private static int feedOne(LashRing x, int place, int b) {
        int[] w = new int[5];
        for (int i = 0; i < 20; i++) {
            w[i / 4] = w[i / 4] << 8 | (i == place ? b : ' ');
        }
        return x.feed(w[0], w[1], w[2], w[3], w[4]);
    }

    private static void fed() {
        Check.promise(2, "Twenty bytes come behind those on THE TAPE, the highest of each int first: how many it has.");
        for (int place = 0; place < 20; place++) {
            for (int b : new int[] {255, 128, 127, 0}) {
                LashRing x = new LashRing();
                Check.due("feed", feedOne(x, 20, 0), 20);
                Check.due("feed", feedOne(x, place, b), 40);
                Check.due("nothing but blanks ahead", x.butt(40), -31);
                Check.due("where it is", x.fault(1), 20 + place);
            }
        }
        LashRing y = new LashRing();
        // "butt eye 12 13;wind 8;" in two goes, the word wind on both.
        Check.due("feed", y.feed(0x62757474, 0x20657965, 0x20313220, 0x31333B20, 0x20207769), 20);
        Check.due("feed", y.feed(0x6E642038, 0x3B202020, 0x20202020, 0x20202020, 0x20202020), 40);
        Check.due("butt(25)", y.butt(25), 2);
        Check.due("from", y.count(0), 12);
        Check.due("to", y.count(1), 13);
        Check.due("wind", y.count(6), 8);
    }

    private static void fullTape() {
        Check.promise(2, "-5: it would have more than 900.");
        LashRing x = new LashRing();
        Check.feed(x, "butt eye 3 4;" + " ".repeat(867));
        Check.due("880", x.count(10), 880);
        Check.due("the last twenty", feedOne(x, 20, 0), 900);
        Check.due("one more", feedOne(x, 0, ','), -5);
        Check.due("none came", x.count(10), 900);
        Check.due("all that was there", x.butt(900), 1);
        Check.due("again", feedOne(x, 20, 0), 20);
        Twins.refuse(-5, "feed", t -> Check.feed(t, " ".repeat(860)), t -> t.feed(1, 2, 3, 4, 5));
    }

    private static void firstBytes() {
        Check.promise(3, "The first n bytes of THE TAPE (which is empty then) are THE BUTT,");
        String text = "butt eye 3 4;wind 2;";
        LashRing x = new LashRing();
        Check.feed(x, text);
        Check.due("butt(13)", x.butt(13), 1);
        Check.due("empty", x.count(10), 0);
        Check.due("wind isn't told", x.count(6), 0);
        Check.feed(x, text);
        Check.due("butt(20): all", x.butt(20), 2);
        Check.due("wind is told", x.count(6), 2);
        Check.due("empty", x.count(10), 0);
        Check.due("none is left", x.butt(1), -3);
        Check.due("butt(0) of none", x.butt(0), -32);
        Check.feed(x, text);
        Check.due("butt(0)", x.butt(0), -32);
        Check.due("its place", x.fault(1), 0);
        Check.due("empty", x.count(10), 0);
    }

    private static void allAnew() {
        Check.promise(3, "POINTS, ages, HURT, MINUTE are 0, nothing can be UNDONE:");
        LashRing x = Check.ring(TEXT);
        x.waits(1);
        x.shoot(0, 10, 0);
        x.shoot(1, 8, 5);
        x.wind(8);
        Check.due("hurt ahead", x.count(8), 1);
        Check.due("undone ahead", x.count(9), 4);
        Check.due("told again", Check.tell(x, TEXT), 5);
        for (int s = 0; s < 2; s++) {
            Check.due("points", x.points(s), 0);
            Check.due("age", x.shooter(s, 1), 0);
        }
        Check.due("wind as told", x.count(6), 3);
        Check.due("minute", x.count(7), 0);
        Check.due("hurt", x.count(8), 0);
        Check.due("undone", x.count(9), 0);
        Check.due("undo(1)", x.undo(1), -3);
    }

    private static void allStays() {
        Check.promise(3, "how many LINES (butt, too; all stays with a FAULT).");
        Check.good("butt eye 0 0;", 1);
        Check.good("butt eye 0 0;wind 1;wind 2;", 3);
        LashRing x = Check.ring(TEXT);
        x.waits(1);
        x.shoot(0, 10, 0);
        x.image(1);
        x.wind(6);
        // The fault is in the last LINE: what was read ahead of it is of no matter.
        Check.due("a fault", Check.tell(x, "butt eye 1 2;top 1 falls 2 cost 3;shooter shake 9;wind 9;strays:1;opens:1=1;wind 10;"), -33);
        int[] want = {9, 11, 2, 20, 4, 15, 6, 2, 1, 3, 0, 5};
        for (int i = 0; i < want.length; i++) {
            Check.due("count(" + i + ")", x.count(i), want[i]);
        }
        Check.due("points", x.points(0), -15);
        Check.due("age", x.shooter(0, 1), 1);
        Check.due("shake", x.shooter(1, 0), 2);
        Check.due("lands", x.lands(1, 10, 0), 8);
        Check.due("open", x.open(0), 0);
        Check.due("undone", x.undo(3), 0);
        Check.due("the wind ahead", x.count(6), 3);
        Check.due("the minute ahead", x.count(7), 0);
        Check.due("the image", x.restore(1), 0);
        Check.due("its minute", x.count(7), 2);
    }

    private static void refusedButts() {
        Check.promise(3, "-3: n is below 0 or above what there is (THE TAPE stays);");
        Check.due("nothing there", new LashRing().butt(1), -3);
        for (int n : new int[] {-1, LEAST, 41, MOST}) {
            Twins.refuse(-3, "butt(" + n + ")", x -> x.butt(n));
        }
        LashRing x = new LashRing();
        Check.feed(x, "butt eye 3 4;");
        Check.due("butt(21)", x.butt(21), -3);
        Check.due("it stays", x.count(10), 20);
        Check.due("butt(20)", x.butt(20), 1);
        Check.promise(3, "-30 less the FAULT.");
        Check.due("1", Check.tell(new LashRing(), "butt eye 1 1;,"), -31);
        Check.due("2", Check.tell(new LashRing(), "butt eye 1 1;;"), -32);
        Check.due("3", Check.tell(new LashRing(), "butt eye 1 0;"), -33);
        Check.due("4", Check.tell(new LashRing(), "butt eye 1 1;" + "shooter shake 1;".repeat(5)), -34);
    }

    private static void faults() {
        Check.promise(4, "Of the latest butt() that was read, what 0: its FAULT (0), 1: its place (NONE).");
        LashRing x = new LashRing();
        Check.due("none yet", x.fault(0), 0);
        Check.due("none yet", x.fault(1), -1);
        Check.tell(x, "butt eye 1 1;wind 10;");
        Check.due("a fault", x.fault(0), 3);
        Check.due("its place", x.fault(1), 18);
        Check.feed(x, "butt eye 1 1;");
        Check.due("refused", x.butt(21), -3);
        Check.due("not read: as it was", x.fault(0), 3);
        Check.due("not read: as it was", x.fault(1), 18);
        Check.due("read", x.butt(13), 1);
        Check.due("none", x.fault(0), 0);
        Check.due("none", x.fault(1), -1);
        Check.due("at the first byte", Check.tell(x, ","), -31);
        Check.due("place 0", x.fault(1), 0);
        Check.promise(4, "NONE for others.");
        for (int what : new int[] {-1, 2, 3, MOST, LEAST}) {
            Check.due("fault(" + what + ")", x.fault(what), -1);
        }
    }

    private static void shooters() {
        Check.promise(5, "Of a shooter, what 0: how it shakes, 1: its age.");
        LashRing x = Check.ring("butt eye 0 0;shooter shake 9;shooter shake 0;shooter shake 1;shooter shake 5;opens:1=2;");
        Check.due("shooter(0, 0)", x.shooter(0, 0), 9);
        Check.due("shooter(3, 0)", x.shooter(3, 0), 5);
        for (int i = 1; i <= 12; i++) {
            x.shoot(3, 10, 0);
            Check.due("shooter(3, 1)", x.shooter(3, 1), Math.min(9, i));
        }
        Check.due("shooter(2, 1)", x.shooter(2, 1), 0);
        Check.promise(5, "-2.");
        for (int s : new int[] {-1, 2, 4, MOST, LEAST}) {
            Twins.refuse(-2, "shooter(" + s + ", 0)", t -> t.shooter(s, 0));
            Twins.refuse(-2, "shooter(" + s + ", 1)", t -> t.shooter(s, 1));
        }
        for (int what : new int[] {-1, 2, MOST, LEAST}) {
            Twins.refuse(-2, "shooter(0, " + what + ")", t -> t.shooter(0, what));
        }
        Check.due("a fifth", x.shooter(4, 0), -2);
    }

    private static void points() {
        Check.promise(6, "The POINTS of a shooter.");
        LashRing x = Check.ring("butt eye 0 0;top 99 falls 0 cost 99;shooter shake 0;shooter shake 0;");
        Check.due("none yet", x.points(0), 0);
        x.shoot(0, 5, 0);
        x.shoot(1, 0, 0);
        x.shoot(0, 5, 0);
        Check.due("points(0)", x.points(0), 198);
        Check.due("below 0", x.points(1), -99);
        Check.promise(6, "-2.");
        for (int s : new int[] {-1, 2, 4, MOST, LEAST}) {
            Twins.refuse(-99000002, "points(" + s + ")", t -> t.points(s));
        }
    }

    private static LashRing straying(String sum) {
        return Check.ring("butt eye 0 0;shooter shake 3;wind 4;strays:" + sum + ";");
    }

    private static void strayed() {
        Check.terms(7, "A SHOT of a shooter at an AIM (a PLACE) by a LOT (0 to 9) LANDS as many PLACES on as the law strays tells, "
            + "-9 at least, 9 at most");
        Check.due("8", straying("8").lands(0, 10, 0), 18);
        Check.due("9", straying("9").lands(0, 10, 0), 19);
        Check.due("10", straying("10").lands(0, 10, 0), 19);
        Check.due("the most", straying("999*999*999").lands(0, 10, 0), 19);
        Check.due("-8", straying("0-8").lands(0, 10, 0), 2);
        Check.due("-9", straying("0-9").lands(0, 10, 0), 1);
        Check.due("-10", straying("0-10").lands(0, 10, 0), 1);
        Check.due("the least", straying("0-999*999*999").lands(0, 10, 0), 1);
        LashRing x = straying("lot");
        for (int lot = 0; lot < 10; lot++) {
            Check.due("LOT " + lot, x.lands(0, 0, lot), lot);
            Check.due("at 11 by LOT " + lot, x.lands(0, 11, lot), 11 + lot);
        }
    }

    private static void strayedWithoutLaw() {
        Check.terms(7, "(without one: (LOT less 5) times shake, divided by 5, rounded towards 0)");
        LashRing x = Check.ring("butt eye 0 0;shooter shake 0;shooter shake 1;shooter shake 4;shooter shake 9;");
        int[][] strays = {{0, 0, 0, 0, 0, 0, 0, 0, 0, 0}, {-1, 0, 0, 0, 0, 0, 0, 0, 0, 0},
            {-4, -3, -2, -1, 0, 0, 0, 1, 2, 3}, {-9, -7, -5, -3, -1, 0, 1, 3, 5, 7}};
        for (int s = 0; s < 4; s++) {
            for (int lot = 0; lot < 10; lot++) {
                Check.due("lands(" + s + ", 10, " + lot + ")", x.lands(s, 10, lot), 10 + strays[s][lot]);
            }
        }
    }

    private static void landed() {
        Check.terms(7, "before 0 it LANDS at 0, behind 20 at 20.");
        LashRing back = straying("0-1");
        Check.due("at 1", back.lands(0, 1, 0), 0);
        Check.due("at 0", back.lands(0, 0, 0), 0);
        Check.due("at 2", back.lands(0, 2, 0), 1);
        LashRing on = straying("1");
        Check.due("at 19", on.lands(0, 19, 0), 20);
        Check.due("at 20", on.lands(0, 20, 0), 20);
        Check.due("at 18", on.lands(0, 18, 0), 19);
        Check.due("far before", straying("0-9").lands(0, 0, 0), 0);
        Check.due("far behind", straying("9").lands(0, 20, 0), 20);
        LashRing x = Check.ring("butt eye 0 0;shooter shake 9;");
        Check.due("without a law, before", x.lands(0, 8, 0), 0);
        Check.due("without a law, behind", x.lands(0, 14, 9), 20);
    }

    private static void landsNow() {
        Check.promise(7, "Where a SHOT would LAND now.");
        LashRing x = Check.ring("butt eye 0 0;shooter shake 0;shooter shake 3;wind 1;strays:age*2+wind+shake;");
        Check.due("young", x.lands(0, 5, 0), 6);
        x.shoot(0, 5, 0);
        Check.due("older", x.lands(0, 5, 0), 8);
        Check.due("the other isn't older", x.lands(1, 5, 0), 9);
        x.wind(4);
        Check.due("another WIND", x.lands(0, 5, 0), 11);
        Check.due("it was no SHOT", x.count(7), 1);
        Check.promise(7, "-2: the shooter, the AIM, the LOT.");
        for (int v : new int[] {-1, LEAST, MOST}) {
            Twins.refuse(-2, "lands, shooter " + v, t -> t.lands(v, 0, 0));
            Twins.refuse(-2, "lands, AIM " + v, t -> t.lands(0, v, 0));
            Twins.refuse(-2, "lands, LOT " + v, t -> t.lands(0, 0, v));
        }
        Twins.refuse(-2, "lands(2, 0, 0)", t -> t.lands(2, 0, 0));
        Twins.refuse(-2, "lands(0, 21, 0)", t -> t.lands(0, 21, 0));
        Twins.refuse(-2, "lands(0, 0, 10)", t -> t.lands(0, 0, 10));
        Check.due("all at their most", Check.ring(TEXT).lands(1, 20, 9), 20);
    }

    private static void touched() {
        Check.terms(8, "It TOUCHES if it LANDS on the eye; else it is as FAR as PLACES lie from it to the eye's nearer end "
            + "(1: next to it).");
        LashRing x = Check.ring("butt eye 9 11;shooter shake 0;opens:1=1;");
        for (int place = 0; place < 21; place++) {
            boolean on = place >= 9 && place <= 11;
            Check.due("touches(0, " + place + ")", x.touches(0, place), on ? 10 : 0);
            Check.due("far(" + place + ")", x.far(place), on ? 0 : place < 9 ? 9 - place : place - 11);
        }
    }

    private static void far() {
        Check.promise(8, "How FAR a PLACE is from the eye (0: on it).");
        LashRing whole = Check.ring("butt eye 0 20;");
        LashRing first = Check.ring("butt eye 0 0;");
        LashRing last = Check.ring("butt eye 20 20;");
        for (int place = 0; place < 21; place++) {
            Check.due("the eye is all: far(" + place + ")", whole.far(place), 0);
            Check.due("the eye is 0: far(" + place + ")", first.far(place), place);
            Check.due("the eye is 20: far(" + place + ")", last.far(place), 20 - place);
        }
        Check.promise(8, "-2.");
        for (int place : new int[] {-1, 21, MOST, LEAST}) {
            Twins.refuse(-2, "far(" + place + ")", t -> t.far(place));
        }
    }

    private static void scored() {
        Check.terms(9, "It SCORES: if it TOUCHES, the cost less than 0 when the eye is OPEN, 0 when it isn't; "
            + "else top less falls for each PLACE it is FAR above 1, 0 at least.");
        LashRing x = Check.ring("butt eye 10 10;top 20 falls 6 cost 33;");
        int[] scores = {0, 20, 14, 8, 2, 0, 0, 0, 0, 0, 0};
        for (int far = 0; far <= 10; far++) {
            Check.due("shut, " + far + " far", x.scores(10 - far), scores[far]);
            Check.due("shut, " + far + " far behind", x.scores(10 + far), scores[far]);
        }
        x.waits(1);
        Check.due("open, on it", x.scores(10), -33);
        Check.due("open, beside it", x.scores(11), 20);
        LashRing most = Check.ring("butt eye 0 0;top 99 falls 99 cost 99;opens:1=1;");
        Check.due("the greatest cost", most.scores(0), -99);
        Check.due("the greatest top", most.scores(1), 99);
        Check.due("the greatest fall", most.scores(2), 0);
        Check.due("the greatest fall", most.scores(20), 0);
        LashRing flat = Check.ring("butt eye 0 0;top 7 falls 0 cost 0;opens:1=1;");
        Check.due("no cost", flat.scores(0), 0);
        Check.due("no fall", flat.scores(20), 7);
        LashRing none = Check.ring("butt eye 0 0;top 0 falls 3 cost 1;");
        Check.due("no top", none.scores(1), 0);
        Check.due("no top", none.scores(2), 0);
    }

    private static void scoresNow() {
        Check.promise(9, "What a SHOT SCORES that LANDS in a PLACE now.");
        LashRing x = Check.ring("butt eye 0 0;shooter shake 0;opens:hurt<1;");
        Check.due("not hurt yet", x.scores(0), -10);
        x.shoot(0, 0, 0);
        Check.due("hurt: shut now", x.scores(0), 0);
        Check.due("at 20", x.scores(20), 0);
        Check.promise(9, "-2.");
        for (int place : new int[] {-1, 21, MOST, LEAST}) {
            Twins.refuse(-99000002, "scores(" + place + ")", t -> t.scores(place));
        }
    }

    private static void openEye() {
        Check.terms(10, "The eye is OPEN in a MINUTE, if the law opens holds (without one: if the MINUTE is odd).");
        LashRing x = new LashRing();
        for (int minute = 0; minute < 4; minute++) {
            Check.due("without a law, minute " + minute, x.open(0), minute % 2);
            x.waits(1);
        }
        x.waits(99);
        Check.due("minute 103", x.open(0), 1);
        LashRing y = Check.ring("butt eye 0 0;opens:minute=0 or minute=2;");
        int[] open = {1, 0, 1, 0};
        for (int minute = 0; minute < 4; minute++) {
            Check.due("by a law, minute " + minute, y.open(minute), open[minute]);
        }
    }

    private static void wordsOfStrays() {
        Check.terms(7, "In strays lot, shake, aim: as told; age: how many SHOTS the shooter did ahead, 9 at most; wind: the WIND.");
        LashRing x = Check.ring("butt eye 0 0;shooter shake 7;shooter shake 2;strays:if lot=9 then shake else if aim=20 then 0-5 else 1 end end;");
        Check.due("lot and shake", x.lands(0, 3, 9), 10);
        Check.due("the other's shake", x.lands(1, 3, 9), 5);
        Check.due("aim", x.lands(0, 20, 0), 15);
        Check.due("another aim", x.lands(0, 19, 0), 20);
        LashRing y = Check.ring("butt eye 0 0;shooter shake 0;strays:if age<10 then age else 0 end;opens:1=2;");
        for (int shots = 0; shots <= 12; shots++) {
            Check.due("after " + shots + " SHOTS", y.lands(0, 5, 0), 5 + Math.min(9, shots));
            y.shoot(0, 5, 0);
        }
        LashRing z = Check.ring("butt eye 0 0;shooter shake 0;wind 9;strays:wind+age;");
        Check.due("the WIND", z.lands(0, 5, 0), 14);
        z.wind(0);
        Check.due("another WIND", z.lands(0, 5, 0), 5);
        z.waits(3);
        Check.due("to WAIT makes nobody older", z.lands(0, 5, 0), 5);
    }

    private static void wordsOfOpens() {
        Check.terms(10, "In opens minute: the MINUTE; hurt: how often it was HURT so far, 9 at most (counted on); wind: the WIND.");
        LashRing x = Check.ring("butt eye 0 0;shooter shake 0;opens:hurt<10;");
        for (int shots = 1; shots <= 12; shots++) {
            Check.due("a touch", x.shoot(0, 0, 0), -10);
            Check.due("counted on", x.count(8), shots);
            Check.due("9 at most", x.open(0), 1);
        }
        x.undo(3);
        Check.due("undone to 9", x.count(8), 9);
        LashRing y = Check.ring("butt eye 0 0;shooter shake 0;opens:hurt<9;");
        for (int shots = 1; shots <= 12; shots++) {
            y.shoot(0, 0, 0);
        }
        Check.due("9 is told as 9", y.count(8), 9);
        LashRing z = Check.ring("butt eye 0 0;wind 6;opens:minute=198 and wind=6;");
        z.waits(99);
        Check.due("minute 198", z.open(99), 1);
        Check.due("minute 197", z.open(98), 0);
        z.wind(5);
        Check.due("another WIND", z.open(99), 0);
    }

    private static void openBy(String truth) {
        Check.due(truth, Check.ring("butt eye 0 0;opens:" + truth + ";").open(0), 1);
    }

    private static void keptSums() {
        Check.terms(7, "Each + - * is kept from -1,000,000 to 1,000,000;");
        // 999*999 is 998001.
        String million = "999*999+999+999+1";
        String below = "0-999*999-999-999-1";
        openBy(million + "=10*10*10*10*10*10");
        openBy("999*999+999+999<" + million);
        openBy(million + "+1=" + million);
        openBy(million + "+999=" + million);
        openBy(million + "+1-1<" + million);
        openBy(below + "<0-999*999-999-999");
        openBy(below + "-1=" + below);
        openBy(below + "-1+1>" + below);
        openBy("0-(" + below + ")=" + million);
        openBy("999*999*2=" + million);
        openBy("(0-999)*999*2=" + below);
        openBy("(0-999)*(0-999)*2=" + million);
        // A million times a million is far above what an int holds.
        openBy("(999*999*2)*(999*999*2)=" + million);
        openBy("(999*999*2)*(0-999*999*2)=" + below);
        openBy("(0-999*999*2)*(0-999*999*2)=" + million);
        openBy("999*999*2-999*999-999-999-1=0");
        LashRing x = straying("999*999*2-999*999-999-999+1");
        Check.due("1,000,000 less 999,999 and 1 more", x.lands(0, 10, 0), 12);
    }

    private static void chosen() {
        Check.terms(7, "if tells the one SUM, if the TRUTH holds, else the other one.");
        LashRing x = Check.ring("butt eye 0 0;shooter shake 0;strays:if lot<5 then if lot<1 then 1 else 2 end else 0-3 end;");
        Check.due("the one of the one", x.lands(0, 10, 0), 11);
        Check.due("the other of the one", x.lands(0, 10, 1), 12);
        Check.due("the other of the one", x.lands(0, 10, 4), 12);
        Check.due("the other", x.lands(0, 10, 5), 7);
        Check.due("the one that is 0", Check.ring("butt eye 0 0;opens:if 1=1 then 0 else 1 end=0;").open(0), 1);
    }

    private static void openLater() {
        Check.promise(10, "Whether the eye is OPEN in the MINUTE n from now on (0 to 99; as HURT as now): 1, else 0.");
        LashRing x = Check.ring("butt eye 0 0;shooter shake 0;opens:minute=0 and hurt=0 or minute=100 and hurt=1;");
        Check.due("open(0)", x.open(0), 1);
        Check.due("open(99)", x.open(99), 0);
        x.shoot(0, 0, 0);
        Check.due("from now on, as HURT as now", x.open(99), 1);
        Check.due("open(98)", x.open(98), 0);
        x.heal();
        Check.due("healed", x.open(99), 0);
        Check.promise(10, "-3.");
        for (int n : new int[] {-1, 100, MOST, LEAST}) {
            Twins.refuse(-3, "open(" + n + ")", t -> t.open(n));
        }
    }

    private static void opensFirst() {
        Check.promise(11, "In how many MINUTES from now on the eye is OPEN first (what 1), not OPEN first (what 0), 0 to 99.");
        LashRing x = Check.ring("butt eye 0 0;shooter shake 0;opens:minute>98 and minute<101;");
        Check.due("opens(1) at 99", x.opens(1), 99);
        Check.due("opens(0) at once", x.opens(0), 0);
        x.waits(99);
        Check.due("opens(1) at once", x.opens(1), 0);
        Check.due("opens(0) in two", x.opens(0), 2);
        Check.promise(11, "NONE: in none of these;");
        LashRing y = Check.ring("butt eye 0 0;opens:minute>99;");
        Check.due("in 100", y.opens(1), -1);
        y.waits(99);
        Check.due("in 1", y.opens(1), 1);
        y.waits(1);
        Check.due("open ever", y.opens(0), -1);
        Check.promise(11, "-2: what.");
        for (int what : new int[] {-1, 2, MOST, LEAST}) {
            Twins.refuse(-2, "opens(" + what + ")", t -> t.opens(what));
        }
    }
}
