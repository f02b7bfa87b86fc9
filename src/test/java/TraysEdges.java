/** Edges that the document names of promises 42 to 47, and of TRAYS and IMAGES by the Terms. */
final class TraysEdges {
    private static final int MOST = Integer.MAX_VALUE;
    private static final int LEAST = Integer.MIN_VALUE;
    private static final int[] NO_TRAYS = {-1, 4, MOST, LEAST};
    private static final String TEXT = "butt eye 9 11;top 20 falls 4 cost 15;shooter shake 0;shooter shake 2;wind 3;strays:wind;opens:hurt<5;";

    private TraysEdges() {
    }

    static void all() {
        missing();
        numbers();
        refusedNumbers();
        written();
        refusedWrites();
        lists();
        refusedLists();
        inAnImage();
        images();
        restored();
        counts();
    }

    private static void missing() {
        Check.terms(42, "TRAYS 0 to 3 are MISSING at first, or have 0 to 40 numbers of 8 bits (sort 0), 16 (1), 32 (2), 64 (3).");
        LashRing x = Check.ring(TEXT);
        for (int tray = 0; tray < 4; tray++) {
            Check.due("write", x.write(tray, 0, 0), -6);
            Check.due("judge", x.judge(tray, 0), -6);
            Check.due("perform", x.perform(tray), -6);
            Check.due("shooters", x.shooters(tray, 0), -6);
            Check.due("odds", x.odds(tray, 0, 0, 0), -6);
            Check.due("tells", x.tells(tray, 0), -6);
            Check.due("winds", x.winds(tray, 0, 0), -6);
            Check.due("attempt", x.attempt(tray, 0, 0), -6);
            Check.due("lists", x.lists(tray, 0, 0), -6);
        }
        Check.due("none in it", x.numbers(0, 0, 0), 0);
        Check.due("but it isn't MISSING", x.judge(0, 0), -1);
        Check.due("the others are", x.judge(1, 0), -6);
        Check.due("a text leaves it", Check.tell(x, TEXT), 7);
        Check.due("as it was", x.judge(0, 0), -1);
        Check.due("forty", x.numbers(3, 3, 40), 0);
        Check.due("forty of them", x.judge(3, 2), 40);
        long[] cut = {-17, -12817, -1985229329, 0x0123456789ABCDEFL};
        for (int sort = 0; sort < 4; sort++) {
            x.numbers(sort, sort, 40);
            Check.due("the last of sort " + sort, x.write(sort, 39, 0x0123456789ABCDEFL), cut[sort]);
        }
    }

    private static void numbers() {
        Check.promise(42, "A TRAY has n numbers of a sort, all 0 (in place of another one): 0.");
        LashRing x = Check.ring(TEXT);
        for (int tray = 0; tray < 4; tray++) {
            for (int n : new int[] {0, 1, 39, 40}) {
                Check.due("numbers", x.numbers(tray, tray, n), 0);
                // To WAIT as often as there are numbers: all are 0.
                Check.due("all 0", x.judge(tray, 2), n);
                Check.due("behind them", x.write(tray, n, 1), -7);
                for (int i = 0; i < n; i++) {
                    x.write(tray, i, 2);
                }
            }
            Check.due("another one in its place", x.numbers(tray, 3 - tray, 40), 0);
            Check.due("all 0", x.judge(tray, 2), 40);
            Check.due("of that sort", x.write(tray, 0, 1L << 40), tray == 0 ? 1L << 40 : 0);
        }
        Check.due("this is no deed", x.count(9), 0);
    }

    private static void refusedNumbers() {
        Check.promise(42, "-2: no such TRAY, sort; -3, and the TRAY stays: n is below 0 or above 40.");
        for (int v : NO_TRAYS) {
            Twins.refuse(-2, "numbers(" + v + ", 0, 0)", t -> t.numbers(v, 0, 0));
            Twins.refuse(-2, "numbers(0, " + v + ", 0)", t -> t.numbers(0, v, 0));
            Twins.refuse(-2, "numbers(0, " + v + ", 41)", t -> t.numbers(0, v, 41));
            Twins.refuse(-2, "numbers(" + v + ", 0, -1)", t -> t.numbers(v, 0, -1));
        }
        for (int n : new int[] {-1, 41, MOST, LEAST}) {
            Twins.refuse(-3, "numbers(0, 0, " + n + ")", t -> t.numbers(0, 0, n));
            Twins.refuse(-3, "numbers(3, 3, " + n + ")", t -> t.numbers(3, 3, n));
        }
    }

    private static void written() {
        Check.promise(43, "Number i of a TRAY is v, cut to its sort: as it is there.");
        LashRing x = new LashRing();
        long[] told = {0, 1, -1, 127, 128, 255, 256, -128, -129, 32767, 32768, 65536, -32768, -32769, 2147483647L, 2147483648L,
            4294967296L, -2147483648L, -2147483649L, Long.MAX_VALUE, Long.MIN_VALUE};
        long[][] there = {
            {0, 1, -1, 127, -128, -1, 0, -128, 127, -1, 0, 0, 0, -1, -1, 0, 0, 0, -1, -1, 0},
            {0, 1, -1, 127, 128, 255, 256, -128, -129, 32767, -32768, 0, -32768, 32767, -1, 0, 0, 0, -1, -1, 0},
            {0, 1, -1, 127, 128, 255, 256, -128, -129, 32767, 32768, 65536, -32768, -32769, 2147483647L, -2147483648L, 0,
                -2147483648L, 2147483647L, -1, 0},
            told};
        for (int sort = 0; sort < 4; sort++) {
            x.numbers(sort, sort, told.length);
            for (int i = 0; i < told.length; i++) {
                Check.due("sort " + sort + ", " + told[i], x.write(sort, i, told[i]), there[sort][i]);
            }
        }
        // Number i and no other.
        x.numbers(0, 3, 40);
        for (int i = 0; i < 40; i++) {
            Check.due("write(0, " + i + ", 2)", x.write(0, i, 2), 2);
            Check.due("there it can't be", x.judge(0, 0), i);
            Check.due("write(0, " + i + ", 0)", x.write(0, i, 0), 0);
            Check.due("all can be", x.judge(0, 0), -1);
        }
        Check.due("this is no deed", x.count(9), 0);
    }

    private static void refusedWrites() {
        Check.promise(43, "-2: no such TRAY; -6; -7.");
        for (int tray : NO_TRAYS) {
            Twins.refuse(-2, "write(" + tray + ", 0, 1)", t -> t.write(tray, 0, 1));
        }
        Twins.refuse(-6, "write(3, 0, 1)", t -> t.write(3, 0, 1));
        Twins.refuse(-6, "write(3, 40, 1)", t -> t.write(3, 40, 1));
        for (int i : new int[] {-1, 6, 40, MOST, LEAST}) {
            Twins.refuse(-7, "write(0, " + i + ", 1)", t -> t.write(0, i, 1));
        }
        Twins.refuse(-7, "write(2, 0, 1)", t -> t.write(2, 0, 1));
        Check.due("the last of six", Twins.made().write(0, 5, 1), 1);
        Check.due("the first of six", Twins.made().write(0, 0, 1), 1);
        LashRing x = new LashRing();
        x.numbers(0, 0, 40);
        Check.due("behind forty", x.write(0, 40, 1), -7);
    }

    private static void lists() {
        Check.promise(44, "Where a SHOT of a shooter at an AIM LANDS by LOT 0, 1, 2 .. comes into a TRAY, as far as it has places: how many.");
        // By LOT 0 to 9 at 0 it lands on LOT: as deeds to WAIT, to HEAL, and no deed from the third on.
        LashRing x = Check.ring("butt eye 0 0;shooter shake 0;shooter shake 1;wind 1;strays:if shake=1 then 0 else lot*wind end;");
        for (int n = 0; n <= 12; n++) {
            x.numbers(0, 1, n);
            for (int i = 0; i < n; i++) {
                x.write(0, i, 20);
            }
            Check.due("lists of " + n, x.lists(0, 0, 0), Math.min(10, n));
            Check.due("the first that is no deed", x.judge(0, 0), n == 0 ? -1 : n <= 2 ? -1 : 2);
            if (n > 0 && n <= 8) {
                Check.due("the same shooter's", x.shooters(0, 0) & 1, 1);
            }
        }
        x.numbers(1, 0, 12);
        x.write(1, 10, 20);
        x.write(1, 11, 21);
        Check.due("ten of twelve", x.lists(1, 1, 0), 10);
        // Ten times 0: to WAIT; behind them as it was.
        Check.due("the eleventh stays", x.judge(1, 0), 10);
        x.write(1, 10, 0);
        Check.due("the twelfth stays", x.judge(1, 0), 11);
        // Each LOT in its own place: as WINDS by which LOT i lands there.
        for (int lot = 0; lot < 8; lot++) {
            x.numbers(2, 2, lot + 1);
            Check.due("lists", x.lists(2, 0, 10), lot + 1);
            Check.due("LOT " + lot + " comes last", x.shooters(2, 10), lot == 0 ? 3 : 1);
        }
        Check.due("this is no deed", x.count(9), 0);
        Check.due("in 8 bits as well", x.numbers(3, 0, 1), 0);
        Check.due("lists", x.lists(3, 1, 20), 1);
        Check.due("PLACE 20", x.shooters(3, 20), 3);
    }

    private static void refusedLists() {
        Check.promise(44, "-2: the TRAY, the shooter, the AIM; -6.");
        for (int tray : NO_TRAYS) {
            Twins.refuse(-2, "lists(" + tray + ", 0, 0)", t -> t.lists(tray, 0, 0));
        }
        for (int s : new int[] {-1, 2, 4, MOST, LEAST}) {
            Twins.refuse(-2, "lists(0, " + s + ", 0)", t -> t.lists(0, s, 0));
            Twins.refuse(-2, "lists(3, " + s + ", 0)", t -> t.lists(3, s, 0));
        }
        for (int aim : new int[] {-1, 21, MOST, LEAST}) {
            Twins.refuse(-2, "lists(0, 0, " + aim + ")", t -> t.lists(0, 0, aim));
            Twins.refuse(-2, "lists(3, 0, " + aim + ")", t -> t.lists(3, 0, aim));
        }
        Twins.refuse(-6, "lists(3, 0, 0)", t -> t.lists(3, 0, 0));
    }

    private static void inAnImage() {
        Check.terms(46, "IMAGES 0 to 1: THE BUTT and what a call could bring back by UNDOING; nothing can be UNDONE behind (none at first).");
        LashRing x = Check.ring(TEXT);
        Check.due("none at first", x.restore(0), -5);
        Check.due("none at first", x.restore(1), -5);
        x.shoot(0, 7, 0);
        x.shoot(1, 5, 0);
        x.wind(6);
        x.waits(4);
        Check.due("image(0)", x.image(0), 0);
        int[] then = new int[12];
        for (int i = 0; i < 12; i++) {
            then[i] = x.count(i);
        }
        int points = x.points(1);
        Check.tell(x, "butt eye 1 2;top 3 falls 5 cost 7;shooter shake 4;shooter shake 4;shooter shake 4;wind 1;strays:9;opens:1=1;");
        x.shoot(0, 1, 5);
        x.shoot(1, 1, 5);
        Check.feed(x, "wind");
        Check.tray(x, 2, 0, 5);
        Check.due("restore(0)", x.restore(0), 0);
        for (int i = 0; i < 12; i++) {
            Check.due("count(" + i + ")", x.count(i), i == 9 ? 0 : i == 10 ? 20 : then[i]);
        }
        Check.due("points", x.points(1), points);
        Check.due("points", x.points(0), -15);
        Check.due("ages", x.shooter(0, 1), 1);
        Check.due("ages", x.shooter(1, 1), 1);
        Check.due("shakes", x.shooter(1, 0), 2);
        Check.due("two shooters again", x.shooter(2, 0), -2);
        Check.due("the law strays", x.lands(0, 5, 0), 11);
        Check.due("the law opens", x.open(0), 1);
        Check.due("nothing can be UNDONE", x.undo(1), -3);
        Check.due("a TRAY is in no IMAGE", x.judge(2, 0), 0);
        Check.due("nor is the FAULT", x.fault(0), 0);
    }

    private static void images() {
        Check.promise(45, "An IMAGE is made: 0.");
        LashRing x = Check.ring(TEXT);
        Check.due("image(0)", x.image(0), 0);
        x.waits(1);
        Check.due("image(1)", x.image(1), 0);
        x.waits(1);
        Check.due("what can be UNDONE stays", x.count(9), 2);
        Check.due("restore(0)", x.restore(0), 0);
        Check.due("minute 0", x.count(7), 0);
        Check.due("restore(1)", x.restore(1), 0);
        Check.due("minute 1", x.count(7), 1);
        x.waits(5);
        Check.due("made anew", x.image(0), 0);
        x.waits(5);
        Check.due("restore(0)", x.restore(0), 0);
        Check.due("minute 6", x.count(7), 6);
        LashRing y = new LashRing();
        Check.due("without a text", y.image(1), 0);
        Check.tell(y, TEXT);
        Check.due("restore(1)", y.restore(1), 0);
        Check.due("no LINES", y.count(11), 0);
        Check.due("no shooters", y.count(2), 0);
        Check.promise(45, "-2.");
        for (int i : new int[] {-1, 2, MOST, LEAST}) {
            Twins.refuse(-2, "image(" + i + ")", t -> t.image(i));
        }
    }

    private static void restored() {
        Check.promise(46, "All that is in an IMAGE is as it was: 0.");
        LashRing x = Check.ring(TEXT);
        x.image(0);
        for (int i = 0; i < 3; i++) {
            x.waits(7);
            x.shoot(0, 7, 0);
            Check.due("restore(0)", x.restore(0), 0);
            Check.due("minute", x.count(7), 0);
            Check.due("points", x.points(0), 0);
            Check.due("calls", x.count(9), 0);
        }
        x.wind(8);
        Check.due("one call behind", x.undo(1), 0);
        Check.due("as in the IMAGE", x.count(6), 3);
        Check.promise(46, "-2; -5: none was made.");
        for (int i : new int[] {-1, 2, MOST, LEAST}) {
            Twins.refuse(-2, "restore(" + i + ")", t -> t.restore(i));
        }
        // Of the twins IMAGE 0 was made, IMAGE 1 wasn't.
        Twins.refuse(-5, "restore(1)", t -> t.restore(1));
        Check.due("restore(0)", Twins.made().restore(0), 0);
    }

    private static void counts() {
        Check.promise(47, "0, 1 from where, to where the eye is, 2 shooters, 3 top, 4 falls, 5 cost, 6 WIND, 7 MINUTE, 8 HURT, "
            + "9 calls that can be UNDONE, 10 bytes on THE TAPE, 11 LINES.");
        LashRing x = Check.ring("butt eye 3 17;top 21 falls 22 cost 23;shooter shake 0;wind 8;opens:1=1;");
        x.waits(2);
        x.shoot(0, 10, 0);
        Check.feed(x, "x");
        int[] want = {3, 17, 1, 21, 22, 23, 8, 3, 1, 2, 20, 5};
        for (int i = 0; i < want.length; i++) {
            Check.due("count(" + i + ")", x.count(i), want[i]);
        }
        LashRing y = new LashRing();
        int[] first = {10, 10, 0, 10, 1, 10, 0, 0, 0, 0, 0, 0};
        for (int i = 0; i < first.length; i++) {
            Check.due("at first: count(" + i + ")", y.count(i), first[i]);
        }
        Check.promise(47, "NONE for others.");
        for (int what : new int[] {-1, 12, 13, MOST, LEAST}) {
            Check.due("count(" + what + ")", x.count(what), -1);
        }
    }
}
