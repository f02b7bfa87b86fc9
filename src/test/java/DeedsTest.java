/** Promises 12 to 20: deeds, undone, judged, performed, days. */
public final class DeedsTest {
    private static final String TEXT = "butt eye 9 11;top 20 falls 4 cost 15;shooter shake 0;shooter shake 2;wind 3;";

    public static void main(String[] args) {
        shots();
        waitsHealsWinds();
        undone();
        trays();
        days();
        leading();
        Check.end("DeedsTest");
    }

    private static void shots() {
        LashRing x = Check.ring(TEXT);
        Check.due("beside it", x.shoot(0, 8, 0), 20);
        Check.due("a touch, open", x.shoot(0, 9, 0), -15);
        Check.due("hurt", x.count(8), 1);
        Check.due("a touch, shut", x.shoot(0, 9, 0), 0);
        Check.due("not hurt more", x.count(8), 1);
        Check.due("points", x.points(0), 5);
        Check.due("age", x.shooter(0, 1), 3);
        Check.due("minute", x.count(7), 3);
        Check.due("no shooter", x.shoot(2, 0, 0), -99000011);
        Check.due("no shooter", x.shoot(-1, 0, 0), -99000011);
        Check.due("no aim", x.shoot(0, 21, 0), -99000011);
        Check.due("no aim", x.shoot(0, -1, 0), -99000011);
        Check.due("no lot", x.shoot(0, 0, 10), -99000011);
        Check.due("no lot", x.shoot(0, 0, -1), -99000011);
        Check.due("nothing done", x.count(9), 3);
        Check.due("minute stays", x.count(7), 3);
    }

    private static void waitsHealsWinds() {
        LashRing x = Check.ring(TEXT);
        Check.due("waits(1)", x.waits(1), 1);
        x.shoot(0, 10, 0);
        Check.due("waits(99)", x.waits(99), 101);
        Check.due("waits(0)", x.waits(0), -3);
        Check.due("waits(100)", x.waits(100), -3);
        Check.due("heal()", x.heal(), 1);
        Check.due("heal() again", x.heal(), 0);
        Check.due("wind(9)", x.wind(9), 3);
        Check.due("wind(0)", x.wind(0), 9);
        Check.due("wind(10)", x.wind(10), -11);
        Check.due("wind(-1)", x.wind(-1), -11);
        Check.due("wind", x.count(6), 0);
        Check.due("minute", x.count(7), 101);
        Check.due("calls", x.count(9), 7);
    }

    private static void undone() {
        LashRing x = Check.ring(TEXT);
        Check.due("none yet", x.undo(1), -3);
        x.waits(1);
        x.shoot(1, 10, 0);
        x.shoot(1, 10, 3);
        x.wind(7);
        x.heal();
        Check.due("undo(0)", x.undo(0), -3);
        Check.due("undo(6)", x.undo(6), -3);
        Check.due("undo(11)", x.undo(11), -3);
        Check.due("undo(1)", x.undo(1), 4);
        Check.due("hurt again", x.count(8), 0);
        Check.due("undo(1)", x.undo(1), 3);
        Check.due("wind again", x.count(6), 3);
        Check.due("points", x.points(1), 20);
        Check.due("undo(2)", x.undo(2), 1);
        Check.due("points", x.points(1), 0);
        Check.due("age", x.shooter(1, 1), 0);
        Check.due("minute", x.count(7), 1);
        for (int i = 0; i < 15; i++) {
            x.waits(1);
        }
        Check.due("ten at most", x.count(9), 10);
        Check.due("undo(4)", x.undo(4), 6);
        Check.due("minute", x.count(7), 12);
        x.wind(5);
        Check.due("seven", x.count(9), 7);
        Check.due("undo(7)", x.undo(7), 0);
        Check.due("the eldest that is kept", x.count(7), 6);
        x.waits(1);
        Check.tell(x, TEXT);
        Check.due("a new butt", x.undo(1), -3);
        LashRing y = Check.ring("butt eye 0 0;shooter shake 0;opens:1=1;");
        y.shoot(0, 0, 0);
        y.heal();
        y.undo(1);
        Check.due("hurt as before", y.count(8), 1);
    }

    private static void trays() {
        LashRing x = Check.ring(TEXT);
        Check.due("missing", x.judge(0, 0), -6);
        Check.due("missing", x.perform(0), -6);
        Check.due("no tray", x.judge(4, 0), -2);
        Check.due("no tray", x.judge(-1, 0), -2);
        Check.due("no what", x.judge(0, 4), -2);
        Check.due("no what", x.judge(0, -1), -2);
        Check.due("no tray", x.perform(4), -2);
        Check.due("no tray", x.perform(-1), -2);
        Check.tray(x, 0, 2);
        Check.due("an empty one", x.judge(0, 0), -1);
        Check.due("an empty one", x.judge(0, 1), 0);
        Check.due("an empty one", x.perform(0), 0);
        Check.due("nothing to undo", x.count(9), 0);
        // To wait, shooter 0 at 10, shooter 1 at 10 by 1, wind 9, to wait, shooter 0 at 9.
        Check.tray(x, 1, 2, 0, 11000, 21001, 19, 0, 10900);
        Check.due("judge(1, 0)", x.judge(1, 0), -1);
        Check.due("judge(1, 1)", x.judge(1, 1), 0);
        Check.due("judge(1, 2)", x.judge(1, 2), 5);
        Check.due("judge(1, 3)", x.judge(1, 3), 1);
        Check.due("as if", x.count(7), 0);
        Check.due("as if", x.points(0), 0);
        Check.due("perform(1)", x.perform(1), 6);
        Check.due("minute", x.count(7), 5);
        Check.due("hurt", x.count(8), 1);
        Check.due("wind", x.count(6), 9);
        Check.due("points", x.points(0), -15);
        Check.due("one call", x.count(9), 1);
        Check.due("undone as a whole", x.undo(1), 0);
        Check.due("minute", x.count(7), 0);
        Check.due("points", x.points(0), 0);
        long[] cannot = {2, 9, 20, -1, 9999, 30000, 50000, 12100, 10010, 10099, 19900, Long.MIN_VALUE, 1L << 32, (1L << 32) + 10000};
        for (long v : cannot) {
            Check.tray(x, 2, 3, 0, v, 0);
            Check.due("judge " + v, x.judge(2, 0), 1);
            Check.due("why " + v, x.judge(2, 1), 1);
            Check.due("minute then " + v, x.judge(2, 2), 1);
            Check.due("perform " + v, x.perform(2), 1);
            Check.due("undo " + v, x.undo(1), 0);
            Check.tray(x, 2, 3, v, 0);
            Check.due("none done " + v, x.perform(2), 0);
            Check.due("nothing to undo " + v, x.count(9), 0);
        }
        Check.tray(x, 3, 1, 1, 10, 10000, 12009, 22000);
        Check.due("edges", x.perform(3), 5);
        LashRing y = Check.ring("butt eye 9 11;shooter shake 0;shooter shake 0;shooter shake 0;shooter shake 0;");
        Check.tray(y, 0, 2, 42009, 40000, 42010);
        Check.due("the last shooter", y.perform(0), 2);
        Check.due("its age", y.shooter(3, 1), 2);
    }

    private static void days() {
        LashRing x = Check.ring(TEXT);
        Check.due("day(1, 0)", x.day(1, 0), -3);
        Check.due("day(1, 41)", x.day(1, 41), -3);
        Check.due("day(1, -1)", x.day(1, -1), -3);
        for (int times = 1; times <= 40; times++) {
            LashRing once = Check.ring(TEXT);
            int did = once.day(times * 77777, times);
            LashRing twice = Check.ring("butt eye 9 11;shooter shake 0;shooter shake 0;shooter shake 0;shooter shake 0;");
            Check.due("all could be", twice.day(times * 77777, times), times);
            Check.due("not all could be", did <= times ? 1 : 0, 1);
        }
        LashRing y = Check.ring(TEXT);
        int seed = -7;
        int done = 0;
        for (int i = 0; i < 40; i++) {
            seed = draw(seed);
            switch ((seed >>> 16) % 6) {
                case 0: y.waits(1); done++; break;
                case 1: y.heal(); done++; break;
                case 2: seed = draw(seed); y.wind((seed >>> 16) % 10); done++; break;
                default:
                    int a = draw(seed);
                    int b = draw(a);
                    seed = draw(b);
                    if (y.shoot((a >>> 16) % 4, (b >>> 16) % 21, (seed >>> 16) % 10) != -99000011) {
                        done++;
                    }
                    break;
            }
        }
        Check.due("day(-7, 40)", x.day(-7, 40), done);
        for (int i = 6; i <= 8; i++) {
            Check.due("count(" + i + ")", x.count(i), y.count(i));
        }
        Check.due("points(0)", x.points(0), y.points(0));
        Check.due("points(1)", x.points(1), y.points(1));
        Check.due("one call", x.count(9), 1);
        x.undo(1);
        Check.due("undone", x.count(7), 0);
        // With no shooters some days do nothing: these can't be undone.
        LashRing z = new LashRing();
        int none = 0;
        for (int i = 0; i < 40; i++) {
            int before = z.count(9);
            int could = z.day(i * 1234567, 1);
            none += could == 0 ? 1 : 0;
            Check.due("counted if it did some", z.count(9), Math.min(10, before + could));
        }
        Check.due("some days do nothing", none > 5 ? 1 : 0, 1);
    }

    private static int draw(int x) {
        return 1103515245 * x + 12345;
    }

    private static void leading() {
        LashRing x = Check.ring(TEXT);
        Check.due("like ones", x.leads(), 0);
        x.shoot(1, 8, 5);
        Check.due("the second", x.leads(), 1);
        x.waits(1);
        x.shoot(0, 8, 0);
        Check.due("like ones", x.leads(), 0);
        x.shoot(0, 9, 0);
        Check.due("below", x.leads(), 1);
        LashRing y = Check.ring("butt eye 0 0;opens:1=1;shooter shake 0;shooter shake 0;");
        y.shoot(0, 0, 0);
        y.shoot(1, 0, 0);
        Check.due("both below 0", y.leads(), 0);
    }
}
