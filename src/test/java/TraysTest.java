/** Promises 42 to 47: trays, images, counts. */
public final class TraysTest {
    public static void main(String[] args) {
        numbersAndWrite();
        listed();
        images();
        counts();
        Check.end("TraysTest");
    }

    private static void numbersAndWrite() {
        LashRing x = new LashRing();
        Check.due("no tray", x.numbers(4, 0, 0), -2);
        Check.due("no tray", x.numbers(-1, 0, 0), -2);
        Check.due("no sort", x.numbers(0, 4, 0), -2);
        Check.due("no sort", x.numbers(0, -1, 0), -2);
        Check.due("no sort ahead of n", x.numbers(0, 4, 41), -2);
        Check.due("missing", x.write(0, 0, 1), -6);
        Check.due("no tray", x.write(4, 0, 1), -2);
        Check.due("no tray", x.write(-1, 0, 1), -2);
        Check.due("40", x.numbers(0, 0, 40), 0);
        Check.due("the last", x.write(0, 39, 1), 1);
        Check.due("behind it", x.write(0, 40, 1), -7);
        Check.due("before it", x.write(0, -1, 1), -7);
        Check.due("n", x.numbers(0, 0, 41), -3);
        Check.due("n", x.numbers(0, 0, -1), -3);
        Check.due("the tray stays", x.write(0, 39, 2), 2);
        long[] values = {0, 1, -1, 127, 128, 255, 256, -128, -129, 32767, 32768, 65535, -32769, 2147483647L, 2147483648L,
            4294967295L, -2147483649L, Long.MAX_VALUE, Long.MIN_VALUE};
        for (int sort = 0; sort <= 3; sort++) {
            Check.due("numbers", x.numbers(sort, sort, 1), 0);
            for (long v : values) {
                long cut = sort == 0 ? (byte) v : sort == 1 ? (short) v : sort == 2 ? (int) v : v;
                Check.due("sort " + sort + " of " + v, x.write(sort, 0, v), cut);
            }
        }
        Check.due("numbers", x.numbers(0, 0, 0), 0);
        Check.due("none in it", x.write(0, 0, 1), -7);
        // All 0 again: to wait, eight times.
        Check.tray(x, 1, 2, 5, 5, 5, 5, 5, 5, 5, 5);
        Check.due("anew", x.numbers(1, 2, 8), 0);
        Check.due("all 0", x.perform(1), 8);
        Check.due("eight minutes", x.count(7), 8);
    }

    private static void listed() {
        LashRing x = Check.ring("butt eye 9 11;shooter shake 0;shooter shake 5;strays:lot*shake-9;");
        Check.due("missing", x.lists(0, 0, 0), -6);
        Check.due("no tray", x.lists(4, 0, 0), -2);
        Check.due("no shooter", x.lists(0, 2, 0), -2);
        Check.due("no aim", x.lists(0, 0, 21), -2);
        Check.tray(x, 0, 0, 90, 90, 90);
        Check.due("three of them", x.lists(0, 1, 10), 3);
        Check.due("as told", x.shooters(0, 10), 2);
        Check.tray(x, 1, 0, 1, 6, 11);
        Check.due("as told", x.shooters(1, 10), 2);
        Check.tray(x, 0, 2, 1, 1, 1, 1, 1, 1, 1, 1, 1, 1, 2, 2);
        Check.due("ten at most", x.lists(0, 0, 9), 10);
        // Ten times 0 is to wait; what stands behind (2) can't be.
        Check.due("ten of them, the rest as it was", x.perform(0), 10);
        Check.tray(x, 0, 2);
        Check.due("none", x.lists(0, 0, 9), 0);
    }

    private static void images() {
        LashRing x = Check.ring("butt eye 9 11;top 20 falls 4 cost 15;shooter shake 0;shooter shake 2;wind 3;strays:wind;");
        Check.due("none was made", x.restore(0), -5);
        Check.due("no image", x.image(2), -2);
        Check.due("no image", x.image(-1), -2);
        Check.due("no image", x.restore(2), -2);
        Check.due("no image", x.restore(-1), -2);
        x.shoot(1, 5, 0);
        x.shoot(0, 7, 0);
        x.wind(6);
        int[] before = new int[12];
        for (int i = 0; i < 12; i++) {
            before[i] = x.count(i);
        }
        int points = x.points(1);
        Check.due("image(1)", x.image(1), 0);
        Check.due("it can still be undone", x.count(9), 3);
        Check.due("none of the other", x.restore(0), -5);
        x.undo(2);
        Check.tell(x, "butt eye 1 2;shooter shake 4;opens:1=1;");
        Check.feed(x, "wind");
        x.shoot(0, 1, 5);
        x.heal();
        Check.tray(x, 0, 0, 77);
        Check.due("restore(1)", x.restore(1), 0);
        for (int i = 0; i < 12; i++) {
            int want = i == 9 ? 0 : i == 10 ? 20 : before[i];
            Check.due("count(" + i + ")", x.count(i), want);
        }
        Check.due("points", x.points(1), points);
        Check.due("age", x.shooter(1, 1), 1);
        Check.due("age", x.shooter(0, 1), 1);
        Check.due("the law", x.lands(0, 5, 0), 11);
        Check.due("the other law", x.open(0), 0);
        Check.due("nothing can be undone", x.undo(1), -3);
        Check.due("the tray is as it was", x.shooters(0, 0), -3);
        // The image does not go on with what is done behind.
        x.waits(50);
        Check.due("again", x.restore(1), 0);
        Check.due("minute", x.count(7), before[7]);
        LashRing y = new LashRing();
        y.waits(5);
        y.image(0);
        Check.tell(y, "butt eye 1 2;shooter shake 4;");
        Check.due("without a text", y.restore(0), 0);
        Check.due("eye", y.count(0), 10);
        Check.due("shooters", y.count(2), 0);
        Check.due("lines", y.count(11), 0);
        Check.due("minute", y.count(7), 5);
    }

    private static void counts() {
        LashRing x = Check.ring("butt eye 3 17;top 21 falls 22 cost 23;shooter shake 0;wind 8;opens:1=1;");
        x.waits(2);
        x.shoot(0, 10, 0);
        Check.feed(x, "x");
        int[] want = {3, 17, 1, 21, 22, 23, 8, 3, 1, 2, 20, 5};
        for (int i = 0; i < want.length; i++) {
            Check.due("count(" + i + ")", x.count(i), want[i]);
        }
        Check.due("count(12)", x.count(12), -1);
        Check.due("count(-1)", x.count(-1), -1);
    }
}
