import java.util.function.Consumer;
import java.util.function.ToLongFunction;

/** Two objects alike, of which one is refused a call: behind it both must answer alike in all that can be asked. */
final class Twins {
    /** Shooters 0 and 1, TRAY 0 with deeds, TRAY 1 with eight PLACES, TRAY 2 with none, TRAY 3 MISSING, IMAGE 0 made. */
    private static final String TEXT = "butt eye 9 11;top 20 falls 4 cost 15;shooter shake 0;shooter shake 2;wind 3;"
        + "opens:hurt<2 or minute>40;";

    private Twins() {
    }

    static void refuse(long code, String name, ToLongFunction<LashRing> call) {
        refuse(code, name, x -> { }, call);
    }

    /** As above, both being told something more ahead. */
    static void refuse(long code, String name, Consumer<LashRing> ahead, ToLongFunction<LashRing> call) {
        LashRing x = made();
        LashRing y = made();
        ahead.accept(x);
        ahead.accept(y);
        Check.due(name, call.applyAsLong(x), code);
        compare(name + " changes nothing", x, y);
    }

    static LashRing made() {
        LashRing x = new LashRing();
        Check.tell(x, "butt eye 1 1;wind 10;");
        Check.tell(x, TEXT);
        x.waits(7);
        x.shoot(1, 10, 5);
        x.image(0);
        x.shoot(0, 8, 0);
        x.wind(5);
        x.shoot(1, 12, 0);
        fill(x, 0, 2, 0, 11000, 1, 12, 21005, 0);
        fill(x, 1, 0, 10, 9, 8, 10, 10, 11, 10, 9);
        fill(x, 2, 3);
        Check.feed(x, "butt eye 3 4;wind 2;opens:1=2;");
        return x;
    }

    private static void fill(LashRing x, int tray, int sort, long... values) {
        x.numbers(tray, sort, values.length);
        for (int i = 0; i < values.length; i++) {
            x.write(tray, i, values[i]);
        }
    }

    /** Asks both for all there is, at last by calls that change them. */
    static void compare(String name, LashRing x, LashRing y) {
        asked(name, x, y);
        for (int tray = 0; tray < 4; tray++) {
            for (int what = 0; what < 4; what++) {
                Check.due(name + ": judge", x.judge(tray, what), y.judge(tray, what));
            }
            Check.due(name + ": shooters", x.shooters(tray, 10), y.shooters(tray, 10));
            Check.due(name + ": winds", x.winds(tray, 0, 10), y.winds(tray, 0, 10));
            for (int i = 0; i <= 40; i += 4) {
                // Cut to the TRAY's sort, if it has such a number: so both the sort and the size are seen.
                Check.due(name + ": write", x.write(tray, i, 0x123456789ABCDEFL), y.write(tray, i, 0x123456789ABCDEFL));
            }
        }
        for (int i = 0; i < 11; i++) {
            Check.due(name + ": undo", x.undo(1), y.undo(1));
            asked(name + ", undone", x, y);
        }
        for (int i = 0; i < 2; i++) {
            Check.due(name + ": restore", x.restore(i), y.restore(i));
            asked(name + ", restored", x, y);
        }
        Check.due(name + ": the tape", x.butt(30), y.butt(30));
        asked(name + ", told anew", x, y);
    }

    private static void asked(String name, LashRing x, LashRing y) {
        for (int i = 0; i < 12; i++) {
            Check.due(name + ": count(" + i + ")", x.count(i), y.count(i));
        }
        Check.due(name + ": fault(0)", x.fault(0), y.fault(0));
        Check.due(name + ": fault(1)", x.fault(1), y.fault(1));
        for (int s = 0; s < 2; s++) {
            Check.due(name + ": shake", x.shooter(s, 0), y.shooter(s, 0));
            Check.due(name + ": age", x.shooter(s, 1), y.shooter(s, 1));
            Check.due(name + ": points", x.points(s), y.points(s));
        }
        Check.due(name + ": opens", x.opens(1), y.opens(1));
    }
}
