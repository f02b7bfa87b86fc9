/** Promises 38 to 41: the best order, what is expected, what guards. */
public final class OrderTest {
    public static void main(String[] args) {
        orders();
        expected();
        guarding();
        Check.end("OrderTest");
    }

    private static void orders() {
        LashRing x = new LashRing();
        Check.due("no shooters", x.order(0), 0);
        Check.due("no shooters", x.order(10), -99000002);
        // Open in the odd minutes, each touch by four LOTS at least costs then; shooter 0 can't but touch.
        String text = "butt eye 2 20;top 10 falls 0 cost 20;shooter shake 0;shooter shake 1;shooter shake 2;"
            + "strays:if shake=0 then 9 else if shake=1 then 0 else if lot<2 then 9 else 0 end end end;";
        LashRing y = Check.ring(text);
        // Shooter 0 scores 0 shut, -200 open; shooter 1 100 always; shooter 2 80 shut, 40 open.
        Check.due("all", y.order(0), 0 + 100 + 80);
        Check.due("first", y.order(10), 0);
        Check.due("second", y.order(11), 1);
        Check.due("third", y.order(12), 2);
        Check.due("no fourth", y.order(13), -99000002);
        Check.due("what 1", y.order(1), -99000002);
        Check.due("what 9", y.order(9), -99000002);
        Check.due("what -1", y.order(-1), -99000002);
        y.waits(1);
        // Now open, shut, open: 0 in the middle; 1 and 2 are alike in either place.
        Check.due("all", y.order(0), 100 + 0 + 40);
        Check.due("first", y.order(10), 1);
        Check.due("second", y.order(11), 0);
        Check.due("third", y.order(12), 2);
        LashRing z = Check.ring("butt eye 0 0;shooter shake 0;shooter shake 0;shooter shake 0;shooter shake 0;");
        Check.due("like ones", z.order(0), 400);
        for (int i = 0; i < 4; i++) {
            Check.due("in their order", z.order(10 + i), i);
        }
        Check.due("no fifth", z.order(14), -99000002);
        LashRing w = Check.ring("butt eye 0 20;top 0 falls 0 cost 3;shooter shake 0;opens:1=1;");
        Check.due("below 0", w.order(0), -30);
        // As hurt as now: a touch ahead would not open it.
        LashRing v = Check.ring("butt eye 0 20;top 0 falls 0 cost 3;shooter shake 0;shooter shake 0;opens:hurt=0;");
        Check.due("as hurt as now", v.order(0), -60);
    }

    private static void expected() {
        LashRing x = Check.ring("butt eye 9 11;top 20 falls 4 cost 15;shooter shake 0;shooter shake 2;");
        Check.due("expects(1, 8, 0)", x.expects(1, 8, 0), 8);
        Check.due("expects(1, 8, 1)", x.expects(1, 8, 1), 1);
        Check.due("expects(1, 8, 2)", x.expects(1, 8, 2), 7);
        Check.due("expects(1, 8, 3)", x.expects(1, 8, 3), 1);
        Check.due("expects(1, 8, 998)", x.expects(1, 8, 998), 7);
        Check.due("expects(1, 8, 999)", x.expects(1, 8, 999), 1);
        Check.due("of like ones open", x.expects(0, 0, 1), 1);
        Check.due("d", x.expects(0, 0, 1000), -3);
        Check.due("d", x.expects(0, 0, -1), -3);
        Check.due("no shooter ahead of d", x.expects(2, 0, 1000), -2);
        Check.due("no aim", x.expects(0, 21, 0), -2);
        Check.due("no aim", x.expects(0, -1, 0), -2);
        for (int aim = 0; aim < 21; aim++) {
            Check.due("rests(1, " + aim + ")", x.rests(1, aim), 1);
        }
        Check.due("no shooter", x.rests(2, 0), -2);
        Check.due("no aim", x.rests(0, 21), -2);
        // Where it costs nothing open and shut are alike; what the law says now is no matter.
        LashRing y = Check.ring("butt eye 5 15;top 30 falls 30 cost 0;shooter shake 9;opens:1=2;");
        Check.due("of like ones open", y.expects(0, 9, 1), 1);
        Check.due("rests", y.rests(0, 9), 1);
    }

    private static void guarding() {
        LashRing x = Check.ring("butt eye 9 11;top 20 falls 4 cost 15;shooter shake 0;shooter shake 2;");
        Check.due("guards(0)", x.guards(0), 8);
        Check.due("guards(1)", x.guards(1), 7);
        Check.due("no shooter", x.guards(2), -2);
        Check.due("no shooter", x.guards(-1), -2);
        // Shut, 9 is best (180 and more to come), but open it costs: at 8 nothing is touched.
        LashRing y = Check.ring("butt eye 10 20;top 30 falls 5 cost 16;shooter shake 0;strays:if lot<1 then 1 else 0 end;opens:1=2;");
        Check.due("shut now", y.bestAim(0), 9);
        Check.due("but it guards", y.guards(0), 8);
        LashRing z = Check.ring("butt eye 0 20;shooter shake 0;");
        Check.due("all alike", z.guards(0), 0);
    }
}
