/** Promises 7 and 8: feed and end. */
public final class TapeTest {
    public static void main(String[] args) {
        limits();
        bytes();
        Check.finish();
    }

    private static void limits() {
        CheeseCellar x = new CheeseCellar();
        for (int i = 1; i <= 25; i++) {
            Check.due("feed " + i, x.feed(-1, 0, 1, 2, 3), 20 * i);
        }
        Check.due("a 26th feed", x.feed(0, 0, 0, 0, 0), -1);
        Check.due("about(6)", x.about(6), 500);
        Check.due("end(501)", x.end(501), -1);
        Check.due("end(-1)", x.end(-1), -1);
        Check.due("end(500)", x.end(500), 500);
        Check.due("end(481)", x.end(481), 481);
        Check.due("feed to 501", x.feed(0, 0, 0, 0, 0), -1);
        Check.due("about(6)", x.about(6), 481);
        Check.due("end(482)", x.end(482), -1);
        Check.due("end(480)", x.end(480), 480);
        Check.due("feed to 500", x.feed(0, 0, 0, 0, 0), 500);
        Check.due("end(0)", x.end(0), 0);
        Check.due("end(1)", x.end(1), -1);
        Check.due("about(6)", x.about(6), 0);
        x.feed(0, 0, 0, 0, 0);
        x.orders();
        Check.due("about(6) behind orders()", x.about(6), 0);
    }

    private static void bytes() {
        CheeseCellar x = new CheeseCellar();
        // cut in the midst and fed on: the bytes behind the cut are gone
        x.feed(Check.word("when", 0), Check.word(" 1 d", 0), Check.word("o tu", 0), Check.word("xxxx", 0), 0);
        x.end(12);
        x.feed(Check.word("rn; ", 0), Check.word("    ", 0), 0x0a0a0a0a, Check.word("    ", 0), Check.word("    ", 0));
        Check.due("about(6)", x.about(6), 32);
        Check.due("orders()", x.orders(), 1);
        x.feed(0x20202020, 0x202020ff, 0, 0, 0);
        Check.due("orders()", x.orders(), -1);
        Check.due("fault(0)", x.fault(0), 1);
        Check.due("fault(1)", x.fault(1), 7);
        x.feed(0x80202020, 0, 0, 0, 0);
        x.orders();
        Check.due("fault(1)", x.fault(1), 0);
    }
}
