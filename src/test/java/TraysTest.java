/** Promises 1 to 8: a new object, status(), the fraction, trays. */
public final class TraysTest {
    private static final Check C = new Check("TraysTest");

    public static void main(String[] args) {
        newObject();
        statusTellsTheLatest();
        fractionStays();
        tray();
        write();
        read();
        pour();
        C.finish();
    }

    private static void newObject() {
        KneeBench x = new KneeBench();
        C.due("NONE", KneeBench.NONE, -1);
        C.due("status() of a new object", x.status(), 0);
        C.due("top() of a new object", x.top(), 0);
        C.due("bottom() of a new object", x.bottom(), 1);
        for (int what = 0; what < 5; what++) {
            C.due("told(" + what + ") of a new object", x.told(what), 0);
        }
        for (int tray = 0; tray < 4; tray++) {
            C.none(x, "read(" + tray + ", 0) of a new object", x.read(tray, 0), 2);
        }
        C.none(x, "bench(1) with an empty tape", x.bench(1), 1);
        C.none(x, "live(0) without a season", x.live(0), 6);
        C.none(x, "back() without a mark", x.back(), 6);
        C.none(x, "lived(0) ahead of any", x.lived(0), 6);
        C.none(x, "seatAt(0) ahead of any", x.seatAt(0), 6);
        C.due("fault(0) ahead of any", x.fault(0), -1);
        C.due("fault(1) ahead of any", x.fault(1), -1);
        C.due("feed of an empty tape", x.feed(0, 0, 0, 0, 0), 20);
    }

    private static void statusTellsTheLatest() {
        KneeBench x = new KneeBench();
        x.told(9);
        C.due("status() of a refused call", x.status(), 1);
        C.due("status() asked again", x.status(), 1);
        x.top();
        x.bottom();
        x.feed(1, 2, 3, 4, 5);
        x.fault(0);
        x.fault(7);
        C.due("status() behind calls that have none", x.status(), 1);
        x.told(0);
        C.due("status() behind a call that was answered", x.status(), 0);
    }

    private static void fractionStays() {
        KneeBench x = Check.with("farmer a ahead 0 fails 0 false 0;weather rd;");
        x.lie(0, 0);
        C.fraction(x, "trust(0)", x.trust(0), 1, 2);
        C.no(x, "trust(1)", x.trust(1), 1);
        C.no(x, "odds(0, 0)", x.odds(0, 0), 1);
        C.due("top() behind refused calls", x.top(), 1);
        C.due("bottom() behind refused calls", x.bottom(), 2);
        x.lie(0, 1);
        C.fraction(x, "trust(0), 0 of 2", x.trust(0), 0, 1);
    }

    private static void tray() {
        KneeBench x = new KneeBench();
        C.no(x, "tray(-1, 0, 1)", x.tray(-1, 0, 1), 1);
        C.no(x, "tray(4, 0, 1)", x.tray(4, 0, 1), 1);
        C.no(x, "tray(0, -1, 1)", x.tray(0, -1, 1), 1);
        C.no(x, "tray(0, 4, 1)", x.tray(0, 4, 1), 1);
        C.no(x, "tray(0, 0, -1)", x.tray(0, 0, -1), 1);
        C.no(x, "tray(0, 0, 61)", x.tray(0, 0, 61), 1);
        C.none(x, "read(0, 0) behind refused trays", x.read(0, 0), 2);
        C.due("tray(0, 3, 60)", x.tray(0, 3, 60), true);
        C.due("write(0, 59, 5)", x.write(0, 59, 5), true);
        C.due("tray(0, 3, 60) anew", x.tray(0, 3, 60), true);
        C.due("status()", x.status(), 0);
        C.due("read(0, 59) of a new row", x.read(0, 59), 0);
        C.due("status()", x.status(), 0);
        x.write(0, 0, 7);
        C.no(x, "tray(0, 3, 61)", x.tray(0, 3, 61), 1);
        C.due("read(0, 0) behind a refused tray", x.read(0, 0), 7);
        C.due("tray(3, 0, 0)", x.tray(3, 0, 0), true);
        C.none(x, "read(3, 0) of none", x.read(3, 0), 3);
    }

    private static void write() {
        KneeBench x = new KneeBench();
        C.no(x, "write(0, 0, 1) to a missing tray", x.write(0, 0, 1), 2);
        C.no(x, "write(4, 0, 1)", x.write(4, 0, 1), 1);
        C.no(x, "write(-1, 0, 1)", x.write(-1, 0, 1), 1);
        for (int sort = 0; sort < 4; sort++) {
            x.tray(sort, sort, 2);
        }
        C.no(x, "write(0, 2, 1)", x.write(0, 2, 1), 3);
        C.no(x, "write(0, -1, 1)", x.write(0, -1, 1), 3);
        C.no(x, "write(0, big, 1)", x.write(0, Integer.MAX_VALUE, 1), 3);
        long v = 0x123456789abcdef0L;
        long[] cut = {(byte) 0xf0, (short) 0xdef0, 0x9abcdef0, v};
        for (int sort = 0; sort < 4; sort++) {
            C.due("write to sort " + sort, x.write(sort, 1, v), true);
            C.due("status()", x.status(), 0);
            C.due("read of sort " + sort, x.read(sort, 1), cut[sort]);
            C.due("read of its neighbour", x.read(sort, 0), 0);
        }
        x.write(0, 0, 127);
        C.due("127 in 8 bits", x.read(0, 0), 127);
        x.write(0, 0, 128);
        C.due("128 in 8 bits", x.read(0, 0), -128);
    }

    private static void read() {
        KneeBench x = new KneeBench();
        x.tray(1, 3, 3);
        x.write(1, 2, -1);
        C.due("read(1, 2)", x.read(1, 2), -1);
        C.due("status() of a true -1", x.status(), 0);
        C.none(x, "read(1, 3)", x.read(1, 3), 3);
        C.none(x, "read(1, -1)", x.read(1, -1), 3);
        C.none(x, "read(2, 9)", x.read(2, 9), 2);
        C.none(x, "read(4, 0)", x.read(4, 0), 1);
        C.none(x, "read(-1, 0)", x.read(-1, 0), 1);
    }

    private static void pour() {
        KneeBench x = new KneeBench();
        C.no(x, "pour of missing ones", x.pour(0, 0, 1, 0, 0), 2);
        x.tray(0, 1, 5);
        C.no(x, "pour to a missing one", x.pour(0, 0, 1, 0, 0), 2);
        C.no(x, "pour from a missing one", x.pour(1, 0, 0, 0, 0), 2);
        C.no(x, "pour from below 0 of a missing one", x.pour(0, -1, 1, 0, 0), 1);
        C.no(x, "pour to below 0", x.pour(0, 0, 0, -1, 0), 1);
        C.no(x, "pour of less than 0", x.pour(0, 0, 0, 0, -1), 1);
        C.no(x, "pour from no tray", x.pour(4, 0, 0, 0, 0), 1);
        C.no(x, "pour to no tray", x.pour(0, 0, -1, 0, 0), 1);
        x.tray(1, 2, 5);
        C.no(x, "pour of unlike sorts, ahead of places", x.pour(0, 9, 1, 9, 9), 8);
        x.tray(2, 1, 3);
        C.no(x, "pour of too many from", x.pour(2, 1, 0, 0, 3), 3);
        C.no(x, "pour of too many to", x.pour(0, 0, 2, 1, 3), 3);
        C.no(x, "pour of a huge many", x.pour(0, 1, 2, 0, Integer.MAX_VALUE), 3);
        C.no(x, "pour from a huge place", x.pour(0, Integer.MAX_VALUE, 2, 0, 1), 3);
        C.no(x, "pour of none behind the last place", x.pour(0, 6, 2, 0, 0), 3);
        C.due("pour of none at the end", x.pour(0, 5, 2, 3, 0), true);
        for (int i = 0; i < 5; i++) {
            x.write(0, i, i + 1);
        }
        C.due("pour within itself", x.pour(0, 0, 0, 1, 4), true);
        C.due("status()", x.status(), 0);
        row(x, 0, 1, 1, 2, 3, 4);
        C.due("pour within itself, down", x.pour(0, 2, 0, 0, 3), true);
        row(x, 0, 2, 3, 4, 3, 4);
        C.due("pour to another", x.pour(0, 1, 2, 0, 2), true);
        row(x, 2, 3, 4, 0);
        row(x, 0, 2, 3, 4, 3, 4);
    }

    private static void row(KneeBench x, int tray, long... want) {
        for (int i = 0; i < want.length; i++) {
            C.due("read(" + tray + ", " + i + ")", x.read(tray, i), want[i]);
        }
    }
}
