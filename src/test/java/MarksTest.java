/** Promises 69 and 70: marks. */
public final class MarksTest {
    private static final Check C = new Check("MarksTest");
    private static final String A = "farmer a ahead 0 fails 0 false 0;";

    public static void main(String[] args) {
        many();
        allIsTakenBack();
        whatStays();
        C.finish();
    }

    private static void many() {
        KneeBench x = new KneeBench();
        C.none(x, "back() of none", x.back(), 6);
        for (int many = 1; many <= 3; many++) {
            C.due("mark()", x.mark(), many);
            C.due("status()", x.status(), 0);
            x.day(0);
        }
        C.none(x, "a fourth mark()", x.mark(), 4);
        for (int left = 2; left >= 0; left--) {
            C.due("back()", x.back(), left);
            C.due("status()", x.status(), 0);
            C.due("told(1) behind back()", x.told(1), left);
        }
        C.none(x, "back() of none left", x.back(), 6);
        C.due("mark() anew", x.mark(), 1);
    }

    private static void allIsTakenBack() {
        KneeBench x = Check.with(A + "farmer b behind 1 fails 1 false 2 elbow cured 4;dislikes a b 3;weather rdh;vote all;");
        Check.season(x, "dry;dry;");
        x.weigh(0, 5);
        x.lie(0, 1);
        x.mark();
        x.weigh(0, 6);
        x.lie(0, 1);
        x.lie(1, 0);
        x.cure(0, 0);
        x.cure(1, 9);
        x.brandy(1, 9);
        x.day(1);
        x.live(0);
        Check.season(x, "dry;");
        look(x, "behind changes", 6, 0, 6);
        C.due("back()", x.back(), 0);
        look(x, "behind back()", 5, 1, 3);
        C.due("the season is back", x.live(0), 2);
        x.mark();
        Check.bench(x, "farmer c ahead 0 fails 0 false 0;");
        C.due("told(0)", x.told(0), 1);
        C.none(x, "live(0)", x.live(0), 6);
        x.back();
        C.due("told(0)", x.told(0), 2);
        C.due("told(4)", x.told(4), 3);
        C.due("dislikes(0, 1)", x.dislikes(0, 1), 3);
        C.due("farmer(1, 0)", x.farmer(1, 0), -1);
        C.due("farmer(1, 3)", x.farmer(1, 3), 1);
        C.due("farmer(1, 2)", x.farmer(1, 2), 2);
        C.due("farmer(1, 4)", x.farmer(1, 4), 4);
        C.due("the names are back", Check.season(x, "lie b on 1;"), 1);
        C.none(x, "a name of the bench that is gone", Check.season(x, "lie c on 1;"), 9);
    }

    private static void look(KneeBench x, String when, int weight, int lie, int days) {
        C.due("farmer(0, 5) " + when, x.farmer(0, 5), weight);
        C.due("twinges(0, 1) " + when, x.twinges(0, 1), lie);
        C.due("told(1) " + when, x.told(1), days);
        C.due("farmer(0, 4) " + when, x.farmer(0, 4), lie == 0 ? 0 : -1);
        C.due("farmer(1, 4) " + when, x.farmer(1, 4), lie == 0 ? 9 : 4);
        C.due("farmer(1, 2) " + when, x.farmer(1, 2), lie == 0 ? 9 : 2);
    }

    private static void whatStays() {
        KneeBench x = Check.with(A + "weather rd;");
        x.mark();
        x.tray(0, 0, 1);
        x.write(0, 0, 9);
        x.trust(0);
        x.seats();
        Check.season(x, "dry;");
        x.live(0);
        x.feed(0, 0, 0, 0, 0);
        x.back();
        C.due("a tray stays", x.read(0, 0), 9);
        C.due("the fraction stays", x.top(), 1);
        C.due("the row stays", x.seatAt(0), 0);
        C.due("what was lived stays", x.lived(1), 1);
        C.due("the tape stays", x.feed(0, 0, 0, 0, 0), 40);
        C.due("the fault stays", x.fault(0), 0);
        C.none(x, "the season is gone", x.live(0), 6);
    }
}
