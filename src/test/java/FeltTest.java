/** Promises 17 to 26: what is felt, and told. */
public final class FeltTest {
    private static final Check C = new Check("FeltTest");

    public static void main(String[] args) {
        should();
        twinges();
        feel();
        lie();
        cure();
        brandy();
        day();
        tells();
        wrongs();
        C.finish();
    }

    private static void shoulds(KneeBench x, int f, String want) {
        for (int d = 0; d < want.length(); d++) {
            C.due("should(" + f + ", " + d + ")", x.should(f, d), want.charAt(d) - '0');
            C.due("status()", x.status(), 0);
        }
    }

    private static void felt(KneeBench x, int f, String want) {
        for (int d = 0; d < want.length(); d++) {
            C.due("twinges(" + f + ", " + d + ")", x.twinges(f, d), want.charAt(d) - '0');
            C.due("status()", x.status(), 0);
        }
    }

    private static void should() {
        KneeBench x = Check.with("farmer a ahead 1 fails 0 false 0;farmer b behind 2 fails 0 false 0;"
                + "farmer c ahead 0 fails 0 false 0 elbow;farmer e ahead 3 fails 0 false 0 cured 1;"
                + "farmer f behind 3 fails 0 false 0 elbow;weather rdhrrd;");
        shoulds(x, 0, "011100");
        shoulds(x, 1, "001011");
        shoulds(x, 2, "001000");
        shoulds(x, 3, "100000");
        shoulds(x, 4, "000001");
        C.none(x, "should(5, 0)", x.should(5, 0), 1);
        C.none(x, "should(-1, 0)", x.should(-1, 0), 1);
        C.none(x, "should(0, 6)", x.should(0, 6), 1);
        C.none(x, "should(0, -1)", x.should(0, -1), 1);
        x.day(1);
        shoulds(x, 0, "0111010");
        x.cure(0, 2);
        shoulds(x, 0, "0100000");
        String sixty = "d".repeat(59) + "r";
        x = Check.with("farmer a ahead 0 fails 0 false 0;farmer b ahead 3 fails 0 false 0;weather " + sixty + ";");
        C.due("should on the last of 60", x.should(0, 59), 1);
        C.due("three days ahead of it", x.should(1, 56), 1);
        C.due("twinges in all", x.farmer(0, 6) + x.farmer(1, 6), 2);
    }

    private static void twinges() {
        KneeBench x = Check.with("farmer a ahead 0 fails 0 false 0;farmer b ahead 0 fails 0 false 0;weather rd;");
        felt(x, 0, "10");
        C.none(x, "twinges(0, 2)", x.twinges(0, 2), 1);
        C.none(x, "twinges(2, 0)", x.twinges(2, 0), 1);
        C.none(x, "twinges(-1, 0)", x.twinges(-1, 0), 1);
        C.none(x, "twinges(0, -1)", x.twinges(0, -1), 1);
        C.due("twinge(0, 0, true)", x.twinge(0, 0, true), true);
        felt(x, 0, "10");
        C.due("twinge(0, 0, false)", x.twinge(0, 0, false), true);
        C.due("twinge(0, 1, true)", x.twinge(0, 1, true), true);
        C.due("twinge(0, 1, true) again", x.twinge(0, 1, true), true);
        C.due("status()", x.status(), 0);
        felt(x, 0, "01");
        felt(x, 1, "10");
        C.no(x, "twinge(0, 2, true)", x.twinge(0, 2, true), 1);
        C.no(x, "twinge(0, -1, true)", x.twinge(0, -1, true), 1);
        C.no(x, "twinge(2, 0, true)", x.twinge(2, 0, true), 1);
        C.no(x, "twinge(-1, 0, true)", x.twinge(-1, 0, true), 1);
        felt(x, 0, "01");
    }

    /** The seed 0 draws 6, 11, 8, 3, 5, 7 by 16. */
    private static void feel() {
        KneeBench x = Check.with("farmer a ahead 0 fails 8 false 16;weather rrrrrr;");
        C.due("feel(0) where it should", x.feel(0), 2);
        C.due("status()", x.status(), 0);
        felt(x, 0, "011000");
        x = Check.with("farmer a ahead 0 fails 16 false 6;weather dddddd;");
        C.due("feel(0) where it should not", x.feel(0), 2);
        felt(x, 0, "000110");
        x = Check.with("farmer a ahead 0 fails 8 false 0;farmer b ahead 0 fails 4 false 0;weather rrr;");
        C.due("feel(0) farmer by farmer", x.feel(0), 4);
        felt(x, 0, "011");
        felt(x, 1, "011");
        x = Check.with("farmer a ahead 0 fails 0 false 6 cured 0;weather rrrrrr;");
        C.due("feel(0) of one that is cured", x.feel(0), 2);
        felt(x, 0, "000110");
        C.due("feel(0) again", x.feel(0), 2);
        x = Check.with("farmer a ahead 0 fails 16 false 0;farmer b ahead 0 fails 0 false 16;weather rd;");
        C.due("feel(9999) of never and always", x.feel(9999), 2);
        felt(x, 0, "00");
        felt(x, 1, "11");
        C.none(x, "feel(-1)", x.feel(-1), 1);
        C.none(x, "feel(10000)", x.feel(10000), 1);
        felt(x, 1, "11");
    }

    private static void lie() {
        KneeBench x = Check.with("farmer a ahead 0 fails 0 false 0;weather rd;");
        C.due("lie(0, 0)", x.lie(0, 0), 0);
        C.due("status()", x.status(), 0);
        C.due("lie(0, 1)", x.lie(0, 1), 1);
        felt(x, 0, "01");
        C.due("lie(0, 1) back", x.lie(0, 1), 0);
        C.none(x, "lie(0, 2)", x.lie(0, 2), 1);
        C.none(x, "lie(0, -1)", x.lie(0, -1), 1);
        C.none(x, "lie(1, 0)", x.lie(1, 0), 1);
        C.none(x, "lie(-1, 0)", x.lie(-1, 0), 1);
        felt(x, 0, "00");
    }

    private static void cure() {
        KneeBench x = Check.with("farmer a ahead 0 fails 0 false 0;weather rrr;");
        C.due("cure(0, 1)", x.cure(0, 1), true);
        C.due("status()", x.status(), 0);
        C.due("farmer(0, 4)", x.farmer(0, 4), 1);
        shoulds(x, 0, "100");
        felt(x, 0, "111");
        C.due("tells(0, 0)", x.tells(0, 0), 1);
        C.none(x, "tells(0, 1)", x.tells(0, 1), 6);
        C.due("cure(0, 60)", x.cure(0, 60), true);
        C.due("farmer(0, 4)", x.farmer(0, 4), 60);
        shoulds(x, 0, "111");
        C.due("cure(0, 0)", x.cure(0, 0), true);
        C.no(x, "cure(0, 61)", x.cure(0, 61), 1);
        C.no(x, "cure(0, -1)", x.cure(0, -1), 1);
        C.no(x, "cure(1, 0)", x.cure(1, 0), 1);
        C.no(x, "cure(-1, 0)", x.cure(-1, 0), 1);
        C.due("farmer(0, 4)", x.farmer(0, 4), 0);
    }

    private static void brandy() {
        KneeBench x = Check.with("farmer a ahead 0 fails 3 false 1;");
        C.due("brandy(0, 16)", x.brandy(0, 16), true);
        C.due("status()", x.status(), 0);
        C.due("farmer(0, 2)", x.farmer(0, 2), 16);
        C.due("farmer(0, 1)", x.farmer(0, 1), 3);
        C.due("brandy(0, 0)", x.brandy(0, 0), true);
        C.no(x, "brandy(0, 17)", x.brandy(0, 17), 1);
        C.no(x, "brandy(0, -1)", x.brandy(0, -1), 1);
        C.no(x, "brandy(1, 1)", x.brandy(1, 1), 1);
        C.no(x, "brandy(-1, 1)", x.brandy(-1, 1), 1);
        C.due("farmer(0, 2)", x.farmer(0, 2), 0);
    }

    private static void day() {
        KneeBench x = Check.with("farmer a ahead 1 fails 0 false 0;weather d;");
        C.due("day(1)", x.day(1), 2);
        C.due("status()", x.status(), 0);
        felt(x, 0, "00");
        shoulds(x, 0, "10");
        C.due("day(2)", x.day(2), 3);
        C.due("day(0)", x.day(0), 4);
        C.due("weather(2)", x.weather(2), 2);
        C.due("weather(3)", x.weather(3), 0);
        C.none(x, "day(3)", x.day(3), 1);
        C.none(x, "day(-1)", x.day(-1), 1);
        for (int many = 5; many <= 60; many++) {
            C.due("day(1) number " + many, x.day(1), many);
        }
        C.none(x, "day(1) number 61", x.day(1), 4);
        C.none(x, "day(3) number 61", x.day(3), 1);
        C.due("told(1)", x.told(1), 60);
        C.due("told(2)", x.told(2), 58);
    }

    private static void tells() {
        KneeBench x = Check.with("farmer a ahead 3 fails 0 false 0;farmer b behind 2 fails 0 false 0 cured 3;"
                + "farmer c ahead 0 fails 0 false 0 elbow;weather drdrh;");
        int[][] want = {{-1, -1, -1, 1, 1, 0, 0, 0, -1}, {0, -1, -1, -1, -1, -1, -1, -1, -1},
            {0, 0, 0, 0, 1, -1, -1, -1, -1}};
        for (int f = 0; f < 3; f++) {
            for (int d = 0; d < 9; d++) {
                C.due("tells(" + f + ", " + d + ")", x.tells(f, d), want[f][d]);
                C.due("status()", x.status(), want[f][d] < 0 ? 6 : 0);
            }
        }
        C.none(x, "tells(0, 62)", x.tells(0, 62), 6);
        C.none(x, "tells(0, 63)", x.tells(0, 63), 1);
        C.none(x, "tells(0, -1)", x.tells(0, -1), 1);
        C.none(x, "tells(3, 0)", x.tells(3, 0), 1);
        C.none(x, "tells(-1, 0)", x.tells(-1, 0), 1);
        x = Check.with("farmer a ahead 3 fails 0 false 0;weather " + "r".repeat(60) + ";");
        x.twinge(0, 59, true);
        C.due("tells(0, 62) by the last day", x.tells(0, 62), 1);
    }

    private static void wrongs() {
        KneeBench x = Check.with("farmer a ahead 1 fails 0 false 0;weather drdrr;");
        C.due("wrongs(0, 0)", x.wrongs(0, 0), 0);
        C.due("wrongs(0, 1)", x.wrongs(0, 1), 0);
        x.lie(0, 0);
        x.lie(0, 1);
        x.lie(0, 4);
        C.due("wrongs(0, 0)", x.wrongs(0, 0), 2);
        C.due("wrongs(0, 1)", x.wrongs(0, 1), 1);
        C.due("status()", x.status(), 0);
        x.cure(0, 0);
        C.due("wrongs(0, 0) of one that is cured", x.wrongs(0, 0), 4);
        C.due("wrongs(0, 1) of one that is cured", x.wrongs(0, 1), 0);
        C.none(x, "wrongs(0, 2)", x.wrongs(0, 2), 1);
        C.none(x, "wrongs(0, -1)", x.wrongs(0, -1), 1);
        C.none(x, "wrongs(1, 0)", x.wrongs(1, 0), 1);
        C.none(x, "wrongs(-1, 0)", x.wrongs(-1, 0), 1);
    }
}
