/** The boundaries that the Terms I name: cells, ways, leaps, chills, steps, what is HELD, who is CROWNED and who is OFF. */
public final class TurnsTest extends Due {
    private static final int[] ROWS_MORE = {-1, 1, 1, -1};
    private static final int[] COLUMNS_MORE = {1, 1, -1, -1};
    private static final int[] WARMS = {-100, -99, -17, -16, -15, -1, 0, 1, 15, 16, 17, 99, 100};

    /** -1 outside. */
    private static int beside(int cell, int way) {
        int row = cell / 6 + ROWS_MORE[way];
        int column = cell % 6 + COLUMNS_MORE[way];
        return row < 0 || row > 5 || column < 0 || column > 5 ? -1 : 6 * row + column;
    }

    private static String air(int kind, int figure, int cell, int way) {
        return "a" + kind + figure + two(cell) + way + ";";
    }

    // ---- what there is at first, and how much there can be

    private static void atFirst() {
        part("at first");
        DraughtsTake x = new DraughtsTake();
        for (int cell = 0; cell < 36; cell++) {
            due("shut " + cell, x.cell(cell, 0), 0);
            due("warm " + cell, x.warm(cell), 0x41800000);
        }
        for (int what = 0; what < 10; what++) {
            due("count " + what, x.count(what), 0);
        }
        for (int k = 0; k < 6; k++) {
            due("an air in row 0, " + k, x.comes(k, 0, k), k < 5 ? k : -6);
            due("a sitter in row 5, " + k, x.sitsDown(30 + k), k);
        }
        due("sitter 6", x.sitsDown(20), -6);
        for (int k = 0; k < 5; k++) {
            due("way of " + k, x.air(k, 3), 0);
            due("crowned " + k, x.air(k, 4), 0);
        }
        for (int k = 0; k < 6; k++) {
            due("shawls of " + k, x.sitter(k, 1), 0);
            due("ON " + k, x.sitter(k, 2), 1);
            due("step " + k, x.step(k, 0), k + 1);
        }
        due("step 6", x.step(6, 0), -6);
        due("all at the most", x.count(0) * 100 + x.count(1) * 10 + x.count(5), 566);
    }

    private static void free() {
        part("FREE");
        DraughtsTake x = told("a00070;p080;p090;w0900;d10;t01;");
        x.comes(0, 0, 7);
        due("one ON is on it", x.cell(8, 1), 0);
        due("one OFF is on it", x.cell(9, 1), 1);
        due("it is SHUT", x.cell(10, 1), 0);
        due("an air is on it", x.cell(7, 1), 0);
        due("an air was on it: it went to 2, is there", x.cell(2, 1), 0);
        due("nothing is on it", x.cell(11, 1), 1);
        due("one OFF on it, SHUT", x.shuts(9) * 10 + x.cell(9, 1), 10);
        x.shuts(9);
        due("an air with one OFF", x.comes(1, 0, 9), 2);
        due("who is on it: the air, none ON", x.cell(9, 2) * 100 + x.cell(9, 3), 191);
        due("the first cell", told("p000;").cell(0, 3), 0);
        due("the last one", told("p350;").cell(35, 3), 0);
    }

    // ---- ways

    /** An air alone, not CROWNED, on each cell with each way. */
    private static void waysFromEachCell() {
        part("WAYS");
        for (int cell = 0; cell < 36; cell++) {
            for (int way = 0; way < 4; way++) {
                DraughtsTake x = told(air(0, 0, cell, way));
                int went = beside(cell, way) >= 0 ? way : beside(cell, (way + 1) % 4) >= 0 ? (way + 1) % 4 : -1;
                int to = went < 0 ? cell : beside(cell, went);
                x.turns(1);
                String from = "from " + cell + " by " + way;
                due(from, x.air(0, 2), to);
                due(from + ", way", x.air(0, 3), went < 0 ? (way + 2) % 4 : went);
                due(from + ", CROWNED", x.air(0, 4), to < 6 || to > 29 ? 1 : 0);
                due(from + ", warm", x.warm(to), bits(went < 0 ? 16f : 12f));
                due(from + ", TURN", x.count(2), 1);
            }
        }
    }

    /** In a corner one way alone leads out: the CROWNED find it by each of theirs, as the first, second, third, fourth. */
    private static void waysOfTheCrowned() {
        part("CROWNED");
        int[] corners = {0, 5, 35, 30};
        int[] out = {1, 2, 3, 0};
        for (int k = 0; k < 4; k++) {
            for (int way = 0; way < 4; way++) {
                DraughtsTake x = told(air(0, 0, corners[k], (out[k] + 1) % 4) + "t01;");
                due("it stays in " + corners[k], x.air(0, 2), corners[k]);
                due("its way is 2 more", x.air(0, 3), (out[k] + 3) % 4);
                due("it is CROWNED", x.air(0, 4), 1);
                x.blows(0, way);
                x.turns(1);
                due("out of " + corners[k] + " by " + way, x.air(0, 2) * 10 + x.air(0, 3), beside(corners[k], out[k]) * 10 + out[k]);
                due("still CROWNED", x.air(0, 4), 1);
            }
            DraughtsTake x = told(air(0, 0, corners[k], (out[k] + 1) % 4) + "t01;" + "d" + two(beside(corners[k], out[k])) + ";t01;");
            due("no way at all, twice 2 more", x.air(0, 2) * 10 + x.air(0, 3), corners[k] * 10 + (out[k] + 1) % 4);
        }
    }

    /** Around 14 there are four cells: those that are not SHUT are tried one behind the other. */
    private static void theFirstOfTheWays() {
        part("the first of the ways");
        for (int shut = 0; shut < 16; shut++) {
            for (int way = 0; way < 4; way++) {
                StringBuilder text = new StringBuilder(air(0, 0, 14, way));
                for (int k = 0; k < 4; k++) {
                    text.append((shut >> k & 1) == 1 ? "d" + two(beside(14, k)) + ";" : "");
                }
                DraughtsTake x = told(text + "t01;");
                int next = (way + 1) % 4;
                int went = (shut >> way & 1) == 0 ? way : (shut >> next & 1) == 0 ? next : -1;
                due("shut " + shut + ", way " + way, x.air(0, 2) * 10 + x.air(0, 3),
                    went < 0 ? 140 + (way + 2) % 4 : beside(14, went) * 10 + went);
            }
        }
    }

    private static void whoIsInTheWay() {
        part("what is not FREE");
        due("an air", told("a00140;a00090;a00210;t01;").air(0, 2), 14);
        due("one ON behind whom it is SHUT", told("a00140;p090;d04;d21;t01;").air(0, 2), 14);
        due("one OFF", told("p090;w0900;t01;a00140;t01;").air(0, 2), 9);
        due("one who has gone there by now", told("a00160;a00140;d11;t01;").air(1, 2), 9);
        due("one who has left by now", told("a00090;a00140;t01;").air(1, 2), 9);
        due("one who is still there", told("a00140;a00090;t01;").air(0, 2), 21);
    }

    // ---- leaps

    private static final int[][] LEAPS = {{1, 1, 1, 1, 1, 1, 1, 1, 1, 1}, {1, 1, 1, 2, 2, 2, 3, 3, 3, 4}, {1, 1, 1, 1, 1, 1, 1, 1, 1, 1},
        {2, 2, 2, 4, 4, 4, 6, 6, 6, 8}, {0, 0, 0, 0, 0, 0, 0, 0, 0, 0}, {0, 0, 1, 1, 2, 2, 3, 3, 4, 4},
        {3, 3, 3, 5, 5, 5, 7, 7, 7, 9}, {0, 0, 0, 0, 1, 1, 2, 2, 3, 3}};

    private static void leapsOfEachKind() {
        part("LEAPS");
        for (int kind = 0; kind < 8; kind++) {
            for (int figure = 0; figure < 10; figure++) {
                String name = "kind " + kind + ", figure " + figure;
                due(name, told(air(kind, figure, 20, 0)).air(0, 5), LEAPS[kind][figure]);
                for (int shawls = 0; shawls < 10; shawls++) {
                    leapsThereAndBack(kind, figure, shawls);
                }
            }
        }
    }

    /** A CROWNED one in a corner leaps over him and back again, until it has no LEAPS more or he is OFF. */
    private static void leapsThereAndBack(int kind, int figure, int shawls) {
        DraughtsTake x = told(air(kind, figure, 30, 2) + "t01;p25" + shawls + ";");
        int leaps = Math.min(LEAPS[kind][figure], shawls + 1);
        String name = "kind " + kind + ", figure " + figure + ", shawls " + shawls;
        due(name + ", TAKEN", x.turns(1), leaps);
        due(name + ", ON", x.sitter(0, 2), leaps <= shawls ? 1 : 0);
        due(name + ", shawls", x.sitter(0, 1), shawls - Math.min(leaps, shawls));
        due(name + ", cell", x.air(0, 2), leaps % 2 == 0 ? 30 : 20);
        due(name + ", way", x.air(0, 3), leaps % 2 == 0 ? 2 : 0);
    }

    /** One on 14, over 9 to 4. */
    private static void whatIsBehind() {
        part("that behind is FREE");
        due("it is", told("a00140;p090;t01;").count(3), 1);
        due("it is SHUT", told("a00140;p090;d04;t01;").count(3), 0);
        due("an air is there", told("a00140;p090;a00040;d11;t01;").count(3), 0);
        due("one ON is there", told("a00140;p090;p040;t01;").count(3), 0);
        due("one OFF is there", told("p040;w0400;t01;a00140;p090;t01;").count(3), 1);
        due("he himself is OFF", told("p090;w0900;t01;a00140;t01;").count(3), 0);
        for (int cell : new int[] {1, 2, 3, 4, 6, 12, 18, 24, 11, 17, 23, 29, 31, 32, 33, 34}) {
            for (int way = 0; way < 4; way++) {
                int from = beside(cell, (way + 2) % 4);
                if (from >= 0) {
                    due("outside, over " + cell + " by " + way, told(air(0, 0, from, way) + "p" + two(cell) + "9;t01;").count(3), 0);
                }
            }
        }
        DraughtsTake x = told("a00140;p090;p210;t01;");
        due("of two the one by its way", x.air(0, 2) * 100 + x.count(4), 402);
        x = told("a00140;p210;t01;");
        due("it leaps by the next way, though the first is FREE", x.air(0, 2) * 100 + x.air(0, 3) * 10 + x.count(3), 2811);
        due("not by 2 more", told("a00140;p190;t01;").count(3), 0);
        due("not by 3 more", told("a00140;p070;t01;").count(3), 0);
        x = told("a00143;p090;t01;");
        due("from way 3 to way 0", x.air(0, 2) * 100 + x.air(0, 3) * 10 + x.count(3), 401);
    }

    private static void oneLeapBehindTheOther() {
        part("leaps");
        DraughtsTake x = told("a13070;p140;p160;p260;t01;");
        due("it tries from the way that it leapt by", x.air(0, 2) * 100 + x.air(0, 3) * 10 + x.count(3), 3122);
        due("who is ON", x.count(4), 0b010);
        due("warm of the first place", x.warm(21), bits(11.5f));
        due("warm of the second", x.warm(31), bits(11.5f));
        due("where it was, whom it leapt over, where it didn't come", x.sum(0), bits(34 * 16f + 2 * 11.5f));
        x = told("a13140;p095;t01;");
        due("CROWNED behind its leaps only", x.count(3) * 10 + x.air(0, 4), 11);
        x.turns(1);
        due("back again by 2 more, and there again", x.count(3) * 100 + x.air(0, 2) * 10 + x.air(0, 3), 340);
        x = told("a19300;p250;p200;t01;");
        due("the one behind is in the way", x.count(3), 0);
        x = told("a19300;p250;t01;");
        due("who has leapt doesn't go on", x.air(0, 2) * 10 + x.count(3), 201);
        x = told("a00300;a00260;p250;d32;t01;");
        due("who is OFF in a turn is none for the next air in it", x.count(3) * 1000 + x.air(0, 2) * 10 + x.air(1, 3), 1200);
        due("by numbers: the first has gone from behind him", told("a00200;a00300;p250;t01;").count(3), 1);
        due("it has not yet", told("a00300;a00200;p250;t01;").count(3), 0);
    }

    // ---- floats

    private static float chill(int kind, int f, boolean odd, float w) {
        float gust = w * 0.75f - 0.5f;
        float gale = gust * 0.75f - 0.5f;
        float sigh = w - f * 0.125f;
        switch (kind) {
            case 0: return w * 0.75f;
            case 1: return gust;
            case 2: return sigh;
            case 3: return gale;
            case 4: return (int) sigh;
            case 5: return w / (f + 1);
            case 6: return odd ? gale - 1f : gale;
            default: return w * 0.5f + w / (f + 1) * 0.5f;
        }
    }

    private static void chillsOfEachKind() {
        part("CHILLS");
        for (int kind = 0; kind < 8; kind++) {
            for (int figure = 0; figure < 10; figure++) {
                for (int w : WARMS) {
                    DraughtsTake x = told(air(kind, figure, 21, 0));
                    x.warms(16, w);
                    x.warms(11, w);
                    x.turns(1);
                    String name = "kind " + kind + ", figure " + figure + ", of " + w;
                    due(name + ", TURN 1", x.warm(16), bits(hold(chill(kind, figure, true, w))));
                    x.turns(1);
                    due(name + ", TURN 2", x.warm(11), bits(hold(chill(kind, figure, false, w))));
                }
            }
        }
        chillsHeld();
    }

    private static void chillsHeld() {
        DraughtsTake x = told("a28210;a29330;");
        x.warms(16, -99);
        x.warms(28, -99);
        x.turns(1);
        due("-99 less 8 eighths", x.warm(16), bits(-100f));
        due("-99 less 9 eighths, HELD", x.warm(28), bits(-100f));
        x = told("a27210;a49330;");
        x.warms(16, -99);
        x.warms(28, -100);
        x.turns(1);
        due("-99 less 7 eighths", x.warm(16), bits(-99.875f));
        due("-101.125, cut, HELD", x.warm(28), bits(-100f));
        due("0 less an eighth, cut", told("a41210;w1600;t01;").warm(16), 0);
        due("0 less 9 eighths, cut", told("a49210;w1600;t01;").warm(16), bits(-1f));
        due("the first cell", told("a00073;t01;").warm(0), bits(12f));
        due("the last one", told("a00281;t01;").warm(35), bits(12f));
    }

    private static float stepped(int step, float n, float w) {
        switch (step) {
            case 0: return w + ((n - w) * 0.125f);
            case 1: return w * (n / 16f);
            case 2: return w + n / 8f;
            case 3: return w - n / 8f;
            case 4: return w < n ? n : w;
            case 5: return w > n ? n : w;
            default: return (int) w;
        }
    }

    private static void stepsOfEachKind() {
        part("STEPS");
        int[] numbers = {0, 1, 15, 16, 17, 98, 99};
        for (int step = 0; step < 7; step++) {
            for (int n : numbers) {
                DraughtsTake x = new DraughtsTake();
                DraughtsTake y = told("l" + "tmasglc".charAt(step) + (step == 6 ? "" : two(n)) + ";");
                x.step(step, n);
                for (int k = 0; k < WARMS.length; k++) {
                    x.warms(k, WARMS[k]);
                    y.warms(35 - k, WARMS[k]);
                }
                x.turns(1);
                y.turns(1);
                for (int k = 0; k < WARMS.length; k++) {
                    int want = bits(hold(stepped(step, n, WARMS[k])));
                    due("step " + step + " with " + n + " of " + WARMS[k], x.warm(k), want);
                    due("the same told in letters", y.warm(35 - k), want);
                }
            }
        }
        due("7.5 is cut", warmBy(7, "a04c"), bits(7f));
        due("-7.5 is cut", warmBy(-7, "s04c"), bits(-7f));
        due("-0.5 is cut to 0", warmBy(0, "s04c"), 0);
        due("g at an eighth below", warmBy(10, "s01g10"), bits(10f));
        due("g at it", warmBy(10, "g10"), bits(10f));
        due("g at an eighth above", warmBy(10, "a01g10"), bits(10.125f));
        due("l at an eighth below", warmBy(10, "s01l10"), bits(9.875f));
        due("l at it", warmBy(10, "l10"), bits(10f));
        due("l at an eighth above", warmBy(10, "a01l10"), bits(10f));
    }

    /** The last cell's warm, a turn behind w. */
    private static int warmBy(int w, String steps) {
        DraughtsTake x = told("l" + steps + ";");
        x.warms(35, w);
        x.turns(1);
        return x.warm(35);
    }

    private static void stepsTogether() {
        part("all STEPS");
        due("none", warmBy(-100, ""), bits(-100f));
        due("one behind the other", warmBy(20, "a08m08"), bits(10.5f));
        due("the other way round", warmBy(20, "m08a08"), bits(11f));
        due("six", warmBy(64, "m08m08m08m08m08m08"), bits(1f));
        due("the sixth is the last", warmBy(64, "m08m08m08m08m08a16"), bits(4f));
        due("99 and 7 eighths", warmBy(99, "a07"), bits(99.875f));
        due("99 and 8 eighths", warmBy(99, "a08"), bits(100f));
        due("99 and 9 eighths, HELD", warmBy(99, "a09"), bits(100f));
        due("-99 less 7 eighths", warmBy(-99, "s07"), bits(-99.875f));
        due("-99 less 8 eighths", warmBy(-99, "s08"), bits(-100f));
        due("-99 less 9 eighths, HELD", warmBy(-99, "s09"), bits(-100f));
        due("above 100 between two steps", warmBy(100, "a80s80"), bits(100f));
        due("below -100 between two steps", warmBy(-100, "s80a80"), bits(-100f));
        due("100 times 6.1875 four times, then at most 99", warmBy(100, "m99m99m99m99l99"), bits(99f));
        DraughtsTake x = told("d00;a00350;p010;la08;t01;");
        due("of a cell that is SHUT", x.warm(0), bits(17f));
        due("of a sitter's", x.warm(1), bits(17f));
        due("of an air's", x.warm(35), bits(17f));
    }

    // ---- who is OFF, who is CROWNED, in which order

    private static void theCold() {
        part("OFF by the cold");
        for (int shawls = 0; shawls < 10; shawls++) {
            String sitter = "p20" + shawls + ";";
            int bound = 8 - shawls;
            due("at the bound, " + shawls, onBehindATurn(sitter, bound), 1);
            due("1 below, " + shawls, onBehindATurn(sitter, bound - 1), 0);
            due("an eighth below, " + shawls, onBehindATurn(sitter + "ls01;", bound), 0);
            due("an eighth above, " + shawls, onBehindATurn(sitter + "la01;", bound), 1);
        }
        due("the last shawl is gone by the leap, then it is too cold", told("a00240;p191;w1907;t01;").count(4), 0);
        due("with one shawl less it is warm enough", told("a00240;p192;w1907;t01;").count(4), 1);
        DraughtsTake x = told("p200;p210;p220;p230;p260;p270;w2007;w2207;w2707;t01;");
        due("each by himself", x.count(4), 0b011010);
        x.warms(20, 100);
        x.wraps(0, 9);
        x.turns(1);
        due("OFF for good", x.count(4), 0b011010);
    }

    private static int onBehindATurn(String text, int warm) {
        DraughtsTake x = told(text);
        x.warms(20, warm);
        x.turns(1);
        return x.sitter(0, 2);
    }

    private static void theOrderOfATurn() {
        part("a TURN");
        due("TURN is 1 more ahead of the chill", told("a60210;t01;").warm(16), bits((16f * 0.75f - 0.5f) * 0.75f - 1.5f));
        due("steps ahead of chills", told("a00210;la08;t01;").warm(16), bits(17f * 0.75f));
        due("steps ahead of the cold", told("p200;w2007;la08;t01;").count(4), 1);
        due("chills ahead of the cold", told("p200;w2008;ls08;t01;").count(4), 0);
        due("leapt over ahead of the cold", told("a00240;p190;w1900;t01;").count(3), 1);
        DraughtsTake x = told("p290;w2900;a00240;p190;t01;");
        due("one too cold and one leapt over", x.count(4) * 10 + x.count(3), 1);
        x = told("a00133;t01;");
        due("in row 1 it is not CROWNED", x.air(0, 2) * 10 + x.air(0, 4), 60);
        x.turns(1);
        due("in row 0 it is", x.air(0, 2) * 10 + x.air(0, 4), 11);
        x = told("a00211;t01;");
        due("in row 4 it is not", x.air(0, 2) * 10 + x.air(0, 4), 280);
        x.turns(1);
        due("in row 5 it is", x.air(0, 2) * 10 + x.air(0, 4), 351);
        due("who leaves row 0 in its first turn is not", told("a00021;t01;").air(0, 4), 0);
        due("who leaves row 5 in its first turn is not", told("a00320;t01;").air(0, 4), 0);
    }

    // ---- the greatest TURN, the greatest TAKEN

    private static void turn999() {
        part("TURN 999");
        DraughtsTake x = new DraughtsTake();
        goOn(x, 998);
        due("998", x.count(2), 998);
        due("2 more", x.turns(2), -6);
        due("2 more in letters", tell(x, "t02;"), -2000);
        due("1 more", x.turns(1) + x.count(2), 999);
        due("1 more", x.turns(1), -6);
        due("1 more in letters", tell(x, "t01;"), -2000);
        due("still", x.count(2), 999);
        x = new DraughtsTake();
        goOn(x, 939);
        due("61 more", x.turns(61), -6);
        due("60 more", x.turns(60) + x.count(2), 999);
        x = new DraughtsTake();
        goOn(x, 998);
        due("1 more in letters", tell(x, "t01;") * 1000 + x.count(2), 1999);
        x = new DraughtsTake();
        goOn(x, 940);
        due("60 more in letters", tell(x, "t60;"), -2000);
        due("59 more in letters", tell(x, "t59;") * 1000 + x.count(2), 1999);
    }

    /** Four storms that are CROWNED in their corners leap over one each, 9 times in a turn. */
    private static DraughtsTake fourStorms() {
        DraughtsTake x = told("a69002;a69053;a69350;a69301;t01;p079;p109;p289;p259;lg99;");
        for (int k = 0; k < 4; k++) {
            x.blows(k, k == 0 ? 1 : k == 1 ? 2 : k == 2 ? 3 : 0);
        }
        return x;
    }

    /** No 512 calls can bring so many SHAWLS that 9999 are TAKEN: this object alone is used for longer. */
    private static void taken9999() {
        part("TAKEN 9999");
        DraughtsTake x = fourStorms();
        for (int turn = 1; turn <= 277; turn++) {
            due("36 in each turn", x.turns(1), 36 * turn);
            for (int k = 0; k < 4; k++) {
                x.wraps(k, 9);
            }
        }
        x.image();
        due("9972 and 36", x.turns(1), 9999);
        due("who is ON", x.count(4), 15);
        for (int k = 0; k < 4; k++) {
            x.wraps(k, 9);
        }
        due("in mind", x.then(1, 1) * 10 + x.leapt(1, 0), 99990);
        due("no more", x.turns(1), 9999);
        x.restore();
        x.wraps(0, 2);
        x.wraps(1, 9);
        x.wraps(2, 9);
        x.wraps(3, 5);
        due("9972, 3, 9, 9, 6", x.then(1, 1), 9999);
        x.wraps(3, 4);
        due("9972, 3, 9, 9, 5", x.turns(1), 9998);
        tell(x, "p149;a00210;");
        due("1 more", x.turns(1), 9999);
    }

    public static void main(String[] args) {
        atFirst();
        free();
        waysFromEachCell();
        waysOfTheCrowned();
        theFirstOfTheWays();
        whoIsInTheWay();
        leapsOfEachKind();
        whatIsBehind();
        oneLeapBehindTheOther();
        chillsOfEachKind();
        stepsOfEachKind();
        stepsTogether();
        theCold();
        theOrderOfATurn();
        turn999();
        taken9999();
        end("all turns are as due");
    }
}
