import java.util.function.Supplier;

/** The boundaries that the Terms II name: how far ahead is looked, of several the least, none at all, what is HELD there, odds, draws. */
public final class InMindTest extends Due {
    private static final String[] HOUSES = {"a13300;a62053;p252;p151;p164;d08;w2540;lt18s01;", "a39140;a70212;a54331;p089;p279;lg15;",
        "a04000;a49350;a28170;p071;p140;p286;ls01;", "a69302;p259;p109;p220;lc;"};

    private static DraughtsTake late(String text) {
        DraughtsTake x = new DraughtsTake();
        goOn(x, 999);
        due("house " + text, tell(x, text) > 0 ? 1 : 0, 1);
        return x;
    }

    /** Sitter 1 is OFF by the cold behind n turns (1 at least); in the next one the air leaps from 30 over sitter 0 to where he was. */
    private static DraughtsTake leapBehind(int n) {
        return told("a00302;p250;p200;w2599;w20" + two(n + 7) + ";ls08;");
    }

    private static String airsAndSitters(DraughtsTake x) {
        StringBuilder all = new StringBuilder();
        for (int air = 0; air < x.count(0); air++) {
            all.append(x.air(air, 2)).append(' ');
        }
        for (int cell = 0; cell < 36; cell++) {
            all.append(x.warm(cell)).append(' ');
        }
        return all.append(x.count(4)).append(' ').append(x.count(3)).toString();
    }

    private static String airsAndSittersThen(DraughtsTake x, int n) {
        StringBuilder all = new StringBuilder();
        for (int air = 0; air < x.count(0); air++) {
            all.append(x.airThen(air, n)).append(' ');
        }
        for (int cell = 0; cell < 36; cell++) {
            all.append(x.warmThen(cell, n)).append(' ');
        }
        return all.append(x.then(n, 0)).append(' ').append(x.then(n, 1)).toString();
    }

    private static void asTheyGoBy() {
        part("n TURNS on");
        for (String text : HOUSES) {
            for (int n = 0; n <= 60; n++) {
                DraughtsTake x = told(text);
                goOn(x, n);
                due(text + " behind " + n, airsAndSittersThen(told(text), n).equals(airsAndSitters(x)) ? 1 : 0, 1);
                int crowned = 0;
                for (int air = 0; air < x.count(0); air++) {
                    crowned += x.air(air, 4);
                }
                due(text + " behind " + n + ", CROWNED", told(text).then(n, 2), crowned);
            }
        }
    }

    private static void sixtyTurnsOn() {
        part("60 TURNS on");
        DraughtsTake x = leapBehind(59);
        due("the air behind 59, 60", x.airThen(0, 59) * 100 + x.airThen(0, 60), 3020);
        due("who is ON behind 58, 59, 60", x.then(58, 0) * 100 + x.then(59, 0) * 10 + x.then(60, 0), 310);
        due("TAKEN behind 59, 60", x.then(59, 1) * 10 + x.then(60, 1), 1);
        due("warm behind 59", x.warmThen(20, 59), bits(7f));
        due("warm behind 60", x.warmThen(20, 60), bits(4.5f));
        due("the first leap", x.leapt(60, 0) * 100 + x.leapt(60, 1), 160);
        due("none in 59", x.leapt(59, 0) * 100 + x.leapt(59, 1), 0);
        due("WHEN", x.when(0) * 100 + x.when(1), 6059);
        due("FIRST", x.when(-1), 1);
        x = leapBehind(60);
        due("the air behind 60", x.airThen(0, 60), 30);
        due("who is ON behind 60", x.then(60, 0), 1);
        due("none in 60", x.leapt(60, 0) * 100 + x.leapt(60, 1), 0);
        due("WHEN", x.when(0) * 100 + x.when(1), -840);
        due("FIRST", x.when(-1), 1);
        due("FIRST of those who are OFF behind 61", leapBehind(61).when(-1), -9);
        x = told("a00071;d02;d12;d14;p000;w0066;ls08;");
        due("CROWNED behind 0, 59, 60", x.then(0, 2) * 100 + x.then(59, 2) * 10 + x.then(60, 2), 1);
    }

    /** TURN may pass 999 in mind: what is seen there is what is seen from TURN 1. */
    private static void beyond999() {
        part("TURN above 999");
        Call[] calls = {x -> x.airThen(0, 60), x -> x.then(60, 0), x -> x.then(60, 1), x -> x.then(60, 2), x -> x.warmThen(20, 60),
            x -> x.warmThen(9, 1), x -> x.when(-1), x -> x.when(0), x -> x.when(1), x -> x.sit(0, 0), x -> x.sit(0, 1), x -> x.shut(0, 30),
            x -> x.most(30), x -> x.leapt(60, 0), x -> x.leapt(60, 1), x -> x.whatKind(0, 0), x -> x.whatKind(0, 1),
            x -> x.howCold(0, 99, 54), x -> x.two(0, 1, 30), x -> x.still(0, 7, 20, 0), x -> x.lots(20, 5, 0), x -> x.lots(20, 5, 1)};
        for (String text : HOUSES) {
            for (int k = 0; k < calls.length; k++) {
                long early = calls[k].applyAsLong(told("t01;" + text));
                DraughtsTake x = late(text);
                due("call " + k + " of " + text, calls[k].applyAsLong(x), early);
                due("TURN stays", x.count(2), 999);
            }
        }
        DraughtsTake storm = late("a60210;");
        due("TURN 1000 is even", storm.warmThen(16, 1), bits((16f * 0.75f - 0.5f) * 0.75f - 0.5f));
        due("TURN 1001 is odd", storm.warmThen(11, 2), bits((16f * 0.75f - 0.5f) * 0.75f - 1.5f));
        due("TURN 999 is odd", storm.howCold(0, 16, 7), 0b01000000);
    }

    /** What is thought of ahead of a call leaves nothing that shows in its answer or in what it does. */
    private static void leavesNothing() {
        part("in mind alone");
        Call[] thoughts = {x -> x.airThen(0, 59), x -> x.then(60, 0), x -> x.warmThen(0, 7), x -> x.when(-1), x -> x.when(0),
            x -> x.sit(0, 0), x -> x.sit(1, 1), x -> x.shut(0, 30), x -> x.most(30), x -> x.leapt(31, 0), x -> x.whatKind(0, 0),
            x -> x.whatKind(0, 1), x -> x.howCold(0, 9, 9), x -> x.two(0, 1, 29), x -> x.still(0, 7, 2, 0), x -> x.lots(3, 5, 0),
            x -> tell(x, "a00340;d35;w0099;lc;t09;x"), x -> tell(x, "a00340;d35;w0099;lc;t09;d36;")};
        Call[] calls = {x -> x.air(0, 2), x -> x.sitter(0, 0), x -> x.cell(14, 3), x -> x.comes(0, 0, 32), x -> x.sitsDown(32),
            x -> x.shuts(32), x -> x.warms(7, 3), x -> x.sits(0, 32), x -> x.blows(0, 2), x -> x.wraps(0, 4), x -> x.step(2, 4),
            DraughtsTake::clearHearth, x -> x.turns(2), DraughtsTake::back, x -> x.howCold(0, 12, 7), x -> x.coldest(-1),
            x -> x.coldest(14), x -> x.sum(0), x -> x.nearest(0, 0), x -> x.nearest(0, 1), x -> x.kinds(0), x -> x.wears(0, 0, 0),
            DraughtsTake::judge, DraughtsTake::image, DraughtsTake::restore, x -> x.lots(4, 4, 1), x -> x.when(-1),
            x -> x.whatKind(0, 0), x -> x.two(0, 1, 5), x -> x.still(0, 3, 3, 0), x -> x.count(4), x -> tell(x, "p320;t02;")};
        for (int c = 0; c < calls.length; c++) {
            DraughtsTake alone = thoughtful();
            long answer = calls[c].applyAsLong(alone);
            String left = Look.at(alone);
            for (int t = 0; t < thoughts.length; t++) {
                DraughtsTake x = thoughtful();
                thoughts[t].applyAsLong(x);
                due("call " + c + " behind thought " + t, calls[c].applyAsLong(x), answer);
                due("what call " + c + " left behind thought " + t, Look.at(x).equals(left) ? 1 : 0, 1);
            }
        }
    }

    private static DraughtsTake thoughtful() {
        DraughtsTake x = told("a64210;a03003;p141;p282;p090;ls04;t01;");
        x.pegs(0, 0, 1);
        x.hangs(0, 0, 1, 3);
        x.image();
        x.blows(0, 1);
        x.row(x.sitter(0, 2) == 1 ? x.sitter(0, 0) : 36);
        x.row(x.sitter(1, 2) == 1 ? x.sitter(1, 0) : 36);
        return x;
    }

    private static void when() {
        part("WHEN");
        for (int t = 1; t <= 61; t++) {
            String text = "p000;w00" + two(t + 7) + ";p011;w01" + two(Math.max(t, 9) + 7) + ";ls08;";
            due("behind " + t, told(text).when(0), t > 60 ? -9 : t);
            due("FIRST behind " + t, told(text).when(-1), t > 60 ? -9 : 0);
        }
        DraughtsTake x = told("p350;w3500;t01;p340;p330;w3408;w3308;ls08;");
        due("OFF now", x.when(0), 0);
        due("of two of those ON the least", x.when(-1), 1);
        x = told("p350;p340;p330;w3510;w3409;w3308;ls08;");
        due("the last is the first", x.when(-1), 2);
        due("all OFF now", told("p350;w3500;t01;").when(-1), -9);
        due("of six the last", told("p000;p010;p020;p030;p040;p050;w0507;").when(-1), 5);
    }

    private static void sit() {
        part("SIT");
        DraughtsTake x = told("p000;w0066;w3567;ls08;");
        due("60", x.sit(0, 0) * 100 + x.sit(0, 1), 3560);
        x = told("p000;w0067;w3568;ls08;");
        due("61: in none", x.sit(0, 0) * 100 + x.sit(0, 1), 3561);
        x = told("p070;w3567;w0667;w0767;ls08;");
        due("of three the least, ahead of his", x.sit(0, 0) * 100 + x.sit(0, 1), 660);
        x = told("p060;w3567;w0667;w0767;ls08;");
        due("of three the least is his", x.sit(0, 0), 6);
        x = told("p140;lg07l07;");
        due("too cold everywhere", x.sit(0, 0) * 100 + x.sit(0, 1), 1);
        x = told("a40200;p140;p150;d16;ls08;p170;w1700;t01;w2099;w1599;w1699;w1780;");
        due("not with an air, one ON, SHUT; where one is OFF", x.sit(0, 0), 17);
        x = told("p140;lg07l07;");
        for (int cell = 0; cell < 36; cell++) {
            x.shuts(cell);
        }
        due("no other cell is FREE", x.sit(0, 0) * 100 + x.sit(0, 1), 1401);
        due("nothing is changed", x.sitter(0, 0) * 10 + x.sitter(0, 2), 141);
    }

    private static void shut() {
        part("SHUT");
        DraughtsTake x = leapBehind(29);
        due("behind 29", x.shut(0, 29), 0);
        due("behind 30", x.shut(0, 30), -9);
        due("the other one behind 28", x.shut(1, 28), 0);
        due("the other one behind 29", x.shut(1, 29), -9);
        due("the leap is in turn 31", leapBehind(30).shut(0, 30), 0);
        x = told("a00240;p190;w1406;");
        due("0 TURNS", x.shut(0, 0), 0);
        due("one alone helps", x.shut(0, 1), 14);
        for (int cell = 0; cell < 35; cell++) {
            x.shuts(cell);
        }
        due("the last cell, with that one SHUT as it is", x.shut(0, 1), 35);
        x.shuts(35);
        due("none is FREE", x.shut(0, 1), -9);
        due("none is FREE, 0 TURNS", x.shut(0, 0), -9);
        x = told("p000;p350;w3500;t01;");
        x.shuts(1);
        due("of several the least", x.shut(0, 30), 2);
        due("the cell of one OFF", told("p000;w0000;t01;p140;").shut(1, 0), 0);
    }

    private static int onWithShut(String text, int cell, int n) {
        DraughtsTake x = told(text);
        x.shuts(cell);
        return Integer.bitCount(x.then(n, 0));
    }

    /** As MOST is told, with each FREE cell SHUT in a house of its own. */
    private static int most(String text, int n) {
        int best = -9;
        int on = Integer.bitCount(told(text).then(n, 0));
        for (int cell = 0; cell < 36; cell++) {
            if (told(text).cell(cell, 1) == 1 && onWithShut(text, cell, n) > on) {
                best = cell;
                on = onWithShut(text, cell, n);
            }
        }
        return best;
    }

    private static void mostOf() {
        part("MOST");
        String text = "a71333;a27020;p142;d07;";
        due("a cell is of use behind 30", most(text, 30) >= 0 ? 1 : 0, 1);
        due("none behind 29", most(text, 29), -9);
        for (int n = 0; n <= 30; n++) {
            due("behind " + n, told(text).most(n), most(text, n));
            due("of two, behind " + n, told("a00240;p190;a13293;p220;").most(n), most("a00240;p190;a13293;p220;", n));
        }
        due("0 TURNS", told("a00240;p190;").most(0), -9);
        due("1", told("a00240;p190;").most(1), 14);
        due("all are ON as it is", told("p190;").most(30), -9);
        due("no cell keeps more", leapBehind(29).most(30), -9);
        due("nobody", told("a00240;").most(30), -9);
        due("of two with as many the least", told("a00240;a00271;p190;p340;").most(1), 14);
        due("the last cell", told("a00211;p280;").most(1), 35);
        due("the first cell", told("a00143;p070;").most(1), 0);
    }

    private static void leapt() {
        part("LEAPT");
        DraughtsTake x = told("a69302;p259;lg99;");
        due("in the next turn none, then 9", x.leapt(1, 0) * 100 + x.leapt(1, 1), 0);
        due("behind 2", x.leapt(2, 0) * 100 + x.leapt(2, 1), 902);
        due("behind 60 still the first", x.leapt(60, 0) * 100 + x.leapt(60, 1), 902);
        x = told("a00302;p259;lg99;");
        due("1 in each of ten turns: the first of these", x.leapt(60, 0) * 100 + x.leapt(60, 1), 102);
        due("1 in the one turn", told("a00300;p250;").leapt(1, 1), 1);
        x.turns(5);
        due("TAKEN more, not TAKEN", x.count(3) * 1000 + x.leapt(1, 0) * 100 + x.leapt(1, 1), 4101);
        due("two airs together", told("a00300;p250;a00000;p070;").leapt(1, 0), 2);
    }

    private static int theSame(String[] houses, DraughtsTake x, int numbers) {
        int bits = 0;
        for (int k = 0; k < houses.length; k++) {
            boolean so = true;
            for (int n = 0; n < numbers; n++) {
                so &= told(houses[k]).airThen(0, n) == x.airThen(0, n);
            }
            bits |= so ? 1 << k : 0;
        }
        return bits;
    }

    private static void whatKind() {
        part("WHAT KIND");
        for (int kind = 0; kind < 8; kind++) {
            String rest = "302;p252;p159;p166;d08;lt18s01;";
            String[] byKind = new String[8];
            String[] byFigure = new String[10];
            for (int k = 0; k < 10; k++) {
                byFigure[k] = "a" + kind + k + rest;
                byKind[k % 8] = "a" + k % 8 + "3" + rest;
            }
            for (int numbers = 0; numbers <= 12; numbers++) {
                DraughtsTake x = told("a" + kind + "3" + rest);
                for (int n = 0; n < numbers; n++) {
                    x.row(x.airThen(0, n));
                }
                due("kinds like " + kind + ", " + numbers, x.whatKind(0, 0), theSame(byKind, x, numbers));
                due("figures like 3 of " + kind + ", " + numbers, x.whatKind(0, 1), theSame(byFigure, x, numbers));
                due("its own kind is one", x.whatKind(0, 0) >> kind & 1, 1);
                due("its own figure is one", x.whatKind(0, 1) >> 3 & 1, 1);
            }
        }
        DraughtsTake x = told("a00302;");
        due("no numbers", x.whatKind(0, 0) * 10000 + x.whatKind(0, 1), 2551023);
        x.row(30);
        due("one, as it is", x.whatKind(0, 0) * 10000 + x.whatKind(0, 1), 2551023);
        for (int n = 1; n < 11; n++) {
            x.row(x.airThen(0, n));
        }
        due("eleven, as they will be", x.whatKind(0, 0) * 10000 + x.whatKind(0, 1), 2551023);
        x.row((x.airThen(0, 11) + 1) % 36);
        due("the twelfth is not so", x.whatKind(0, 0) * 10000 + x.whatKind(0, 1), 0);
        due("the row stays", x.count(8), 12);
        rows(x, 29);
        due("the first is not so", x.whatKind(0, 0) * 10000 + x.whatKind(0, 1), 0);
        rows(x, 99);
        due("no cell", x.whatKind(0, 0) * 10000 + x.whatKind(0, 1), 0);
    }

    private static int cold(int kind, int f, boolean odd, float n) {
        float gust = n * 0.75f - 0.5f;
        float gale = gust * 0.75f - 0.5f;
        float[] made = {n * 0.75f, gust, n - f * 0.125f, gale, (int) (n - f * 0.125f), n / (f + 1), odd ? gale - 1f : gale,
            n * 0.5f + n / (f + 1) * 0.5f};
        return (int) made[kind];
    }

    private static void howCold() {
        part("HOW COLD");
        for (int turn = 0; turn < 2; turn++) {
            for (int figure = 0; figure < 10; figure++) {
                for (int n : new int[] {0, 1, 2, 8, 50, 98, 99}) {
                    DraughtsTake x = told("a4" + figure + "000;l;");
                    goOn(x, turn);
                    for (int v = -100; v <= 100; v++) {
                        int bits = 0;
                        for (int kind = 0; kind < 8; kind++) {
                            bits |= cold(kind, figure, turn == 1, n) == v ? 1 << kind : 0;
                        }
                        due("TURN " + turn + ", figure " + figure + ", " + n + " to " + v, x.howCold(0, n, v), bits);
                    }
                }
            }
        }
    }

    private static void twoOfThem() {
        part("TWO");
        String both = "p005;p015;w0199;";
        DraughtsTake x = told(both);
        x.warms(1, -1);
        due("5 and 5 are held to be 9: that is enough at -1", x.two(0, 1, 10), 10);
        due("the other way round", x.two(1, 0, 10), 1);
        x = told(both);
        x.warms(1, -2);
        due("it is not at -2", x.two(0, 1, 10), 11);
        x = told("p006;p013;");
        x.warms(1, -1);
        due("6 and 3 are 9", x.two(0, 1, 10), 10);
        // With a shawl in 7 he is ON in all of n turns, without it in none: giving is 2.
        x = told("p001;w0007;p010;");
        due("1 turn is less than 2 for giving", x.two(0, 1, 1), 11);
        due("2 turns are as much: the first pair", x.two(0, 1, 2), 1);
        due("3 are more", x.two(0, 1, 3), 1);
        // OFF behind 29 turns without his shawls, behind 32 with them: 28 turns and 2 for giving, or all of n.
        x = told("p003;w0036;p010;w0199;ls08;");
        due("29 turns are less than 28 and 2", x.two(0, 1, 29), 11);
        due("30 turns are as much", x.two(0, 1, 30), 1);
        x = told("p000;p010;");
        due("who gives nothing, gives", x.two(0, 1, 1) * 100 + x.two(0, 1, 30), 1111);
        x = told("p001;w0007;p011;w0107;");
        due("both keep", x.two(0, 1, 3), 0);
        due("both give: each has the other's", told("p001;w0007;p011;w0107;").two(0, 1, 1), 11);
        x = told("p009;p019;");
        x.warms(0, -1);
        x.warms(1, -1);
        due("9 for 9, with 2 more for each", x.two(0, 1, 30), 0);
        due("nothing is given indeed", x.sitter(0, 1) * 10 + x.sitter(1, 1), 99);
        due("no pair at all", told("a64210;p142;p282;").two(0, 1, 6), -9);
    }

    private static void fraction(String name, DraughtsTake x, int sitter, int n, int t, long above, long below) {
        due(name + ", above", x.still(sitter, n, t, 0), above);
        due(name + ", below", x.still(sitter, n, t, 1), below);
    }

    private static void still() {
        part("STILL");
        for (int t = 2; t <= 20; t++) {
            DraughtsTake x = told("a00240;p190;p359;p300;w3000;");
            long below = 1;
            for (int n = 0; n <= 7; n++) {
                fraction("all of " + n + " are still, 1 in " + t, x, 0, n, t, 1, below);
                fraction("no matter, " + n, x, 1, n, t, 1, 1);
                fraction("too cold behind 1, " + n, x, 2, n, t, n == 0 ? 1 : 0, 1);
                below *= t;
            }
        }
        DraughtsTake x = told("a00300;p200;");
        fraction("one of 2 at least, 1 in 2", x, 0, 2, 2, 3, 4);
        fraction("two of 3 at least, 1 in 2: 4 of 8", x, 0, 3, 2, 1, 2);
        fraction("two of 3 at least, 1 in 20: 58 of 8000", x, 0, 3, 20, 29, 4000);
        fraction("one of 2 at least, 1 in 3: 5 of 9", x, 0, 2, 3, 5, 9);
        fraction("nor is it CROWNED in a still turn", told("a00301;p250;"), 0, 2, 2, 3, 4);
        x = told("p140;w1400;t01;");
        fraction("OFF now, no turns", x, 0, 0, 2, 0, 1);
        fraction("OFF now", x, 0, 7, 20, 0, 1);
    }

    /** With draws by long numbers, each night told in letters. */
    private static void lotsOf(int z, int nights) {
        String sitters = "p092;p220;p149;";
        long seed = z;
        int taken = 0;
        int on = 0;
        for (int night = 0; night < nights; night++) {
            int[] ways = new int[2];
            for (int k = 0; k < 2; k++) {
                seed = (int) (seed * 1103515245L + 12345L);
                ways[k] = (int) ((seed & 0x7fffffffL) / 65536L % 4L);
            }
            DraughtsTake y = told("a00160;a13330;t01;" + sitters);
            y.blows(0, ways[0]);
            y.blows(1, ways[1]);
            taken -= y.count(3);
            y.turns(10);
            taken += y.count(3);
            on += Integer.bitCount(y.count(4));
        }
        DraughtsTake x = told("a00160;a13330;t01;" + sitters);
        due("TAKEN, seed " + z + ", nights " + nights, x.lots(nights, z, 0), taken);
        due("ON, seed " + z + ", nights " + nights, x.lots(nights, z, 1), on);
    }

    private static void lots() {
        part("LOTS");
        for (int z : new int[] {0, 1, -1, 5, MAX, MIN, 65535, 65536, -65536, 12345}) {
            for (int nights : new int[] {1, 2, 19, 20}) {
                lotsOf(z, nights);
            }
        }
        due("nobody there", new DraughtsTake().lots(20, 7, 0) + new DraughtsTake().lots(20, 7, 1), 0);
        // OFF behind 10 turns, or behind 11.
        due("10 TURNS", told("p000;w0017;ls08;").lots(20, 3, 1), 0);
        due("10 TURNS, no more", told("p000;w0018;ls08;").lots(20, 3, 1), 20);
        DraughtsTake x = told("a00302;p259;lg99;t05;");
        due("TAKEN more, each night from now", x.count(3) * 100 + x.lots(2, 1, 0), 412);
    }

    private static void judged() {
        part("JUDGED");
        Supplier<DraughtsTake> six = () -> told("p140;p150;w1500;p160;w1600;t01;p200;p210;p000;");
        int[] so = {14, 36, 36, 20, 21, 0, 36, 36, 36, 36, 36, 36};
        for (int many = 0; many <= 12; many++) {
            DraughtsTake x = six.get();
            for (int k = 0; k < many; k++) {
                x.row(so[k]);
            }
            due("the first " + many, x.judge(), many > 6 ? 6 : -9);
            due("none then", x.count(8), 0);
            due("none there", x.judge(), -9);
        }
        for (int wrong = 0; wrong < 6; wrong++) {
            for (int instead : new int[] {so[wrong] == 0 ? 1 : so[wrong] - 1, 37, 99, so[wrong] == 36 ? 15 + wrong - 1 : 36}) {
                DraughtsTake x = six.get();
                for (int k = 0; k < 6; k++) {
                    x.row(k == wrong ? instead : so[k]);
                }
                due(instead + " at " + wrong, x.judge(), wrong);
                due("none then", x.count(8), 0);
            }
        }
        DraughtsTake x = new DraughtsTake();
        x.row(36);
        due("no sitter", x.judge(), 0);
    }

    public static void main(String[] args) {
        asTheyGoBy();
        sixtyTurnsOn();
        beyond999();
        leavesNothing();
        when();
        sit();
        shut();
        mostOf();
        leapt();
        whatKind();
        howCold();
        twoOfThem();
        still();
        lots();
        judged();
        end("all that is thought of is as due");
    }
}
