/** For each promise, 1 to 46, calls whose answers are worked out by hand from the document: ordinary ones, edges, wrong ones. */
public final class PromisesTest extends Due {
    private static final int WARM_16 = Float.floatToIntBits(16f);

    private static void promises1To3() {
        part("promise 1");
        DraughtsTake x = new DraughtsTake();
        for (int what = 0; what < 10; what++) {
            due("count " + what, x.count(what), 0);
        }
        for (int cell = 0; cell < 36; cell++) {
            due("warm " + cell, x.warm(cell), WARM_16);
            due("free " + cell, x.cell(cell, 1), 1);
        }
        for (int peg = 0; peg < 3; peg++) {
            due("peg " + peg, x.coat(peg, 0), -11);
        }
        due("restore", x.restore(), -3);

        part("promise 2");
        x = new DraughtsTake();
        due("a letter", x.feed(0), 1);
        due("the greatest", x.feed(255), 2);
        due("above it", x.feed(256), -6);
        due("below 0", x.feed(-1), -4);
        due("far below 0", x.feed(Integer.MIN_VALUE), -4);
        for (int k = 3; k <= 96; k++) {
            due("letter " + k, x.feed('a'), k);
        }
        due("one too many", x.feed('a'), -6);
        due("below, with no room", x.feed(-1), -4);
        due("letters", x.count(7), 96);
        due("rooms", x.count(16), 2);
        due("belows", x.count(14), 3);

        part("promise 3");
        faultsOfKind1();
        faultsOfKind2();
        x = told("a17223;p149;d03;w0099;lt20m15c;t01;d04;d04;");
        due("letters", x.count(7), 0);
        due("kind", x.air(0, 0), 1);
        due("figure", x.air(0, 1), 7);
        due("way 3 from 22 over free 15", x.air(0, 2), 15);
        due("way", x.air(0, 3), 3);
        due("shawls", x.sitter(0, 1), 9);
        due("shut", x.cell(3, 0), 1);
        due("shut twice", x.cell(4, 0), 0);
        due("steps", x.count(5), 3);
        due("turn", x.count(2), 1);
        due("warm 99 by t 20, m 15, c", x.warm(0), bits(83f));
        due("the hearth is told anew", tell(x, "lg10;"), 1);
        due("steps then", x.count(5), 1);
        due("no steps", tell(x, "l;"), 1);
        due("steps then", x.count(5), 0);
        x.turns(1);
        due("nothing but a fault", tell(x, "w0010;x"), -1006);
        due("what can be taken back with a fault", x.count(9), 1);
        due("nothing came", x.cell(0, 4), 83);
        due("what can be taken back without", tell(x, "w0010;"), 1);
        due("none", x.count(9), 0);
        due("no refusals of faults", x.count(11) + x.count(12) + x.count(13) + x.count(14) + x.count(16), 0);
    }

    private static void faultsOfKind1() {
        String[] texts = {"", "x", "a", "a0", "a00211", "a00211a", "p14;", "p140", "d3;", "d03;;", "w00", "w00100;", "t1;", "t011;",
            "lz;", "lc", "lt2;", "lt20", "lt201;", "lc0;", "lct05g;", "P140;", "l;x", "t01;t"};
        int[] places = {0, 0, 1, 2, 6, 6, 3, 4, 2, 4, 3, 5, 2, 3, 1, 2, 3, 4, 4, 2, 6, 0, 2, 5};
        for (int k = 0; k < texts.length; k++) {
            due("fault in " + texts[k], tell(new DraughtsTake(), texts[k]), -1000 - places[k]);
        }
        due("96 letters", tell(new DraughtsTake(), "l;".repeat(48)), 48);
        due("95 letters and a p", tell(new DraughtsTake(), "d03;".repeat(23) + "lc;" + "p"), -1096);
    }

    private static void faultsOfKind2() {
        String[] texts = {"a80000;", "a00360;", "a00004;", "p360;", "d36;", "w3600;", "t00;", "t61;", "lccccccc;", "lcccccc;lccccccc;",
            "d14;p140;", "p140;d14;", "a00140;d14;", "p140;p140;", "d14;a00140;", "a00000;a00010;a00020;a00030;a00040;a00050;",
            "p000;p010;p020;p030;p040;p050;p060;", "w0010;w3610;x"};
        int[] places = {0, 0, 0, 0, 0, 0, 0, 0, 0, 8, 4, 5, 7, 5, 4, 35, 30, -1};
        for (int k = 0; k < texts.length; k++) {
            // The last text has a fault of each kind: the one of letters is told.
            int want = places[k] < 0 ? -1012 : -2000 - places[k];
            DraughtsTake x = new DraughtsTake();
            due("fault in " + texts[k], tell(x, texts[k]), want);
            due("nothing of it", x.count(0) + x.count(1) + x.count(2) + x.count(5) + x.count(6), 0);
            due("no warm of it", x.warm(0), WARM_16);
        }
        due("the greatest of all", tell(new DraughtsTake(), "a79353;p349;d33;w3599;t60;lcccccc;"), 6);
        DraughtsTake x = new DraughtsTake();
        for (int k = 0; k < 16; k++) {
            x.turns(60);
        }
        due("turn 1000", tell(x, "t39;t01;"), -2004);
        due("turn 999", tell(x, "t39;"), 1);
        due("turn", x.count(2), 999);
        due("the cell of one off is empty", tell(told("p160;w1600;t01;"), "d16;"), 1);
    }

    private static void promises4To7() {
        part("promise 4");
        int[] leaps7 = {1, 3, 1, 6, 0, 3, 7, 2};
        int[] leaps1 = {1, 1, 1, 2, 0, 0, 3, 0};
        for (int kind = 0; kind < 8; kind++) {
            DraughtsTake x = new DraughtsTake();
            x.comes(kind, 7, 8);
            x.comes(kind, 1, 9);
            due("kind", x.air(0, 0), kind);
            due("figure", x.air(1, 1), 1);
            due("leaps of " + kind + " with 7", x.air(0, 5), leaps7[kind]);
            due("leaps of " + kind + " with 1", x.air(1, 5), leaps1[kind]);
        }
        DraughtsTake x = told("a05302;");
        due("cell", x.air(0, 2), 30);
        due("way", x.air(0, 3), 2);
        due("not crowned at first, in row 5, too", x.air(0, 4), 0);
        x.turns(1);
        due("crowned as it stays in row 5", x.air(0, 4), 1);
        due("no such air", x.air(1, 0), -1);
        due("below", x.air(-1, 9), -1);
        due("no such what", x.air(0, 6), -2);
        due("what below", x.air(0, -1), -2);

        part("promise 5");
        x = told("p147;p200;w2005;t01;");
        due("cell", x.sitter(0, 0), 14);
        due("shawls", x.sitter(0, 1), 7);
        due("on", x.sitter(0, 2), 1);
        due("cell of one off", x.sitter(1, 0), 20);
        due("off", x.sitter(1, 2), 0);
        due("no such sitter", x.sitter(2, 0), -1);
        due("below", x.sitter(-1, 5), -1);
        due("no such what", x.sitter(0, 3), -2);
        due("what below", x.sitter(0, -1), -2);

        part("promise 6");
        x = told("a00071;p080;d09;w1000;p110;w1100;w1207;lm08;");
        due("shut", x.cell(9, 0), 1);
        due("not shut", x.cell(8, 0), 0);
        due("not free: an air", x.cell(7, 1), 0);
        due("not free: a sitter", x.cell(8, 1), 0);
        due("not free: shut", x.cell(9, 1), 0);
        due("free", x.cell(10, 1), 1);
        due("the air", x.cell(7, 2), 0);
        due("no air", x.cell(8, 2), -9);
        due("the sitter", x.cell(8, 3), 0);
        due("no sitter", x.cell(7, 3), -9);
        x.turns(1);
        due("free: he is off", x.cell(11, 1), 1);
        due("no sitter: he is off", x.cell(11, 3), -9);
        due("3.5, cut", x.cell(12, 4), 3);
        x.warms(12, -7);
        x.turns(1);
        due("-3.5, cut", x.cell(12, 4), -3);
        due("no such cell", x.cell(36, 0), -1);
        due("below", x.cell(-1, 9), -1);
        due("no such what", x.cell(0, 5), -2);
        due("what below", x.cell(0, -1), -2);

        part("promise 7");
        x = told("w0099;w0103;lm01;t01;");
        due("99 over 16", x.warm(0), bits(99f / 16f));
        due("3 over 16", x.warm(1), bits(3f / 16f));
        due("16 over 16", x.warm(2), bits(1f));
        due("no such cell", x.warm(36), 0);
        due("below", x.warm(-1), 0);
        due("no refusal", x.count(11), 0);
        smallWarms();
    }

    /** By 1 over 16 a turn, down through the floats below the least normal one, to both zeros. */
    private static void smallWarms() {
        DraughtsTake x = told("w0077;lm01;");
        x.warms(1, -77);
        float above = 77f;
        float below = -77f;
        for (int k = 0; k < 45; k++) {
            x.turns(1);
            above = above * (1f / 16f);
            below = below * (1f / 16f);
            due("small " + k, x.warm(0), bits(above));
            due("small below " + k, x.warm(1), bits(below));
        }
        due("the zero above", x.warm(0), 0);
        due("the zero below", x.warm(1), 0x80000000);
        due("the zero below, cut by a step", tell(x, "lc;t01;"), 2);
        due("is the one above", x.warm(1), 0);
        x = told("lm00g00l00;");
        x.warms(1, -77);
        x.turns(1);
        due("the zero below is not below 0, nor above it", x.warm(1), 0x80000000);
    }

    private static void promises8To12() {
        part("promise 8");
        DraughtsTake x = told("p080;d09;");
        due("an air", x.comes(7, 9, 35), 0);
        due("no such kind", x.comes(8, -1, 36), -2);
        due("kind below", x.comes(-1, 0, 0), -2);
        due("figure below", x.comes(0, -1, 36), -4);
        due("figure above", x.comes(0, 10, 36), -6);
        due("no such cell", x.comes(0, 0, 36), -1);
        due("cell below", x.comes(0, 0, -1), -1);
        due("an air is there", x.comes(0, 0, 35), -3);
        due("a sitter is there", x.comes(0, 0, 8), -3);
        due("it is shut", x.comes(0, 0, 9), -3);
        x.blows(0, 2);
        for (int k = 1; k < 5; k++) {
            due("air " + k, x.comes(k, k, k), k);
        }
        due("way at first", x.air(1, 3), 0);
        due("crowned at first", x.air(1, 4), 0);
        due("none to take back", x.count(9), 0);
        due("the sixth", x.comes(0, 0, 36), -6);
        due("the sixth, kind first", x.comes(9, 0, 36), -2);

        part("promise 9");
        x = told("a00000;d01;");
        due("a sitter", x.sitsDown(35), 0);
        due("no shawls", x.sitter(0, 1), 0);
        due("on", x.sitter(0, 2), 1);
        due("no such cell", x.sitsDown(36), -1);
        due("below", x.sitsDown(-1), -1);
        due("an air is there", x.sitsDown(0), -3);
        due("it is shut", x.sitsDown(1), -3);
        due("he is there", x.sitsDown(35), -3);
        x.shuts(1);
        for (int k = 1; k < 6; k++) {
            due("sitter " + k, x.sitsDown(k), k);
        }
        due("none to take back", x.count(9), 0);
        due("the seventh", x.sitsDown(0), -6);
        due("the seventh, no cell", x.sitsDown(36), -1);

        part("promise 10");
        x = told("a00000;p010;p020;w0200;t01;");
        due("shut", x.shuts(35), 1);
        due("it is", x.cell(35, 0), 1);
        due("no more", x.shuts(35), 0);
        due("a sitter is there", x.shuts(1), -3);
        due("an air is there", x.shuts(x.air(0, 2)), -3);
        due("one off is there", x.shuts(2), 1);
        due("no such cell", x.shuts(36), -1);
        due("below", x.shuts(-1), -1);
        due("can be taken back", x.count(9), 3);

        part("promise 11");
        x = told("w0099;lm01;t01;");
        due("6.1875, cut", x.warms(0, -100), 6);
        due("the least", x.warms(0, 100), -100);
        due("the greatest", x.warms(0, 0), 100);
        due("warm", x.warm(0), 0);
        due("below", x.warms(0, -101), -4);
        due("above", x.warms(0, 101), -6);
        due("no such cell", x.warms(36, 101), -1);
        due("can be taken back", x.count(9), 3);

        part("promise 12");
        x = told("p140;p150;d16;a00170;w1500;t01;");
        due("where he was", x.sits(0, 0), 14);
        due("where he is", x.sitter(0, 0), 0);
        due("off", x.sitter(1, 2), 0);
        due("on his own cell again", x.sits(1, 15), 15);
        due("on", x.sitter(1, 2), 1);
        due("the other one as well", x.count(4), 3);
        due("his own cell, on", x.sits(1, 15), -3);
        due("shut", x.sits(1, 16), -3);
        due("an air is there", x.sits(1, x.air(0, 2)), -3);
        due("no such sitter", x.sits(2, 0), -1);
        due("no such cell", x.sits(0, 36), -1);
        due("cell below", x.sits(0, -1), -1);
        due("can be taken back", x.count(9), 2);
    }

    private static void promises13To18() {
        part("promise 13");
        DraughtsTake x = told("a00211;");
        due("the old", x.blows(0, 3), 1);
        due("way 3 goes to 14", x.airThen(0, 1), 14);
        due("way 0 goes to 16", x.blows(0, 0) * 100 + x.airThen(0, 1), 316);
        due("way 1 goes to 28", x.blows(0, 1) * 100 + x.airThen(0, 1), 28);
        due("way 2 goes to 26", x.blows(0, 2) * 100 + x.airThen(0, 1), 126);
        due("no such way", x.blows(0, 4), -2);
        due("way below", x.blows(0, -1), -2);
        due("no such air", x.blows(1, 4), -1);
        due("can be taken back", x.count(9), 4);

        part("promise 14");
        x = told("p144;");
        due("how many there were", x.wraps(0, 9), 4);
        due("how many there were", x.wraps(0, 0), 9);
        due("shawls", x.sitter(0, 1), 0);
        due("below", x.wraps(0, -1), -4);
        due("above", x.wraps(0, 10), -6);
        due("no such sitter", x.wraps(1, -1), -1);
        due("can be taken back", x.count(9), 2);
        theCold();

        part("promise 15");
        theSteps();

        part("promise 16");
        x = told("lg20c;");
        due("how many it had", x.clearHearth(), 2);
        due("none", x.clearHearth(), 0);
        due("can be taken back", x.count(9), 2);
        x.turns(1);
        due("as it was", x.warm(0), WARM_16);
        x.back();
        x.back();
        x.back();
        due("taken back", x.count(5), 2);

        part("promise 17");
        turnsOfOneAir();
        leaps();
        chills();
        x = new DraughtsTake();
        due("below", x.turns(0), -4);
        due("above", x.turns(61), -6);
        for (int k = 0; k < 16; k++) {
            x.turns(60);
        }
        due("turn above 999", x.turns(40), -6);
        due("turn 999", x.turns(39), 0);
        due("turn", x.count(2), 999);
        due("no more", x.turns(1), -6);

        part("promise 18");
        takenBack();
    }

    /** One is off, if his cell is below 8 less his shawls. */
    private static void theCold() {
        DraughtsTake x = told("p003;p013;p029;w0005;w0104;p040;w0408;p050;w0507;");
        x.warms(2, -1);
        x.turns(1);
        due("5 with 3 shawls, 4 with 3, -1 with 9, 8 and 7 with none", x.count(4), 0b01101);
        x.warms(2, -2);
        x.turns(1);
        due("-2 with 9", x.count(4), 0b01001);
    }

    private static void theSteps() {
        int[] n = {20, 15, 9, 5, 20, 10, 77};
        float[] made = {16f + (20f - 16f) * 0.125f, 16f * (15f / 16f), 16f + 9f / 8f, 16f - 5f / 8f, 20f, 10f, 16f};
        for (int step = 0; step < 7; step++) {
            DraughtsTake x = new DraughtsTake();
            due("a step", x.step(step, n[step]), 1);
            due("can be taken back", x.count(9), 1);
            x.turns(1);
            due("step " + step, x.warm(0), bits(made[step]));
        }
        DraughtsTake x = new DraughtsTake();
        x.step(4, 16);
        x.step(5, 16);
        x.turns(1);
        due("not below, not above", x.warm(0), WARM_16);
        x = told("w0015;ls05g10c;t01;");
        due("14.375, then cut", x.warm(0), bits(14f));
        x = told("lm99m99m08;t01;");
        due("held behind the last step only", x.warm(0), bits(100f));
        x = told("lm99m99l20;t01;");
        due("far above between two steps", x.warm(0), bits(20f));
        x = new DraughtsTake();
        x.warms(0, -100);
        x.step(3, 99);
        x.turns(1);
        due("held below", x.warm(0), bits(-100f));
        x = new DraughtsTake();
        due("no such step", x.step(7, -1), -2);
        due("step below", x.step(-1, 0), -2);
        due("n below", x.step(0, -1), -4);
        due("n above", x.step(0, 100), -6);
        for (int k = 1; k <= 6; k++) {
            due("step " + k, x.step(0, 99), k);
        }
        due("the seventh", x.step(0, 0), -6);
        due("the seventh, below", x.step(0, -1), -4);
    }

    private static void turnsOfOneAir() {
        DraughtsTake x = told("a00210;");
        int[] cells = {16, 11, 11, 16, 21, 26, 31, 24, 19};
        int[] ways = {0, 0, 2, 2, 2, 2, 2, 3, 0};
        int[] crowned = {0, 0, 0, 0, 0, 0, 1, 1, 1};
        for (int k = 0; k < 7; k++) {
            due("taken", x.turns(1), 0);
            due("cell behind " + (k + 1), x.air(0, 2), cells[k]);
            due("way behind " + (k + 1), x.air(0, 3), ways[k]);
            due("crowned behind " + (k + 1), x.air(0, 4), crowned[k]);
        }
        due("came to 16 twice", x.warm(16), bits(9f));
        due("came to 21 once", x.warm(21), bits(12f));
        x.turns(1);
        due("out of row 5 by way 3", x.air(0, 2), cells[7]);
        due("way", x.air(0, 3), ways[7]);
        x.turns(1);
        due("from the edge by way 0", x.air(0, 2), cells[8]);
        due("way", x.air(0, 3), ways[8]);
        due("crowned for good", x.air(0, 4), 1);
        x = told("a00210;d16;d28;t01;");
        due("both of its ways are shut", x.air(0, 2) * 10 + x.air(0, 3), 212);
        x = told("a00060;a00122;d07;t01;");
        due("it went by way 0, to row 0", x.air(0, 2) * 10 + x.air(0, 4), 11);
        due("outside all ways but one", x.air(1, 2) * 10 + x.air(1, 3), 120);
        x = told("a00280;a00350;d22;t01;");
        due("one goes to 23, the other one turns in its corner", x.air(0, 2) * 1000 + x.air(1, 2) * 10 + x.air(1, 3), 23352);
        x = told("a00280;a00161;d21;t01;");
        due("the first has 23, the second turns", x.air(0, 2) * 1000 + x.air(1, 2) * 10 + x.air(1, 3), 23163);
    }

    private static void leaps() {
        DraughtsTake x = told("a13300;p250;p150;");
        due("two at once", x.turns(1), 2);
        due("both off", x.count(4), 0);
        due("on the place behind the second", x.air(0, 2), 10);
        due("warm of the first place behind", x.warm(20), bits(11.5f));
        due("warm of the second", x.warm(10), bits(11.5f));
        due("not of what is leapt over", x.warm(25), WARM_16);
        x = told("a00300;p251;p150;");
        due("a draught leaps once", x.turns(1), 1);
        due("shawls 1 less, still on", x.sitter(0, 1) * 10 + x.sitter(0, 2), 1);
        due("it does not go on", x.air(0, 2), 20);
        due("and again", x.turns(1), 2);
        due("the second is off", x.sitter(1, 2), 0);
        x = told("a49300;p250;");
        due("a cellar never leaps", x.turns(5), 0);
        x = told("a00300;p250;d20;");
        due("no place behind", x.turns(1), 0);
        due("it turns", x.air(0, 3), 2);
        x = told("a00060;p010;");
        due("outside is behind", x.turns(1), 0);
        x = told("a00140;p210;p090;d04;");
        due("the first way has none behind: the next", x.turns(1), 1);
        due("there", x.air(0, 2) * 10 + x.air(0, 3), 281);
        x = told("a00140;p190;p070;t01;");
        due("way 2 and 3 only if crowned", x.count(3), 0);
        x = told("a00340;t01;p010;");
        due("crowned it is none of these", x.count(3), 0);
        crownedLeaps();
    }

    /** Crowned in 31, with one behind it by way 3 more. */
    private static void crownedLeaps() {
        DraughtsTake x = told("a00262;t01;");
        due("in row 5, crowned", x.air(0, 2) * 10 + x.air(0, 4), 311);
        x.blows(0, 1);
        tell(x, "p260;");
        due("by the way 3 more", x.turns(1), 1);
        due("there", x.air(0, 2) * 10 + x.air(0, 3), 210);
        x = told("a00262;t01;");
        x.blows(0, 1);
        due("walks by the way 2 more", x.turns(1) + x.air(0, 2) * 10 + x.air(0, 3), 243);
    }

    private static void chills() {
        float w = 30f;
        float gale = (w * 0.75f - 0.5f) * 0.75f - 0.5f;
        float[] odd = {22.5f, 22f, w - 5 * 0.125f, gale, 29f, w / 6f, gale - 1f, 15f + w / 6f * 0.5f};
        for (int kind = 0; kind < 8; kind++) {
            DraughtsTake x = told("a" + kind + "5210;w1630;t01;");
            due("kind " + kind + " in an odd turn", x.warm(16), bits(odd[kind]));
            x = told("t01;a" + kind + "5210;w1630;t01;");
            due("kind " + kind + " in an even turn", x.warm(16), bits(kind == 6 ? gale : odd[kind]));
        }
        DraughtsTake x = told("a20210;lg99a99;");
        x.turns(1);
        due("held, then chilled by nothing", x.warm(16), bits(100f));
        x = told("a29210;");
        x.warms(16, -100);
        x.turns(1);
        due("chilled, then held", x.warm(16), bits(-100f));
    }

    private static void takenBack() {
        DraughtsTake x = told("p140;a00300;");
        due("none", x.back(), -3);
        x.shuts(0);
        x.warms(1, 5);
        x.sits(0, 25);
        x.blows(0, 1);
        x.wraps(0, 3);
        x.step(0, 20);
        x.turns(3);
        x.clearHearth();
        due("8", x.count(9), 8);
        x.blows(0, 2);
        due("8 at most", x.count(9), 8);
        due("blows", x.back(), 7);
        due("clearHearth", x.back() * 10 + x.count(5), 61);
        due("turns", x.back() * 10 + x.count(2), 50);
        due("warm of them", x.warm(2), WARM_16);
        due("step", x.back() * 10 + x.count(5), 40);
        due("wraps", x.back() * 10 + x.sitter(0, 1), 30);
        due("blows", x.back() * 10 + x.air(0, 3), 20);
        due("sits", x.back() * 100 + x.sitter(0, 0), 114);
        due("warms", x.back() * 100 + x.cell(1, 4), 16);
        due("no more", x.back(), -3);
        due("the oldest is for good", x.cell(0, 0), 1);
        x = told("p140;");
        x.pegs(0, 0, 2);
        x.hangs(0, 0, 2, 3);
        x.wears(0, 0, 0);
        due("wears", x.back(), 0);
        due("no shawls", x.sitter(0, 1), 0);
        due("but the peg", x.coat(0, 0), -15);
        x.wraps(0, 0);
        due("all stayed, it counts", x.back(), 0);
        x.wraps(0, 10);
        x.turns(0);
        due("refused ones do not", x.count(9), 0);
        x.wraps(0, 1);
        x.comes(0, 0, 14);
        x.sitsDown(14);
        x.restore();
        due("refused ones leave all", x.count(9), 1);
        x.image();
        due("an image leaves all", x.count(9), 1);
        x.restore();
        due("a restored one leaves none", x.count(9), 0);
    }

    private static void promises19To22() {
        part("promise 19");
        DraughtsTake x = told("a00210;");
        int[] cells = {21, 16, 11, 11, 16, 21, 26, 31, 24, 19};
        for (int n = 0; n < 10; n++) {
            due("behind " + n, x.airThen(0, n), cells[n]);
        }
        due("as it was", x.air(0, 2) * 10 + x.count(2), 210);
        due("the most is answered", x.airThen(0, 60) >= 0 ? 1 : 0, 1);
        due("below", x.airThen(0, -1), -4);
        due("above", x.airThen(0, 61), -6);
        due("no such air", x.airThen(1, 61), -1);

        part("promise 20");
        x = told("a13300;p250;p150;p350;");
        due("on now", x.then(0, 0), 7);
        due("on then", x.then(1, 0), 4);
        due("taken then", x.then(1, 1), 2);
        due("taken now", x.then(0, 1), 0);
        due("crowned behind 1", x.then(1, 2), 0);
        due("crowned behind 2, in row 0", x.then(2, 2), 1);
        due("nothing went by", x.count(2) + x.count(3), 0);
        due("below", x.then(-1, 3), -4);
        due("above", x.then(61, 3), -6);
        due("no such what", x.then(60, 3), -2);
        due("what below", x.then(0, -1), -2);
        x = told("a63300;p250;");
        for (int k = 0; k < 16; k++) {
            x.turns(60);
        }
        due("turn may pass 999", x.then(60, 0), x.count(4));

        part("promise 21");
        x = told("a00210;lt20;");
        due("now", x.warmThen(16, 0), WARM_16);
        due("behind 1", x.warmThen(16, 1), bits((16f + 4f * 0.125f) * 0.75f));
        due("no such cell", x.warmThen(36, 1), 0);
        due("cell below", x.warmThen(-1, 1), 0);
        due("n below", x.warmThen(0, -1), 0);
        due("n above", x.warmThen(0, 61), 0);
        due("no refusals", x.count(11) + x.count(14) + x.count(16), 0);

        part("promise 22");
        x = told("a00240;p099;p190;w3510;p350;ls01;");
        due("leapt over at once", x.when(1), 1);
        due("first", x.when(-1), 1);
        due("10 less 17 eighths is below 8", x.when(2), 17);
        x = told("p000;p010;w0000;w0100;p020;t01;p030;w0307;p040;w0407;");
        due("off now", x.when(0), 0);
        due("never", x.when(2), -9);
        due("first of those on, the least of two", x.when(-1), 3);
        due("none such", x.when(5), -1);
        due("below -1", x.when(-2), -1);
        due("first of none", new DraughtsTake().when(-1), -9);
        x = told("p000;w0067;ls08;");
        due("behind 60", x.when(0), 60);
        due("first behind 60", x.when(-1), 0);
        x.warms(0, 68);
        due("behind 61 is never", x.when(0), -9);
        due("first is nobody", x.when(-1), -9);
    }

    private static void promises23To26() {
        part("promise 23");
        DraughtsTake x = told("p140;w0190;ls08;");
        due("the warmest", x.sit(0, 0), 1);
        due("in none of 60", x.sit(0, 1), 61);
        x.warms(1, 16);
        x.warms(20, 17);
        x.warms(21, 17);
        due("of several the least", x.sit(0, 0), 20);
        due("behind 10 it is 7", x.sit(0, 1), 10);
        x.warms(14, 18);
        due("his own", x.sit(0, 0), 14);
        due("cell 0", told("p140;w0099;ls99;").sit(0, 0), 0);
        due("60 and, further on, never", told("p000;w0067;w0168;w0067;ls08;").sit(0, 0), 1);
        x.shuts(3);
        x.warms(3, 50);
        due("a shut cell is none", x.sit(0, 0), 14);
        due("still there", x.sitter(0, 0), 14);
        tell(x, "w1400;t01;");
        due("he is off", x.sit(0, 0), -3);
        due("no such what", x.sit(0, 2), -2);
        due("what below", x.sit(0, -1), -2);
        due("no such sitter", x.sit(1, 2), -1);

        part("promise 24");
        x = told("a00240;p190;p000;d01;");
        due("the place behind is shut", x.shut(0, 1), 14);
        due("0 turns: the least that is free", x.shut(0, 0), 2);
        due("one never off", x.shut(1, 30), 2);
        due("cell 0", told("p140;").shut(0, 30), 0);
        x.warms(19, 5);
        due("none keeps him", x.shut(0, 1), -9);
        due("below", x.shut(0, -1), -4);
        due("above", x.shut(0, 31), -6);
        due("no such sitter", x.shut(2, 31), -1);
        x.turns(1);
        due("off, below", x.shut(0, -1), -4);
        due("off", x.shut(0, 1), -3);
        due("none is shut by it", x.count(6), 1);

        part("promise 25");
        x = told("a00240;p190;a00300;p250;");
        due("19 is leapt over to 14, 25 to 20: of two the least", x.most(1), 14);
        due("0 turns", x.most(0), -9);
        due("cell 0", told("a00143;p070;").most(1), 0);
        x = told("a13240;p190;p090;p350;");
        due("14 keeps two", x.most(1), 14);
        due("nobody is lost", told("p000;").most(30), -9);
        due("below", x.most(-1), -4);
        due("above", x.most(31), -6);

        part("promise 26");
        x = told("a13300;p250;p150;");
        due("two at once", x.leapt(1, 0), 2);
        due("behind one", x.leapt(60, 1), 1);
        x = told("a00010;");
        due("nobody", x.leapt(60, 0) * 10 + x.leapt(60, 1), 0);
        x = told("a00301;a00200;p259;");
        due("first behind", x.leapt(60, 0), 1);
        due("taken is more there", x.then(x.leapt(60, 1), 1) - x.then(x.leapt(60, 1) - 1, 1), 1);
        due("and not ahead of it", x.then(x.leapt(60, 1) - 1, 1), 0);
        due("below", x.leapt(0, 2), -4);
        due("above", x.leapt(61, 2), -6);
        due("no such what", x.leapt(60, 2), -2);
        due("what below", x.leapt(1, -1), -2);
    }

    private static void promises27To30() {
        part("promise 27");
        DraughtsTake x = told("a03300;p251;p150;");
        due("no row: all kinds", x.whatKind(0, 0), 255);
        due("no row: all figures", x.whatKind(0, 1), 1023);
        rows(x, 30, 20);
        due("who leaps once with 3: draught, sigh, flue", x.whatKind(0, 0), 0b00100101);
        due("a draught with any figure", x.whatKind(0, 1), 1023);
        rows(x, 30, 10);
        due("who leaps twice: gust, gale, storm", x.whatKind(0, 0), 0b01001010);
        due("the row stays", x.count(8), 2);
        due("it is as it was", x.air(0, 0) * 10 + x.air(0, 1), 3);
        rows(x, 29);
        due("not so behind 0", x.whatKind(0, 0), 0);
        x = told("a13300;p251;p150;");
        rows(x, 30, 20);
        due("a gust with figures that leap once", x.whatKind(0, 1), 0b0000000111);
        due("no such air", x.whatKind(1, 2), -1);
        due("no such what", x.whatKind(0, 2), -2);
        due("what below", x.whatKind(0, -1), -2);

        part("promise 28");
        x = told("a05210;");
        due("30: 22.5, 22", x.howCold(0, 30, 22), 0b00000011);
        due("30: 29.375, 29", x.howCold(0, 30, 29), 0b00010100);
        due("30: 16, 16", x.howCold(0, 30, 16), 0b01001000);
        due("30: 15 and 2.5", x.howCold(0, 30, 17), 0b10000000);
        due("30 over 6", x.howCold(0, 30, 5), 0b00100000);
        x.turns(1);
        due("a storm in an odd turn", x.howCold(0, 30, 15), 0b01000000);
        due("0: 0, -0.5, -0.625, -0.875, 0, 0, 0; a storm -1", x.howCold(0, 0, 0), 0b10111111);
        due("-1.875", x.howCold(0, 0, -1), 0b01000000);
        due("the greatest", x.howCold(0, 99, 100), 0);
        due("n below", x.howCold(0, -1, 101), -4);
        due("v below", x.howCold(0, 100, -101), -4);
        due("n above", x.howCold(0, 100, 0), -6);
        due("v above", x.howCold(0, 0, 101), -6);
        due("the least", x.howCold(0, 0, -100), 0);
        due("no such air", x.howCold(1, -1, 0), -1);

        part("promise 29");
        theTwo();

        part("promise 30");
        theStill();
    }

    private static void theTwo() {
        DraughtsTake x = told("p000;p010;");
        due("giving nothing is 2 more", x.two(0, 1, 5), 11);
        // With 7 in cell 0, a sitter needs one shawl there; giving it to the other costs the 5 turns.
        x = told("p001;w0007;p010;");
        due("he keeps what he needs, the other gives nothing", x.two(0, 1, 5), 1);
        due("in one turn giving is more", x.two(0, 1, 1), 11);
        due("the other way round", x.two(1, 0, 5), 10);
        x = told("p004;w0005;p014;w0105;");
        due("both need three: both keep", x.two(0, 1, 30), 0);
        // The one has what only the other needs.
        x = told("p000;p011;w0107;");
        due("the needy keeps", x.two(0, 1, 30), 10);
        due("a storm near to both: no pair at all", told("a64210;p142;p282;").two(0, 1, 6), -9);
        due("both keep", told("p093;p024;lt00;").two(0, 1, 8), 0);
        due("the other gives", told("p025;p251;lt00;").two(0, 1, 8), 1);
        due("the one gives", told("p301;p264;lt00;").two(0, 1, 8), 10);
        due("one twice", x.two(0, 0, 30), -1);
        due("no such one", x.two(2, 0, 0), -1);
        due("no such other", x.two(0, 2, 0), -1);
        due("below", x.two(0, 1, 0), -4);
        due("above", x.two(0, 1, 31), -6);
        tell(x, "w0000;t01;");
        due("the one is off", x.two(0, 1, 1), -3);
        due("the other is off", x.two(1, 0, 1), -3);
        due("off, above", x.two(1, 0, 31), -6);
    }

    private static void theStill() {
        DraughtsTake x = told("a00240;p190;");
        due("1 in 2 still", x.still(0, 1, 2, 0), 1);
        due("of 2", x.still(0, 1, 2, 1), 2);
        due("only if both are still: 1", x.still(0, 2, 5, 0), 1);
        due("of 25", x.still(0, 2, 5, 1), 25);
        due("of 20 to the 7th", x.still(0, 7, 20, 1), 1280000000L);
        due("no turns: 1", x.still(0, 0, 2, 0), 1);
        due("of 1", x.still(0, 0, 2, 1), 1);
        x = told("a00240;p191;p350;w3500;");
        due("with one shawl it is leapt past: 1", x.still(0, 1, 4, 0), 1);
        due("of 1", x.still(0, 1, 4, 1), 1);
        due("the cold goes on: 0", x.still(1, 1, 4, 0), 0);
        due("of 1", x.still(1, 1, 4, 1), 1);
        due("the hearth goes on in still turns: 0", told("p140;lm01;").still(0, 1, 2, 0), 0);
        x = told("a00300;p200;");
        due("it comes to him in one turn", x.still(0, 1, 2, 0) * 10 + x.still(0, 1, 2, 1), 11);
        due("leaps in the second, if neither is still: 3 of 4", x.still(0, 2, 2, 0) * 10 + x.still(0, 2, 2, 1), 34);
        x = told("a00240;p191;p350;w3500;");
        due("no such sitter", x.still(2, -1, 1, 2), 4000000000000000001L);
        due("n below", x.still(0, -1, 21, 2), 4000000000000000004L);
        due("t below", x.still(0, 8, 1, 2), 4000000000000000004L);
        due("n above", x.still(0, 8, 2, 2), 4000000000000000006L);
        due("t above", x.still(0, 7, 21, 2), 4000000000000000006L);
        due("no such part", x.still(0, 7, 20, 2), 4000000000000000002L);
        due("part below", x.still(0, 7, 20, -1), 4000000000000000002L);
        due("counted", x.count(11) * 1000 + x.count(12) * 100 + x.count(14) * 10 + x.count(16), 1222);
    }

    private static void promises31To34() {
        part("promise 31");
        DraughtsTake x = told("w0710;w0910;w0899;");
        due("of two the least", x.coldest(-1), 7);
        due("not above 10", x.coldest(9), 2);
        due("not above 99", x.coldest(8), 36);
        due("not above 16", x.coldest(0), 35);
        due("no such cell", x.coldest(36), -1);
        due("below -1", x.coldest(-2), -1);
        due("of all, the first", new DraughtsTake().coldest(-1), 0);
        due("the second", told("w0115;").coldest(-1), 1);
        due("the last", told("w3515;").coldest(-1), 35);

        part("promise 32");
        x = told("w0099;lm01;t01;");
        float all = 99f / 16f;
        for (int k = 1; k < 36; k++) {
            all += 1f;
        }
        due("sum", x.sum(0), bits(all));
        due("mean", x.sum(1), (int) (all / 36.0f * 100.0f));
        x.clearHearth();
        for (int k = 0; k < 36; k++) {
            x.warms(k, -k);
        }
        due("sum below 0", x.sum(0), bits(-630f));
        due("mean below 0", x.sum(1), -1750);
        due("no such what", x.sum(2), -2);
        due("what below", x.sum(-1), -2);

        part("promise 33");
        x = told("p140;p350;w3500;");
        due("no air", x.nearest(0, 0), -9);
        due("no air, how many", x.nearest(0, 1), -9);
        x = told("p140;p350;w3500;t01;a00000;a00020;a00160;a00260;");
        due("2 rows, 2 columns, 2 columns, 2 rows: the least", x.nearest(0, 0), 1);
        due("2", x.nearest(0, 1), 2);
        due("of one off, too: 3 rows and 1 column, 1 row and 3 columns", x.nearest(1, 0), 2);
        due("4", x.nearest(1, 1), 4);
        due("the first air", told("a00000;a00350;p010;").nearest(0, 0), 0);
        due("no such sitter", x.nearest(2, 2), -1);
        due("no such what", x.nearest(0, 2), -2);
        due("what below", x.nearest(0, -1), -2);

        part("promise 34");
        for (int own = 0; own < 8; own++) {
            x = new DraughtsTake();
            x.comes(own, 0, 0);
            for (int kind = 0; kind < 8; kind++) {
                due("kind " + own + " asked for " + kind, x.kinds(kind), kind == own ? 1 : 0);
            }
        }
        x = told("a60000;a30010;a10020;a30030;a00040;");
        int[] many = {1, 1, 0, 2, 0, 0, 1, 0};
        for (int kind = 0; kind < 8; kind++) {
            due("of kind " + kind, x.kinds(kind), many[kind]);
        }
        due("all of one", told("a70000;a71010;a72020;a73030;a79040;").kinds(7), 5);
        due("no airs", new DraughtsTake().kinds(0), 0);
        due("no such kind", x.kinds(8), -2);
        due("below", x.kinds(-1), -2);
    }

    private static void promises35To39() {
        part("promise 35");
        DraughtsTake x = new DraughtsTake();
        due("a row", x.pegs(0, 0, 12), 1);
        due("the last place", x.hangs(0, 11, 1, 9), 1);
        due("a row of none", x.pegs(1, 1, 0), 1);
        due("beyond it", x.coat(1, 0), -13);
        due("below", x.pegs(0, 2, -1), -14);
        due("nothing changed", x.coat(0, 11), 19);
        due("above", x.pegs(0, 2, 13), -6);
        due("no such sort", x.pegs(0, 3, 13), -2);
        due("sort below", x.pegs(0, -1, -1), -2);
        due("no such peg", x.pegs(3, 3, 13), -1);
        due("peg below", x.pegs(-1, 0, 1), -1);
        due("a row anew", x.pegs(0, 2, 12), 1);
        due("is empty", x.coat(0, 11), -15);
        due("counted", x.count(11) * 100 + x.count(12) * 10 + x.count(16), 221);

        part("promise 36");
        x = new DraughtsTake();
        x.pegs(0, 0, 3);
        x.pegs(1, 1, 3);
        x.pegs(2, 2, 3);
        due("a cape in any", x.hangs(0, 0, 1, 0), 1);
        due("a fur instead", x.hangs(0, 0, 2, 9), 1);
        due("is there", x.coat(0, 0), 29);
        due("a cape in capes", x.hangs(1, 2, 1, 5), 1);
        due("a fur in capes", x.hangs(1, 0, 2, 5), -12);
        due("a cape in furs", x.hangs(2, 0, 1, 5), -12);
        due("a fur in furs", x.hangs(2, 0, 2, 5), 1);
        due("no such place", x.hangs(1, 3, 2, 5), -13);
        due("place below", x.hangs(1, -1, 2, 5), -13);
        due("thick above", x.hangs(0, 3, 2, 10), -6);
        due("thick below", x.hangs(0, 3, 2, -1), -4);
        due("any is no coat's sort", x.hangs(0, 3, 0, -1), -2);
        due("no such sort", x.hangs(0, 3, 3, -1), -2);
        due("no such peg", x.hangs(3, 3, 3, -1), -1);
        due("no row", new DraughtsTake().hangs(0, 0, 1, 1), -11);
        due("still empty", x.coat(1, 0), -15);

        part("promise 37");
        due("a coat", x.coat(1, 2), 15);
        due("empty", x.coat(0, 1), -15);
        due("no such place", x.coat(0, 3), -13);
        due("place below", x.coat(0, -1), -13);
        due("no row", new DraughtsTake().coat(2, -1), -11);
        due("no such peg", x.coat(3, 0), -1);
        due("peg below", x.coat(-1, 0), -1);
        due("those below -10 are not counted", x.count(11) + x.count(12) + x.count(13) + x.count(14) + x.count(16), 7);

        part("promise 38");
        x = told("p141;");
        due("no row", x.wears(0, 0, 0), -11);
        x.pegs(0, 0, 4);
        x.hangs(0, 0, 1, 3);
        x.hangs(0, 1, 2, 2);
        x.hangs(0, 2, 2, 9);
        due("a cape of 3", x.wears(0, 0, 0), 4);
        due("a fur of 2", x.wears(0, 0, 1), 8);
        due("held", x.wears(0, 0, 2), 9);
        x.wraps(0, 0);
        x.hangs(0, 3, 2, 1);
        due("a fur of 1", x.wears(0, 0, 3), 2);
        x.back();
        x.back();
        due("shawls", x.sitter(0, 1), 9);
        due("empty then", x.coat(0, 0), -15);
        due("worn twice", x.wears(0, 0, 0), -15);
        due("no such place", x.wears(0, 0, 4), -13);
        due("no such sitter", x.wears(1, 0, 0), -1);
        due("no such peg", x.wears(0, 3, 0), -1);
        due("can be taken back", x.count(9), 3);
        due("taken back", x.back() * 10 + x.sitter(0, 1), 28);

        part("promise 39");
        theMoves();
    }

    private static void theMoves() {
        DraughtsTake x = new DraughtsTake();
        x.pegs(0, 0, 4);
        x.pegs(1, 1, 4);
        x.hangs(0, 0, 1, 1);
        x.hangs(0, 1, 1, 2);
        x.hangs(0, 2, 2, 3);
        x.hangs(1, 2, 1, 7);
        due("no row", x.moves(0, 0, 2, 0, -1), -11);
        DraughtsTake all = new DraughtsTake();
        all.pegs(0, 1, 12);
        all.pegs(1, 0, 12);
        all.hangs(0, 11, 1, 0);
        due("all twelve", all.moves(0, 0, 1, 0, 12), 12);
        due("the last of them", all.coat(1, 11), 10);
        due("where it was, too", all.coat(0, 11), 10);
        due("a cape of 0 to capes", all.moves(1, 11, 0, 0, 1), 1);
        due("no row of the first", x.moves(2, 0, 0, 0, -1), -11);
        due("a fur stops it", x.moves(0, 0, 1, 0, 4), -12);
        due("those ahead are there", x.coat(1, 0) * 100 + x.coat(1, 1), 1112);
        due("no further", x.coat(1, 2), 17);
        due("within one, up", x.moves(0, 0, 0, 1, 3), 3);
        due("as they all were", x.coat(0, 1) * 10000 + x.coat(0, 2) * 100 + x.coat(0, 3), 111223);
        due("within one, down", x.moves(0, 1, 0, 0, 3), 3);
        due("as they all were", x.coat(0, 0) * 10000 + x.coat(0, 1) * 100 + x.coat(0, 2), 111223);
        x.pegs(2, 2, 4);
        due("an empty place goes, too", x.moves(2, 0, 1, 0, 2), 2);
        due("empty there", x.coat(1, 0) + x.coat(1, 1), -30);
        due("a fur to furs", x.moves(0, 2, 2, 3, 1), 1);
        due("is there", x.coat(2, 3), 23);
        due("none of any", x.moves(0, 4, 2, 4, 0), 0);
        due("n below", x.moves(0, 0, 1, 0, -1), -13);
        due("i below", x.moves(0, -1, 1, 0, 1), -13);
        due("j below", x.moves(0, 0, 1, -1, 1), -13);
        due("beyond the first's end", x.moves(0, 2, 1, 0, 3), -13);
        due("beyond the second's end", x.moves(0, 0, 1, 2, 3), -13);
        due("far beyond", x.moves(0, 1, 1, 0, Integer.MAX_VALUE), -13);
        due("i far beyond", x.moves(0, Integer.MAX_VALUE, 1, 0, 1), -13);
        due("no such peg", x.moves(3, 0, 0, 0, 0), -1);
        due("no such other", x.moves(0, 0, -1, 0, 0), -1);
    }

    private static void promises40To46() {
        part("promise 40");
        DraughtsTake x = new DraughtsTake();
        due("a number", x.row(0), 1);
        due("the greatest", x.row(99), 2);
        due("below", x.row(-1), -4);
        due("above", x.row(100), -6);
        for (int k = 3; k <= 12; k++) {
            due("number " + k, x.row(k), k);
        }
        due("the thirteenth", x.row(1), -6);
        due("the thirteenth, below", x.row(-1), -4);

        part("promise 41");
        x = told("p140;p150;w1500;p160;t01;");
        rows(x, 14, 36, 16);
        due("all are so", x.judge(), -9);
        due("none then", x.count(8), 0);
        rows(x, 14, 15, 16);
        due("the second is off", x.judge(), 1);
        rows(x, 13, 15);
        due("the first", x.judge(), 0);
        rows(x, 14, 36, 16, 36);
        due("none there", x.judge(), 3);
        rows(x, 14);
        due("a short one", x.judge(), -9);
        due("none at all", x.judge(), -9);

        part("promise 42");
        rows(x, 1, 2, 3);
        due("how many it had", x.clear(), 3);
        due("none", x.clear(), 0);

        part("promise 43");
        theLots();

        part("promise 44");
        x = told("a00210;p140;d00;w0110;lt20;t05;");
        due("turn", x.image(), 5);
        x.turns(10);
        x.shuts(3);
        due("taken anew", x.image(), 15);
        x.turns(1);
        due("the later one", x.restore(), 15);

        part("promise 45");
        theImage();

        part("promise 46");
        theCounts();
    }

    private static void theLots() {
        // One seed for all nights: each goes on with the z that the one ahead of it left.
        int z = 5;
        DraughtsTake x = told("a00210;p280;");
        int taken = 0;
        int on = 0;
        for (int night = 0; night < 20; night++) {
            z = z * 1103515245 + 12345;
            DraughtsTake y = told("a0021" + (z & 0x7fffffff) / 65536 % 4 + ";p280;t10;");
            taken += y.count(3);
            on += Integer.bitCount(y.count(4));
            due("taken in " + (night + 1), x.lots(night + 1, 5, 0), taken);
            due("on in " + (night + 1), x.lots(night + 1, 5, 1), on);
        }
        due("some are taken", taken > 0 && taken < 20 ? 1 : 0, 1);
        due("as it was", x.count(2) * 10 + x.air(0, 3), 0);
        due("no air", told("p000;p010;").lots(20, -1, 1), 40);
        due("below", x.lots(0, 0, 2), -4);
        due("above", x.lots(21, 0, 2), -6);
        due("no such what", x.lots(20, 0, 2), -2);
        due("what below", x.lots(1, 0, -1), -2);
    }

    private static void theImage() {
        DraughtsTake x = told("a13300;p252;p150;d00;w0110;lt20;t01;");
        due("none", x.restore(), -3);
        x.image();
        int[] were = new int[60];
        for (int pass = 0; pass < 2; pass++) {
            for (int cell = 0; cell < 36; cell++) {
                due("warm", pass == 0 ? 0 : x.warm(cell), pass == 0 ? 0 : were[cell]);
                were[cell] = x.warm(cell);
            }
            for (int k = 0; k < 20; k++) {
                int now = k < 6 ? x.count(k) : k < 12 ? x.air(0, k - 6) : k < 15 ? x.sitter(0, k - 12) : x.cell(k, 0);
                due("as it was, " + k, pass == 0 ? 0 : now, pass == 0 ? 0 : were[36 + k]);
                were[36 + k] = now;
            }
            due("shut", x.count(6), 1);
            if (pass == 0) {
                x.feed('x');
                x.row(7);
                x.pegs(0, 0, 1);
                x.turns(20);
                x.shuts(0);
                x.shuts(20);
                x.shuts(21);
                x.clearHearth();
                x.wraps(0, 9);
                x.air(9, 9);
                due("restored", x.restore(), 1);
            }
        }
        due("letters stay", x.count(7), 1);
        due("the row stays", x.count(8), 1);
        due("refusals stay", x.count(11) * 10 + x.count(13), 11);
        due("pegs stay", x.coat(0, 0), -15);
        due("none to take back", x.count(9), 0);
        x.turns(1);
        due("again", x.restore(), 1);
    }

    private static void theCounts() {
        DraughtsTake x = told("a00210;a00220;p140;d00;d01;lcc;");
        x.turns(2);
        x.feed(1);
        x.row(2);
        x.row(2);
        int[] due = {2, 1, 2, x.turns(1), 1, 2, 2, 1, 2, 2};
        due[2] = 3;
        for (int what = 0; what < 10; what++) {
            due("count " + what, x.count(what), due[what]);
        }
        due("no such", x.count(10), -9);
        due("below", x.count(-1), -9);
        due("above", x.count(17), -9);
        x.cell(36, 0);
        x.cell(0, 9);
        x.cell(0, 9);
        x.shuts(14);
        x.shuts(14);
        x.shuts(14);
        x.turns(0);
        x.turns(0);
        x.turns(61);
        int[] refusals = {1, 2, 3, 2, 0, 1};
        for (int k = 0; k < 6; k++) {
            due("refusals " + (-1 - k), x.count(11 + k), refusals[k]);
        }
        due("a -9 is none", x.cell(35, 2) + x.count(11), -8);
    }

    public static void main(String[] args) {
        promises1To3();
        promises4To7();
        promises8To12();
        promises13To18();
        promises19To22();
        promises23To26();
        promises27To30();
        promises31To34();
        promises35To39();
        promises40To46();
        end("all promises hold");
    }
}
