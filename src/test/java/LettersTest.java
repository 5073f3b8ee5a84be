import java.util.function.Supplier;

/** A HOUSE told in letters: at each place each letter, at each number its least and greatest, and what may not be any more. */
public final class LettersTest extends Due {
    private static final Supplier<DraughtsTake> EMPTY = DraughtsTake::new;
    private static final String STEPS = "tmasglc";
    private static final String ALL = "a79353;p349;d33;w3599;lt00m99a01s98g50l10;t60;lcc;l;";
    /** What may stand at each place of it: a statement's first letter, a digit, the end, a step or the end. */
    private static final String KINDS_OF_PLACES = "1#####;1###;1##;1####;1s##s##s##s##s##s##s1##;1sss1s";

    private static boolean mayStand(char letter, char place) {
        switch (place) {
            case '1': return "apdwlt".indexOf(letter) >= 0;
            case '#': return letter >= '0' && letter <= '9';
            case 's': return letter == ';' || STEPS.indexOf(letter) >= 0;
            default: return letter == ';';
        }
    }

    private static void eachLetterAtEachPlace() {
        part("FAULT, kind 1");
        due("statements", told(ALL).count(7), 0);
        due("places", KINDS_OF_PLACES.length(), ALL.length());
        for (int place = 0; place < ALL.length(); place++) {
            for (int letter = 0; letter < 256; letter++) {
                boolean may = mayStand((char) letter, KINDS_OF_PLACES.charAt(place));
                int answer = tell(new DraughtsTake(), ALL.substring(0, place) + (char) letter + ALL.substring(place + 1));
                due("letter " + letter + " at " + place, answer == -1000 - place ? 1 : 0, may ? 0 : 1);
                due("letter " + letter + " last, at " + place, tell(new DraughtsTake(), ALL.substring(0, place) + (char) letter),
                    !may ? -1000 - place : letter == ';' ? statements(place) + 1 : -1001 - place);
            }
        }
        for (int place = 0; place < ALL.length(); place++) {
            boolean isEnd = place > 0 && ALL.charAt(place - 1) == ';';
            due("the end at " + place, tell(new DraughtsTake(), ALL.substring(0, place)), isEnd ? statements(place) : -1000 - place);
        }
    }

    private static int statements(int place) {
        return (int) ALL.substring(0, place).chars().filter(c -> c == ';').count();
    }

    private static void ninetySixLetters() {
        part("96 letters");
        DraughtsTake x = new DraughtsTake();
        due("none", x.house(), -1000);
        for (int k = 1; k <= 96; k++) {
            due("a letter", x.feed(k % 2 == 1 ? 'l' : ';'), k);
        }
        due("one more", x.feed('x'), -6);
        due("48 statements", x.house(), 48);
        due("none any more", x.count(7), 0);
        due("room again", x.feed('l'), 1);
        due("with a fault neither", x.house() * 10 + x.count(7), -10010);
        String l47 = "l;".repeat(47);
        due("94", tell(new DraughtsTake(), l47), 47);
        due("95", tell(new DraughtsTake(), l47 + "l"), -1095);
        due("96 and no end", tell(new DraughtsTake(), l47 + "lc"), -1096);
        due("a wrong one as the 96th", tell(new DraughtsTake(), l47 + "lx"), -1095);
        due("the 97th is not told", tell(new DraughtsTake(), l47 + "l;x"), 48);
        due("one statement", tell(x, "l;"), 1);
    }

    /** The statement's place is 6: the one ahead of it comes with it or not at all. */
    private static void eachNumber() {
        part("FAULT, kind 2");
        String[] asItMustBe = {"a00000;", "a79353;", "p000;", "p359;", "d00;", "d35;", "w0000;", "w3599;", "t01;", "t60;", "l;", "lc;",
            "lcccccc;", "lt00m00a00s00g00l00;", "lt99m99a99s99g99l99;"};
        String[] notSo = {"a80000;", "a90000;", "a00360;", "a00990;", "a00004;", "a00009;", "p360;", "p990;", "d36;", "d99;", "w3600;",
            "w9900;", "t00;", "t61;", "t99;", "lccccccc;", "lt00m00a00s00g00l00c;", "lcccccccccccc;"};
        for (String s : asItMustBe) {
            due(s, tell(new DraughtsTake(), "w0150;" + s), 2);
        }
        for (String s : notSo) {
            only(EMPTY, -2006, x -> tell(x, "w0150;" + s));
        }
        DraughtsTake x = told("a79353;p349;w3399;");
        due("kind, figure", x.air(0, 0) * 10 + x.air(0, 1), 79);
        due("cell, way", x.air(0, 2) * 10 + x.air(0, 3), 353);
        due("sitter", x.sitter(0, 0) * 10 + x.sitter(0, 1), 349);
        due("warm", x.cell(33, 4), 99);
        x = told("a00000;p010;w0000;");
        due("kind, figure, cell, way", x.air(0, 0) + x.air(0, 1) + x.air(0, 2) + x.air(0, 3), 0);
        due("cell, shawls", x.sitter(0, 0) * 10 + x.sitter(0, 1), 10);
        due("not CROWNED, ON", x.air(0, 4) * 10 + x.sitter(0, 2), 1);
        due("warm", x.warm(0), 0);
        due("12 turns", told("t12;").count(2), 12);
        due("21 turns", told("t21;").count(2), 21);
    }

    private static void whatIsAheadOfIt() {
        part("behind all ahead of it");
        String[] texts = {"p140;a00140;", "p140;p140;", "a00140;p140;", "a00140;a00140;", "d14;p140;", "d14;a00140;", "p140;d14;",
            "a00140;d14;", "d14;d14;p140;", "a00210;t01;p210;", "a00210;t01;p160;", "p140;w1400;p140;", "p140;w1400;t01;p140;",
            "p140;w1400;t01;d14;", "p140;w1400;t01;d14;p140;", "p140;w1400;t01;a00140;"};
        int[] answers = {-2005, -2005, -2007, -2007, -2004, -2004, -2005, -2007, 3, 3, -2011, -2011, 4, 4, -2019, 4};
        for (int k = 0; k < texts.length; k++) {
            due(texts[k], tell(new DraughtsTake(), texts[k]), answers[k]);
        }
        DraughtsTake x = told("d14;d14;d14;");
        due("SHUT, not, SHUT", x.cell(14, 0), 1);
        due("told again in another house", tell(x, "d14;") * 10 + x.cell(14, 0), 10);
        x.shuts(14);
        due("SHUT otherwise, told again", tell(x, "d14;") * 10 + x.cell(14, 0), 10);
        due("the hearth of the last", told("lccc;la08;").count(5), 1);
        due("6 and 6", told("lcccccc;lcccccc;").count(5), 6);
        due("none of them", told("lcccccc;l;").count(5), 0);
        due("of two that are wrong the first", tell(new DraughtsTake(), "d36;p360;"), -2000);
        due("a wrong letter behind a wrong number", tell(new DraughtsTake(), "d36;x"), -1004);
        due("nothing behind a wrong number", tell(new DraughtsTake(), "d36;d3"), -1006);
        due("turns are as they must be up to 60 each", told("t60;t60;t60;").count(2), 180);
    }

    private static void room() {
        part("no room");
        String airs = "a00000;a00010;a00020;a00030;";
        String sitters = "p060;p070;p080;p090;p100;";
        due("5 airs", told(airs + "a00040;").count(0), 5);
        only(EMPTY, -2035, x -> tell(x, airs + "a00040;a00050;"));
        due("6 sitters", told(sitters + "p110;").count(1), 6);
        only(EMPTY, -2030, x -> tell(x, sitters + "p110;p120;"));
        Supplier<DraughtsTake> four = () -> told(airs + sitters);
        only(four, -2012, x -> tell(x, "p190;a00200;a00210;"));
        only(four, -2012, x -> tell(x, "a00200;p190;p210;"));
        DraughtsTake x = told(airs);
        due("a fault leaves room", tell(x, "a00200;a00210;") * 10 + x.comes(0, 0, 35), -20070 + 4);
    }

    private static void withoutAndWithFault() {
        part("with FAULT nothing");
        Supplier<DraughtsTake> house = () -> {
            DraughtsTake x = told("a00210;p144;d00;w0150;la01;t01;");
            x.image();
            x.wraps(0, 3);
            x.turns(2);
            x.row(14);
            return x;
        };
        only(house, -1000, DraughtsTake::house);
        only(house, -1035, x -> tell(x, "a00220;p239;d02;w0260;lc;t05;w0070;x"));
        only(house, -2032, x -> tell(x, "a00220;p239;d02;w0260;lcc;t05;l;d36;"));
        only(house, -2026, x -> tell(x, "d02;w0260;d00;d00;lcc;t05;p000;"));
        part("without FAULT");
        DraughtsTake x = house.get();
        due("2 can be taken back", x.count(9), 2);
        due("all of it comes", tell(x, "a00220;p239;d02;w0260;lcc;t05;"), 6);
        due("none can be", x.count(9) * 10 + x.back(), -3);
        due("airs, sitters, turn", x.count(0) * 100 + x.count(1) * 10 + x.count(2), 228);
        due("steps, shut", x.count(5) * 10 + x.count(6), 22);
        due("nothing else is told", tell(x, "l;") * 10 + x.count(9), 10);
        due("the row stays", x.count(8), 1);
        due("the image stays", x.restore(), 1);
    }

    public static void main(String[] args) {
        eachLetterAtEachPlace();
        ninetySixLetters();
        eachNumber();
        whatIsAheadOfIt();
        room();
        withoutAndWithFault();
        end("all houses in letters are as due");
    }
}
