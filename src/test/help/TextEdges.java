import java.util.Arrays;
import java.util.List;

/** The tape, the four texts, their tokens and faults, and what the law tells. */
final class TextEdges extends Checks {
    private static final String[] FACTS =
        {"nerve", "skin", "blind", "winced", "kind", "worth", "word", "minute", "dark", "in"};
    /** A line of each text that is right in a room of two dealers and a lot. */
    private static final String[] LINE = {"calm 1;", "say 1;", "dealer 0 pinches 1;", "lot 0;"};

    static void all() {
        tape();
        text();
        fault();
        law();
        otherTexts();
        tokens();
        faultsInOrder();
        faultsOne();
        faultsTwo();
        faultsThree();
        toldByLaw();
        winces();
        word();
    }

    private static LastToWince small() {
        LastToWince x = room(100, 10, 20);
        x.lot(0, 10);
        return x;
    }

    // ------------------------------------------------------------------ promises 9 to 12

    private static void tape() {
        says("Twenty bytes come behind the TAPE, of each number the highest first: how many it has.", () -> {
            LastToWince x = new LastToWince();
            for (int bad = 0; bad < 20; bad++) {
                int[] five = {0x20202020, 0x20202020, 0x20202020, 0x20202020, 0x20202020};
                five[bad / 4] ^= 0x80 << 24 - 8 * (bad % 4);
                is("the first twenty", x.feed(0x20202020, 0x0A0A0A0A, 0x20202020, 0x20202020, 0x20202020), 20);
                is("twenty more", x.feed(five[0], five[1], five[2], five[3], five[4]), 40);
                is("a byte of 160", x.text(SPEECH), NONE);
                is("its place", x.fault(1), 20 + bad);
            }
        });
        says("how many it has. NONE, and nothing comes, if there would be more than 400.", () -> {
            LastToWince x = new LastToWince();
            for (int i = 1; i <= 20; i++) is("feed", x.feed(0, 0, 0, 0, 0), 20 * i);
            is("it is full", x.feed(0, 0, 0, 0, 0), NONE);
            x.end(380);
            is("400 can be", x.feed(0, 0, 0, 0, 0), 400);
            x.end(381);
            is("401 can't", x.feed(0, 0, 0, 0, 0), NONE);
            is("nothing came", x.end(382), false);
            is("nothing went", x.end(381), true);
            x.end(0);
            feedAll(x, "calm" + "1+".repeat(192) + "12;");
            is("391 bytes have no place for twenty", x.feed(0x3B3B3B3B, 0, 0, 0, 0), NONE);
            is("the text is as it was fed", x.text(LAW), 1);
        });
        says("how many it has. NONE, and nothing comes, if there would be more than 400.", () ->
            refused("feed", Checks::full, x -> x.feed(0x73617920, 0x313B2020, 0, 0, 0), NONE));
        says("The TAPE has its first n bytes alone: true;", () -> {
            LastToWince x = new LastToWince();
            feedAll(x, "say 1;say 2;say 3;");
            is("all", x.end(18), true);
            is("two lines", x.end(12), true);
            is("what was cut is gone", x.end(13), false);
            is("two lines", x.text(SPEECH), 2);
            is("none of none", x.end(0), true);
            feedAll(x, "say 1;say 2;");
            is("nothing", x.end(0), true);
            is("nothing", x.text(SPEECH), 0);
            x.feed(0x73617920, 0x20202020, 0x3B3B3B3B, 0, 0);
            is("cut", x.end(4), true);
            is("behind the cut", x.feed(0x333B2020, 0x20202020, 0x20202020, 0x20202020, 0x20202020), 24);
            is("what was cut does not come back", x.text(SPEECH), 1);
            is("say 3", x.word(0), 3);
            // what stands behind the cut is neither a letter nor a digit more
            feedAll(x, "say 1;");
            x.end(2);
            is("sa", x.text(SPEECH), NONE);
            is("no keyword", x.fault(1), 0);
            feedAll(x, "calm 10000;");
            x.end(9);
            is("calm 1000", x.text(LAW), NONE);
            is("the number is one, the end is missing", x.fault(1), 9);
        });
        says("true; false, changing nothing, if it has not so many, or n is below 0.", () -> {
            for (int n : new int[] {-1, 7, LOW, HIGH, 400}) {
                refused("end(" + n + ")", Checks::half, x -> flag(x.end(n)), 0);
            }
            refused("end(401)", Checks::full, x -> flag(x.end(401)), 0);
            is("an empty tape", new LastToWince().end(1), false);
        });
    }

    private static void text() {
        says("The TAPE, empty then, is TEXT k: how many lines.", () -> {
            for (int k = 0; k < 4; k++) {
                LastToWince x = small();
                is("an empty tape", x.text(k), 0);
                reads(x, k, " \n ", 0);
                for (int n = 1; n <= 16; n += 15) {
                    reads(x, k, LINE[k].repeat(n), n);
                    is("look", x.look(9 + k), n);
                }
                is("the tape is empty", x.end(1), false);
                is("an empty tape again", x.text(k), 0);
                is("no lines then", x.look(9 + k), 0);
            }
        });
        says("NONE: no such one (fault() tells 0)", () -> {
            for (int k : new int[] {-1, 4, LOW, HIGH}) {
                LastToWince x = half();
                is("a fault stands", x.fault(0), 2);
                is("text(" + k + ")", x.text(k), NONE);
                is("fault(0)", x.fault(0), 0);
                is("fault(1)", x.fault(1), NONE);
                is("the tape is empty", x.end(1), false);
                LastToWince y = half();
                is("the same speech anew", tell(y, SPEECH, "say 3 for 2;say 5;"), 2);
                same("text(" + k + ")", x, y);
            }
        });
        says("or a FAULT (it stays as it was).", () -> {
            for (int k = 0; k < 4; k++) {
                LastToWince x = half();
                is("a fault", tell(x, k, LINE[k] + "$"), NONE);
                is("its place", x.fault(1), LINE[k].length());
                is("the tape is empty", x.end(1), false);
                LastToWince y = half();
                is("a fault in another place", tell(y, k, " ".repeat(LINE[k].length()) + "$"), NONE);
                same("a fault of text " + k, x, y);
                is("as many lines as there were", half().look(9 + k), new int[] {4, 2, 1, 2}[k]);
            }
        });
    }

    private static void fault() {
        says("Of the latest text() what 0 the FAULT (0 without one), 1 its place (NONE).", () -> {
            LastToWince x = small();
            is("ahead of any text", x.fault(0), 0);
            is("ahead of any text", x.fault(1), NONE);
            fails(x, SPEECH, "$", 1, 0);
            fails(x, SPEECH, "say 8;", 2, 4);
            fails(x, SPEECH, "say 1;".repeat(17), 3, 96);
            x.feed(0, 0, 0, 0, 0);
            x.end(0);
            x.undo();
            is("it is of text() alone", x.fault(0), 3);
            is("it is of text() alone", x.fault(1), 96);
            reads(x, SPEECH, "say 1;", 1);
        });
        says("1 its place (NONE). NONE for another what.", () -> {
            LastToWince x = small();
            fails(x, SPEECH, "say 8;", 2, 4);
            for (int what : new int[] {-1, 2, LOW, HIGH}) is("fault(" + what + ")", x.fault(what), NONE);
        });
    }

    // ------------------------------------------------------------------ the grammar

    private static void law() {
        says("0 THE LAW = {(wince | price | calm) E [when B] ;}.", () -> {
            LastToWince x = small();
            for (String word : new String[] {"wince", "price", "calm"}) {
                reads(x, LAW, word + " 1;", 1);
                reads(x, LAW, word + " 1 when 1=1;", 1);
                fails(x, LAW, word + ";", 1, word.length());
                fails(x, LAW, word + " 1", 1, word.length() + 2);
                fails(x, LAW, word + " 1 when;", 1, word.length() + 7);
                fails(x, LAW, word + " 1 1=1;", 1, word.length() + 3);
                fails(x, LAW, word + " 1 when 1=1 when 1=1;", 1, word.length() + 12);
                fails(x, LAW, word + " " + word + " 1;", 1, word.length() + 1);
            }
            fails(x, LAW, ";", 1, 0);
            fails(x, LAW, "calm 1;;", 1, 7);
        });
        says("B = A {or A}. A = C {and C}. C = E (< | = | >) E | not C | ( B ).", () -> {
            LastToWince x = small();
            String[] so = {"1<2", "1=1", "2>1", "1=2 or 1=1", "1=1 or 1=2", "1=1 and 1=1", "not 1=2",
                "not not 1=1", "(1=1)", "((1=1))", "(1=2 or 1=1) and 1=1", "1=1 or 1=1 and 1=2", "1=2 and 1=2 or 1=1",
                "not 1=2 and 1=1", "not (1=1 and 1=2)", "1=2 or 1=2 or 1=2 or 1=1", "1+1=2", "2*3>5 and 9/2=4"};
            String[] not = {"2<1", "1<1", "1=2", "1>2", "1>1", "1=2 or 1=2", "1=1 and 1=2", "1=2 and 1=1", "not 1=1",
                "not not 1=2", "(1=2)", "(1=1 or 1=1) and 1=2", "not (1=1 or 1=2)", "not 1=1 and 1=2",
                "1=1 and 1=1 and 1=1 and 1=2", "not 1=1 or 1=2"};
            for (String b : so) is(b, isSo(x, b), 9);
            x = small();
            for (String b : not) is(b, isSo(x, b), 4);
            x = small();
            String[] wrong = {"1", "1<", "<1", "1<2<3", "or 1=1", "1=1 or", "1=1 and", "and 1=1", "not", "1=1 not",
                "()", "(1=1", "1=1)", "(1)=1", "1=(1)", "1=1 (1=1)", "not or 1=1", "1==1", "1<=1"};
            int[] at = {1, 2, 0, 3, 0, 6, 7, 0, 3, 4, 1, 4, 3, 2, 2, 4, 4, 2, 2};
            for (int i = 0; i < wrong.length; i++) fails(x, LAW, "wince 9 when " + wrong[i] + ";", 1, 13 + at[i]);
        });
        says("E = T {(+ | -) T}. T = U {* U | / NUMBER}.", () -> {
            LastToWince x = small();
            String[] sums = {"7", "1+2", "9-2-3", "9-2+3", "2+3*4", "2*3+4", "20/3*3", "2*3/4*5", "7*9/8", "100/7/2",
                "9-8/3", "1+1+1+1+1+1+1+1+1+1", "2*2*2*2*2*2*2*2*2", "0*5", "5-5"};
            int[] due = {7, 3, 4, 10, 14, 10, 18, 5, 7, 7, 7, 10, 512, 0, 0};
            for (int i = 0; i < sums.length; i++) is(sums[i], winceBy(x, sums[i]), due[i]);
            String[] wrong = {"-1", "+1", "1+", "1-", "1*", "1/", "*1", "/1", "1+-1", "1*/1", "1/nerve", "1/(2)", "(1)",
                "1 1", "nerve 1", "nerve nerve"};
            int[] at = {0, 0, 2, 2, 2, 2, 0, 0, 2, 2, 2, 2, 0, 2, 6, 6};
            for (int i = 0; i < wrong.length; i++) fails(x, LAW, "wince " + wrong[i] + ";", 1, 6 + at[i]);
        });
        says("U = NUMBER | nerve | skin | blind | winced | kind | worth | word | minute | dark | in.", () -> {
            LastToWince x = new LastToWince();
            x.dealer(98, 9, 1, true);
            x.dealer(10, 1, 1, false);
            x.lot(5, 999);
            x.act(2, 0);
            int[] due = {98, 9, 1, 0, 5, 999, 7, 0, 1, 2};
            for (int i = 0; i < FACTS.length; i++) {
                reads(x, LAW, "wince " + FACTS[i] + ";", 1);
                is(FACTS[i], x.winces(0, 0, 7), due[i]);
                fails(x, LAW, FACTS[i] + " 1;", 1, 0);
            }
            is("the least number", winceBy(x, "0"), 0);
            is("the greatest number", winceBy(x, "9999-9000"), 999);
            for (String no : new String[] {"wince", "price", "calm", "when", "or", "and", "not"}) {
                fails(x, LAW, "wince " + no + ";", 1, 6);
            }
        });
    }

    private static int isSo(LastToWince x, String b) {
        reads(x, LAW, "wince 9 when " + b + ";wince 4;", 2);
        return x.winces(0, 0, 0);
    }

    private static int winceBy(LastToWince x, String e) {
        reads(x, LAW, "wince " + e + ";", 1);
        return x.winces(0, 0, 0);
    }

    private static void otherTexts() {
        says("2. TEXTS (empty at first).", () -> {
            LastToWince x = crowd(10, 12);
            for (int what = 9; what <= 12; what++) is("look(" + what + ")", x.look(what), 0);
            is("the law", x.winces(0, 0, 0), 300);
            is("the speech", x.word(0), 0);
            for (int d = 0; d < 10; d++) is("the pinches", x.of(d, 7), 0);
            is("the sale", x.house(), 0);
        });
        says("WORDS 0 .. 7.", () -> {
            LastToWince x = crowd(1, 1);
            for (int w = 0; w < 8; w++) {
                reads(x, SPEECH, "say " + w + ";", 1);
                is("the word", x.word(0), w);
                is("winces", x.winces(0, 0, w), 300);
                is("puts", x.puts(w, 1), true);
            }
            fails(x, SPEECH, "say 8;", 2, 4);
            is("winces", x.winces(0, 0, 8), NONE);
            is("puts", x.puts(8, 1), false);
            is("tells", x.tells(256), NONE);
        });
        says("1 SPEECH = {say WORD [for N] ;} (0 .. 7; N 1 .. 60 minutes, 1 without;", () -> {
            LastToWince x = small();
            reads(x, SPEECH, "say 0 for 1;say 7 for 60;say 3;say 4;", 4);
            is("for 1", x.word(0), 0);
            is("for 60", x.word(1), 7);
            is("for 60", x.word(60), 7);
            is("without", x.word(61), 3);
            is("without", x.word(62), 4);
            is("and again", x.word(63), 0);
            fails(x, SPEECH, "say;", 1, 3);
            fails(x, SPEECH, "say 1 for;", 1, 9);
            fails(x, SPEECH, "say 1 2;", 1, 6);
            fails(x, SPEECH, "say 1 for 2 for 3;", 1, 12);
            fails(x, SPEECH, "for 1;", 1, 0);
            fails(x, SPEECH, "say say 1;", 1, 4);
        });
        says("one behind the other, behind the last line again the first; empty: WORD 0.)", () -> {
            LastToWince x = small();
            is("empty", x.word(0), 0);
            is("empty", x.word(199), 0);
            reads(x, SPEECH, "say 5;", 1);
            for (int m = 0; m < 200; m += 199) is("one line alone", x.word(m), 5);
            reads(x, SPEECH, "say 1 for 60;".repeat(3) + "say 2 for 19;say 3;say 4;", 6);
            is("the last of the fourth", x.word(198), 2);
            is("the last minute", x.word(199), 3);
            reads(x, SPEECH, "say 1 for 60;".repeat(3) + "say 2 for 19;", 4);
            is("the first again", x.word(199), 1);
            reads(x, SPEECH, "", 0);
            is("empty again", x.word(0), 0);
        });
        says("2 PINCHES = {dealer DEALER pinches DEALER ;} (one way; unlike.)", () -> {
            LastToWince x = crowd(10, 0);
            reads(x, PINCHES, "dealer 0 pinches 9;", 1);
            is("one way", x.of(0, 7), 512);
            is("not the other", x.of(9, 7), 0);
            reads(x, PINCHES, "dealer 0 pinches 9;dealer 9 pinches 0;", 2);
            is("both ways", x.of(9, 7), 1);
            fails(x, PINCHES, "dealer 0 pinches 0;", 2, 17);
            fails(x, PINCHES, "dealer 9 pinches 9;", 2, 17);
            fails(x, PINCHES, "dealer 0 pinches;", 1, 16);
            fails(x, PINCHES, "dealer 0;", 1, 8);
            fails(x, PINCHES, "dealer pinches 1;", 1, 7);
            fails(x, PINCHES, "0 pinches 1;", 1, 0);
            fails(x, PINCHES, "pinches 1;", 1, 0);
            fails(x, PINCHES, "dealer 0 dealer 1;", 1, 9);
            fails(x, PINCHES, "dealer 0 pinches 1 pinches 2;", 1, 19);
        });
        says("3 A SALE = {(lot LOT [dark | light] | bar DEALER | admit DEALER) ;}", () -> {
            LastToWince x = crowd(10, 12);
            reads(x, SALE, "lot 0;lot 11 dark;lot 11 light;bar 0;bar 9;admit 0;admit 9;", 7);
            fails(x, SALE, "lot 0 dark light;", 1, 11);
            fails(x, SALE, "lot dark;", 1, 4);
            fails(x, SALE, "bar 0 dark;", 1, 6);
            fails(x, SALE, "admit 0 light;", 1, 8);
            fails(x, SALE, "lot;", 1, 3);
            fails(x, SALE, "bar;", 1, 3);
            fails(x, SALE, "admit;", 1, 5);
            fails(x, SALE, "dark;", 1, 0);
            fails(x, SALE, "light 1;", 1, 0);
            fails(x, SALE, "lot 0 bar 0;", 1, 6);
        });
        says("16 lines of each at most.", () -> {
            for (int k = 0; k < 4; k++) {
                LastToWince x = small();
                reads(x, k, LINE[k].repeat(16), 16);
                fails(x, k, LINE[k].repeat(17), 3, 16 * LINE[k].length());
                is("the sixteen stay", x.look(9 + k), 16);
            }
            LastToWince x = small();
            tell(x, SPEECH, "say 1;".repeat(15) + "say 7;");
            is("the sixteenth counts", x.word(15), 7);
            tell(x, LAW, "wince 1 when 1=2;".repeat(15) + "wince 7;");
            is("the sixteenth counts", x.winces(0, 0, 0), 7);
            tell(x, PINCHES, "dealer 0 pinches 1;".repeat(15) + "dealer 1 pinches 0;");
            is("the sixteenth counts", x.of(1, 7), 1);
            tell(x, SALE, "admit 1;".repeat(15) + "bar 1;");
            x.house();
            is("the sixteenth counts", x.of(1, 4), 1);
        });
    }

    private static void tokens() {
        says("TOKENS: letters as many as stand together are KEYWORDS (those told here for that text) or none", () -> {
            LastToWince x = small();
            fails(x, SPEECH, "sayfor 1;", 1, 0);
            fails(x, SPEECH, "sa 1;", 1, 0);
            fails(x, SPEECH, "says 1;", 1, 0);
            fails(x, SPEECH, "say 1 fo 2;", 1, 6);
            fails(x, SPEECH, "say 1 fors 2;", 1, 6);
            fails(x, LAW, "win ce 1;", 1, 0);
            fails(x, LAW, "wince nerveskin;", 1, 6);
            fails(x, LAW, "wince i;", 1, 6);
            for (char c : new char[] {'a', 'z', 'A', 'Z'}) {
                fails(x, SPEECH, "say" + c + " 1;", 1, 0);
                fails(x, SPEECH, c + "say 1;", 1, 0);
            }
            fails(x, SPEECH, "SAY 1;", 1, 0);
            for (char c : new char[] {'@', '[', '`', '{', '_', '\''}) fails(x, SPEECH, "say" + c + " 1;", 1, 3);
            reads(x, SPEECH, "say1for2;say3;", 2);
            reads(x, LAW, "wince5when 1=1or 1=2and not(nerve<1);", 1);
        });
        says("are KEYWORDS (those told here for that text) or none", () -> {
            LastToWince x = small();
            String[][] begin = {{"wince 1;", "price 1;", "calm 1;"}, {"say 1;"}, {"dealer 0 pinches 1;"},
                {"lot 0;", "bar 0;", "admit 0;"}};
            for (int k = 0; k < 4; k++) {
                for (int other = 0; other < 4; other++) {
                    for (String line : begin[other]) {
                        if (k == other) reads(x, k, line, 1);
                        else fails(x, k, line, 1, 0);
                    }
                }
            }
            fails(x, LAW, "wince light;", 1, 6);
            fails(x, LAW, "wince 1 for 2;", 1, 8);
            fails(x, SPEECH, "say word;", 1, 4);
            fails(x, SALE, "lot 0 when 1=1;", 1, 6);
        });
        says("digits as many as stand together NUMBERS of 1 to 4 digits or none", () -> {
            LastToWince x = small();
            reads(x, SPEECH, "say 7;say 07;say 007;say 0007 for 0060;", 4);
            fails(x, SPEECH, "say 00007;", 1, 4);
            fails(x, SPEECH, "say 0 for 00001;", 1, 10);
            reads(x, LAW, "wince 0;wince 00;wince 000;wince 0000;wince 9999;", 5);
            fails(x, LAW, "wince 10000;", 1, 6);
            fails(x, LAW, "wince 00000;", 1, 6);
            fails(x, LAW, "wince " + "9".repeat(100) + ";", 1, 6);
            fails(x, LAW, "wince 1/00000;", 1, 8);
            fails(x, LAW, "wince 4294967297;", 1, 6);
            fails(x, LAW, "wince 1 2;", 1, 8);
            for (char c : new char[] {'/', ':'}) fails(x, SPEECH, "say 1" + c + ";", 1, 5);
        });
        says("; + - * / ( ) < = > .", () -> {
            LastToWince x = small();
            reads(x, LAW, "wince 1+2-3*4/5 when (1<2) and 1=1 and 2>1;", 1);
            for (int b = 0; b < 256; b++) {
                if (b % 50 == 0) x = small();
                boolean fits = b == 32 || b == 10 || b >= '0' && b <= '9';
                boolean goesOn = "+-*/;".indexOf(b) >= 0;
                String text = "calm 1" + (char) b + ";";
                if (fits) reads(x, LAW, text, 1);
                else fails(x, LAW, text, 1, goesOn ? 7 : 6);
            }
        });
        says("Blanks (32, 10) between.", () -> {
            LastToWince x = small();
            reads(x, SPEECH, "\n say\n1  for \n 2 ;\n\n", 1);
            for (int b = 0; b < 256; b++) {
                if (b % 50 == 0) x = small();
                if (b == 32 || b == 10) reads(x, b % 4, "" + (char) b, 0);
                else fails(x, b % 4, "" + (char) b, 1, 0);
            }
            reads(x, LAW, " ".repeat(400), 0);
            reads(x, LAW, " ".repeat(393) + "calm 1;", 1);
        });
        says("Ints, which wrap; / goes towards 0.", () -> {
            LastToWince x = small();
            is("2^32 + 7", winceBy(x, "4096*4096*256+7"), 7);
            is("2^31 is below 0", winceBy(x, "4096*4096*128"), 0);
            is("2^31 - 1 is not", winceBy(x, "4096*4096*128-1"), 1000);
            is("a sum wraps", winceBy(x, "4096*4096*127+4096*4096"), 0);
            is("a difference wraps", winceBy(x, "0-4096*4096*128-1"), 1000);
            is("2^31 below 0", isSo(x, "4096*4096*128<0"), 9);
            // 9999 * 9999 * 23 wraps to -1995427273; by 9999 that is -199562.6.., and that by 9999 -19.9..
            is("towards 0", winceBy(x, "9999*9999*23/9999/9999+100"), 81);
            is("towards 0, above it", winceBy(x, "9999/100"), 99);
            is("by 1", winceBy(x, "7/1"), 7);
            is("by more than it is", winceBy(x, "7/9999"), 0);
        });
    }

    // ------------------------------------------------------------------ faults

    private static void faultsInOrder() {
        says("FAULTS, the first by its place, at one place the least:", () -> {
            LastToWince x = small();
            fails(x, SPEECH, "say 9;say 1 for 99;$", 2, 4);
            fails(x, SPEECH, "say 1 for 0 $", 2, 10);
            fails(x, SPEECH, "$ say 9;", 1, 0);
            fails(x, SPEECH, "say 1;".repeat(15) + "say 8;say 1;", 2, 94);
            fails(x, SPEECH, "say 1;".repeat(16) + "say 8;", 3, 96);
            fails(x, LAW, "calm 1/0", 2, 7);
            fails(x, LAW, "calm 1 1/0;", 1, 7);
            fails(x, PINCHES, "dealer 2 pinches 2;", 2, 7);
            fails(x, SALE, "bar 2 dark;", 2, 4);
            // where it can't stand, it is no matter that it would be beyond a bound or the ninth
            fails(x, SPEECH, "say 1 99;", 1, 6);
            fails(x, LAW, "calm 1 when ((((((((1<(", 1, 22);
            fails(x, LAW, "calm 1 when ((((((((1=1 not", 1, 24);
            fails(x, LAW, "calm 1;".repeat(16) + "when", 1, 112);
            fails(x, LAW, "calm 1;".repeat(16) + "calms 1;", 1, 112);
            fails(x, LAW, "calm 1;".repeat(16) + ";", 1, 112);
        });
    }

    private static void faultsOne() {
        says("1 what can't stand there (the end: the text's length).", () -> {
            String[][] parts = {
                {"calm", " 1", " +", " 2", " when", " 1", " <", " 2", " and", " not", " (", " 1", " =", " 1", " )"},
                {"say", " 1", " for", " 2"}, {"dealer", " 0", " pinches", " 1"}, {"lot", " 0", " dark"}};
            for (int k = 0; k < 4; k++) {
                LastToWince x = small();
                StringBuilder text = new StringBuilder();
                for (String part : parts[k]) {
                    text.append(part);
                    fails(x, k, text.toString(), 1, text.length());
                    fails(x, k, text + " \n ", 1, text.length() + 3);
                }
                reads(x, k, text + ";", 1);
            }
            LastToWince x = small();
            fails(x, LAW, "calm" + "1+".repeat(198), 1, 400);
            fails(x, LAW, "calm 1" + " ".repeat(394), 1, 400);
            reads(x, LAW, "calm 1" + " ".repeat(393) + ";", 1);
            fails(x, LAW, " ".repeat(399) + "$", 1, 399);
            fails(x, LAW, "calm" + " ".repeat(395) + "7", 1, 400);
            fails(x, LAW, " ".repeat(396) + "calm", 1, 400);
            fails(x, LAW, "calm " + "z".repeat(395), 1, 5);
        });
    }

    private static void faultsTwo() {
        says("2 (at the NUMBER) a part by 0; one beyond its bounds;", () -> {
            LastToWince x = small();
            fails(x, LAW, "calm 1/0;", 2, 7);
            fails(x, LAW, "calm 1 /  0000;", 2, 10);
            fails(x, LAW, "calm 1/1/0;", 2, 9);
            fails(x, LAW, "calm 1 when 1<2/0;", 2, 16);
            reads(x, LAW, "calm 1/1;calm 1/9999;calm 0/1;calm 1*0;", 4);
            fails(x, SPEECH, "say 8;", 2, 4);
            fails(x, SPEECH, "say 9999;", 2, 4);
            fails(x, SPEECH, "say 1 for 0;", 2, 10);
            fails(x, SPEECH, "say 1 for 61;", 2, 10);
            fails(x, SPEECH, "say 1 for 9999;", 2, 10);
            reads(x, SPEECH, "say 0;say 7;say 1 for 1;say 1 for 60;", 4);
        });
        says("a DEALER, a LOT that there is not; the same DEALER again (of PINCHES).", () -> {
            LastToWince x = small();
            fails(x, PINCHES, "dealer 2 pinches 0;", 2, 7);
            fails(x, PINCHES, "dealer 0 pinches 2;", 2, 17);
            fails(x, PINCHES, "dealer 9999 pinches 0;", 2, 7);
            fails(x, PINCHES, "dealer 1 pinches 0001;", 2, 17);
            reads(x, PINCHES, "dealer 1 pinches 0;dealer 0 pinches 1;dealer 0 pinches 1;", 3);
            fails(x, SALE, "lot 1;", 2, 4);
            fails(x, SALE, "bar 2;", 2, 4);
            fails(x, SALE, "admit 2;", 2, 6);
            reads(x, SALE, "lot 0;bar 1;admit 1;bar 1;", 4);
            x.lot(0, 0);
            x.lot(0, 0);
            reads(x, SALE, "lot 2;", 1);
            fails(x, SALE, "bar 2;", 2, 4);
            LastToWince none = new LastToWince();
            fails(none, PINCHES, "dealer 0 pinches 0;", 2, 7);
            fails(none, SALE, "lot 0;", 2, 4);
            fails(none, SALE, "bar 0;", 2, 4);
            LastToWince all = crowd(10, 12);
            reads(all, SALE, "lot 11;bar 9;admit 9;", 3);
            fails(all, SALE, "lot 12;", 2, 4);
            fails(all, SALE, "bar 10;", 2, 4);
            fails(all, PINCHES, "dealer 9 pinches 10;", 2, 17);
            is("those that stay", all.look(12), 3);
        });
    }

    private static void faultsThree() {
        says("3 (at its KEYWORD) the 17th line of a text;", () -> {
            for (int k = 0; k < 4; k++) {
                LastToWince x = small();
                String most = LINE[k].repeat(16);
                fails(x, k, most + " \n " + LINE[k], 3, most.length() + 3);
                fails(x, k, most + LINE[k].substring(0, 3) + (k == LAW ? "m" : k == PINCHES ? "ler" : ""), 3,
                    most.length());
                reads(x, k, most + " \n ", 16);
            }
        });
        says("(at it) the 9th ( or not that is open.", () -> {
            LastToWince x = small();
            String nots = "not ".repeat(8);
            String opens = "(".repeat(8);
            reads(x, LAW, "calm 1 when " + nots + "1=1;", 1);
            reads(x, LAW, "calm 1 when " + opens + "1=1" + ")".repeat(8) + ";", 1);
            fails(x, LAW, "calm 1 when " + nots + "not 1=1;", 3, 44);
            fails(x, LAW, "calm 1 when " + nots + "(1=1);", 3, 44);
            fails(x, LAW, "calm 1 when " + opens + "(1=1", 3, 20);
            fails(x, LAW, "calm 1 when " + opens + "not", 3, 20);
            fails(x, LAW, "calm 1 when " + opens + "1=1 and (", 3, 28);
            fails(x, LAW, "calm 1 when " + opens + "1=1 or not", 3, 27);
            // those that are closed again count no more
            reads(x, LAW, "calm 1 when " + "(1=1) and ".repeat(9) + "1=1;", 1);
            reads(x, LAW, "calm 1 when " + "not 1=1 or ".repeat(9) + "1=1;", 1);
            reads(x, LAW, "calm 1 when " + "(".repeat(7) + "(1=1) and not 1=1 and (1=1)" + ")".repeat(7) + ";", 1);
            fails(x, LAW, "calm 1 when " + "(".repeat(7) + "(1=1) and not (", 3, 33);
            reads(x, LAW, "calm 1 when " + "(not ".repeat(4) + "1=1" + ")".repeat(4) + ";calm 1 when ((1=1));", 2);
            is("deep and wide", isSo(x, "1=2 or 1=1 and (".repeat(8) + "1+1*2=2+1*1" + ")".repeat(8)), 9);
            is("deep and wide", isSo(x, "1=2 or 1=1 and (".repeat(8) + "1+1*2=2+1*2" + ")".repeat(8)), 4);
        });
    }

    // ------------------------------------------------------------------ what the law tells

    private static void toldByLaw() {
        says("What THE LAW tells of a DEALER at a LOT for a word: E of the first line with that word whose B is so, "
            + "or that has none", () -> {
            LastToWince x = small();
            tell(x, LAW, "price 1;wince 2 when 1=2;wince 3 when 1=1;wince 4;");
            is("the first that is so", x.winces(0, 0, 0), 3);
            tell(x, LAW, "wince 4;wince 3 when 1=1;");
            is("the first that has none", x.winces(0, 0, 0), 4);
            tell(x, LAW, "wince 1 when word=7;wince 2 when word=0;wince 3;");
            is("word 7", x.winces(0, 0, 7), 1);
            is("word 0", x.winces(0, 0, 0), 2);
            is("word 1", x.winces(0, 0, 1), 3);
        });
        says("(none: wince: 300 less 3 times nerve, price: worth by 2, calm: 5)", () -> {
            LastToWince x = room(9999, 0, 99, 94, 95);
            x.lot(0, 999);
            is("nerve 0", x.winces(0, 0, 0), 300);
            is("nerve 99", x.winces(1, 0, 0), 3);
            tell(x, LAW, "wince 1 when 1=2;price 2 when 1=2;calm 3 when 1=2;");
            is("none that is so", x.winces(0, 0, 0), 300);
            is("worth 999 by 2", x.would(0, 2), 499);
            tell(x, LAW, "");
            for (int worth = 0; worth < 4; worth++) {
                x.set(3, 0, worth);
                is("worth by 2", x.would(0, 2), worth / 2);
            }
            LastToWince alone = room(9999, 40);
            alone.lot(0, 0);
            tell(alone, LAW, "wince 1;price 2;");
            alone.sell(0);
            is("calm 5", alone.of(0, 0), 45);
        });
        says("wince held to 0 .. 1000, price to 0 .. 9999, calm to 0 .. 99", () -> {
            LastToWince x = small();
            String[] e = {"0-1", "0", "1", "999", "1000", "1001", "9999*9999"};
            int[] due = {0, 0, 1, 999, 1000, 1000, 1000};
            for (int i = 0; i < e.length; i++) is(e[i], winceBy(x, e[i]), due[i]);
            LastToWince rich = room(9999, 7);
            for (int l = 0; l < 4; l++) rich.lot(0, 10);
            String[] laws = {"price 0-1;calm 0-1;", "price 0;calm 0;", "price 1;calm 1;", "price 9999+1;calm 99+1;"};
            int[] purses = {9999, 9999, 9998, 0};
            int[] nerves = {7, 7, 8, 99};
            for (int calm = 98; calm <= 100; calm++) {
                LastToWince nervous = room(1, 0);
                nervous.lot(0, 0);
                tell(nervous, LAW, "calm " + calm + ";");
                nervous.sell(0);
                is("nerve by calm " + calm, nervous.of(0, 0), Math.min(99, calm));
            }
            for (int l = 0; l < 4; l++) {
                tell(rich, LAW, laws[l]);
                rich.sell(l);
                is("purse by " + laws[l], rich.of(0, 2), purses[l]);
                is("nerve by " + laws[l], rich.of(0, 0), nerves[l]);
            }
        });
        says("nerve, skin, blind, winced: his; kind, worth: the LOT's; word: the WORD that is said (price, calm: 0);",
            () -> {
            LastToWince x = new LastToWince();
            x.dealer(11, 1, 500, false);
            x.dealer(22, 2, 500, true);
            x.lot(3, 33);
            x.lot(4, 44);
            tell(x, SPEECH, "say 6;");
            String[] e = {"nerve", "skin", "blind", "winced", "kind", "worth", "word"};
            int[][] due = {{11, 1, 0, 0, 3, 33, 6}, {22, 2, 1, 0, 4, 44, 7}};
            for (int i = 0; i < e.length; i++) {
                tell(x, LAW, "wince " + e[i] + ";");
                for (int who = 0; who < 2; who++) is(e[i], x.winces(who, who, 6 + who), due[who][i]);
            }
            tell(x, LAW, "wince 1000;price 50+word;calm 60+word;");
            x.sell(0);
            is("said was", x.book(0, 3), 6);
            is("price's word is 0", x.of(1, 2), 450);
            is("calm's word is 0", x.of(1, 0), 82);
            tell(x, LAW, "wince winced*10;");
            is("winced once", x.winces(0, 1, 0), 10);
        });
        says("minute: how many minutes it has been described (0 the first); dark: DARK; in: how many are IN then.",
            () -> {
            LastToWince x = crowd(3, 2);
            tell(x, LAW, "wince 1000 when skin=0 and minute=0;wince 1000 when skin=1 and minute=1 and in=2;wince 0;"
                + "price 7+minute+in;");
            x.sell(0);
            are("in the first", bookLine(x, 0), 0, 0, 0, 0);
            are("in the second two are in", bookLine(x, 1), 1, 0, 1, 0);
            is("two minutes, one in", x.look(4), 10);
            x.sell(1);
            are("from 0 again for another lot", bookLine(x, 3), 2, 0, 0, 0);
            tell(x, LAW, "wince 5+dark;");
            is("light", x.winces(0, 0, 0), 5);
            x.act(2, 0);
            is("dark", x.winces(0, 0, 0), 6);
        });
    }

    private static void winces() {
        says("wince of a DEALER at a LOT by a WORD (minute 0; in: all that would be IN);", () -> {
            LastToWince x = crowd(10, 12);
            tell(x, LAW, "wince in*100+minute*10+word;");
            is("all", x.winces(9, 11, 7), 1000);
            tell(x, LAW, "wince in*10+minute*500+word;");
            is("all", x.winces(9, 11, 7), 107);
            x.set(2, 9, 0);
            is("not who has nothing", x.winces(9, 11, 0), 90);
            x.set(2, 9, 1);
            is("but who has 1", x.winces(9, 11, 0), 100);
            for (int d = 0; d < 9; d++) x.act(0, d);
            is("not who is barred", x.winces(0, 0, 0), 10);
            x.act(0, 9);
            is("nobody", x.winces(0, 0, 0), 0);
            x.act(1, 9);
            x.sell(0);
            is("of a lot that is sold", x.winces(9, 0, 3), 3);
        });
        says("in: all that would be IN); NONE if one can't be.", () -> {
            LastToWince x = full();
            for (int v : new int[] {-1, LOW, HIGH}) {
                is("dealer " + v, x.winces(v, 0, 0), NONE);
                is("lot " + v, x.winces(0, v, 0), NONE);
                is("word " + v, x.winces(0, 0, v), NONE);
            }
            is("dealer 10", x.winces(10, 0, 0), NONE);
            is("lot 12", x.winces(0, 12, 0), NONE);
            is("word 8", x.winces(0, 0, 8), NONE);
            is("the last of each", x.winces(9, 11, 7), 30);
            is("one beyond those there are", half().winces(3, 0, 0), NONE);
            is("one beyond those there are", half().winces(0, 2, 0), NONE);
            is("no lots", crowd(1, 0).winces(0, 0, 0), NONE);
        });
    }

    private static void word() {
        says("The WORD of SPEECH for a minute (0 .. 199); NONE if one can't be.", () -> {
            List<LastToWince> both = Arrays.asList(new LastToWince(), full());
            for (int i = 0; i < 2; i++) {
                LastToWince x = both.get(i);
                is("the first", x.word(0), 7 * i);
                is("the last", x.word(199), 7 * i);
                for (int minute : new int[] {-1, 200, LOW, HIGH}) is("word(" + minute + ")", x.word(minute), NONE);
            }
        });
    }
}
