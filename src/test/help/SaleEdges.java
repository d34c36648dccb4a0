/** The selling of lots, the house, and the book. */
final class SaleEdges extends Checks {
    static void all() {
        sell();
        whoIsIn();
        minutes();
        wincing();
        pinched();
        nobodyLeft();
        light();
        paying();
        nerve();
        house();
        book();
    }

    private static void sell() {
        says("To SELL: who has it (NONE: nobody);", () -> {
            LastToWince x = crowd(10, 12);
            for (int d = 0; d < 9; d++) x.act(0, d);
            is("the last has the last", x.sell(11), 9);
            x.act(0, 9);
            is("all are barred", x.sell(0), NONE);
            is("it is not sold", x.lotOf(0, 2), NONE);
            is("no dealers", crowd(0, 1).sell(0), NONE);
            LastToWince poor = room(0, 50);
            poor.lot(0, 1);
            is("nothing in his purse", poor.sell(0), NONE);
        });
        says("NONE - 1 if there is none such, or it is SOLD.", () -> {
            for (int lot : new int[] {-1, 2, 12, LOW, HIGH, 0}) {
                refused("sell(" + lot + ")", Checks::half, x -> x.sell(lot), NO_SUCH);
            }
            refused("the thirteenth", Checks::full, x -> x.sell(12), NO_SUCH);
            refused("the one that is sold", Checks::full, x -> x.sell(11), NO_SUCH);
            LastToWince x = crowd(1, 1);
            is("it is the first dealer's", x.sell(0), 0);
            is("so it is sold", x.sell(0), NO_SUCH);
            is("no lots", crowd(1, 0).sell(0), NO_SUCH);
        });
    }

    private static void whoIsIn() {
        says("3. To SELL a LOT not SOLD: IN are all DEALERS not BARRED with PURSE above 0", () -> {
            LastToWince x = crowd(4, 2);
            tell(x, LAW, "wince 0;price in*10;calm 0;");
            x.act(0, 3);
            x.set(2, 2, 0);
            x.set(2, 1, 1);
            x.state(0);
            x.set(0, 3, 99);
            x.set(0, 2, 98);
            x.set(0, 1, 97);
            is("the one whose purse is 1", x.sell(0), 1);
            is("two drew 200 times", x.look(8), drawn(0, 400));
            is("he has 0 now", x.of(1, 2), 0);
            is("and is not in", x.sell(1), 0);
            is("no more draws", x.look(8), drawn(0, 400));
        });
        says("(none: it is an act that does nothing).", () -> {
            for (int why = 0; why < 3; why++) {
                int cause = why;
                LastToWince x = emptied(cause);
                is("nobody", x.sell(1), NONE);
                is("it is an act", x.look(13), 1);
                is("it can be undone", x.undo(), true);
                same("it changed something", x, emptied(cause));
                x = emptied(cause);
                x.sell(1);
                LastToWince y = emptied(cause);
                y.house();
                same("as an empty house", x, y);
            }
        });
    }

    /** Nobody can be in: there are no dealers, all are barred, or none has anything. */
    private static LastToWince emptied(int why) {
        LastToWince x = crowd(why == 0 ? 0 : 3, 2);
        for (int d = 0; d < x.look(0); d++) {
            if (why == 1) x.act(0, d);
            else x.set(2, d, 0);
        }
        x.state(99);
        return x;
    }

    private static void minutes() {
        says("Minute by minute, while more than one is IN, 200 at most:", () -> {
            LastToWince alone = room(50, 7);
            alone.lot(0, 10);
            tell(alone, LAW, "wince 1000;price 20+minute*10+in;");
            is("one alone", alone.sell(0), 0);
            is("no minute", alone.look(3), 0);
            is("no draw", alone.look(8), 0);
            is("he does not wince", alone.of(0, 5), 0);
            is("price by minute 0 and in 1", alone.look(4), 21);
            is("one line", alone.look(7), 1);
            LastToWince x = lastWinceAt(198);
            is("in the last but one", x.look(3), 199);
            x = lastWinceAt(199);
            is("in the last of all", x.look(3), 200);
            is("who did not wince", x.lotOf(0, 2), 1);
            is("no light gave it", x.book(1, 1), 2);
            x = lastWinceAt(200);
            is("there is none behind it", x.look(3), 200);
            is("the light gives it to 0", x.lotOf(0, 2), 0);
            is("draws of 200 minutes", x.look(8), drawn(0, 400));
            is("nobody winced", x.of(0, 5), 0);
        });
        says("the WORD of SPEECH for it (from its beginning for each LOT);", () -> {
            LastToWince x = crowd(2, 2);
            tell(x, LAW, "wince 1000 when minute=2 and skin=0;wince 0;");
            tell(x, SPEECH, "say 1;say 2;say 3;say 4;");
            x.sell(0);
            is("the third word", x.book(0, 3), 3);
            x.sell(1);
            is("from the beginning", x.book(2, 3), 3);
            tell(x, SPEECH, "");
            LastToWince y = crowd(2, 1);
            tell(y, LAW, "wince 1000;");
            y.sell(0);
            is("no speech", y.book(0, 3), 0);
        });
        says("MINUTE is one more for each.", () -> {
            LastToWince x = crowd(2, 2);
            tell(x, LAW, "wince 1000 when minute=4 and skin=0;wince 0;");
            x.sell(0);
            is("five", x.look(3), 5);
            x.sell(1);
            is("ten", x.look(3), 10);
        });
    }

    /** Two dealers, of whom the first has more nerve and winces at a minute alone. */
    private static LastToWince lastWinceAt(int minute) {
        LastToWince x = room(50, 90, 10);
        x.lot(0, 10);
        tell(x, LAW, "wince 1000 when skin=0 and minute=" + minute + ";wince 0;");
        x.sell(0);
        return x;
    }

    private static void wincing() {
        says("DEALER by DEALER that is IN (as at the minute's beginning; in so many too): a DRAW of 1000: below wince "
            + "(asked ahead) he WINCES: WINCED one more, he is out behind this minute.", () -> {
            LastToWince x = crowd(4, 2);
            tell(x, LAW, "wince 1000 when in=4 and skin<3;wince 0;");
            is("all three wince in one minute", x.sell(0), 3);
            is("one minute", x.look(3), 1);
            for (int d = 0; d < 4; d++) is("winced", x.of(d, 5), d < 3 ? 1 : 0);
            is("four draws", x.look(8), drawn(0, 4));
            for (int i = 0; i < 3; i++) are("one behind the other", bookLine(x, i), 0, 0, i, 0);
            x.sell(1);
            is("once more each", x.of(0, 5) + x.of(1, 5) + x.of(2, 5), 6);
        });
        says("a DRAW of 1000: below wince", () -> {
            int v = 0;
            while (drawOf(v) != 999) v++;
            is("999 is below 1000", winced(v, 1000), 1);
            is("999 is not below 999", winced(v, 999), 0);
            while (drawOf(v) != 0) v++;
            is("0 is below 1", winced(v, 1), 1);
            is("0 is not below 0", winced(v, 0), 0);
        });
    }

    private static int winced(int state, int wince) {
        LastToWince x = crowd(2, 1);
        tell(x, LAW, "wince " + wince + " when skin=0 and minute=0;wince 0;");
        x.state(state);
        x.sell(0);
        return x.of(0, 5);
    }

    private static void pinched() {
        says("Behind all: whom one of those that WINCED pinches, is IN yet and does not wince, is out too "
            + "(not WINCED; he drags no more).", () -> {
            LastToWince x = crowd(10, 1);
            tell(x, LAW, "wince 1000 when minute=0 and skin=9;wince 1000 when minute=1 and skin=5;wince 0;");
            tell(x, PINCHES, "dealer 9 pinches 0;dealer 0 pinches 1;dealer 9 pinches 8;dealer 5 pinches 0;"
                + "dealer 5 pinches 4;dealer 5 pinches 9;dealer 3 pinches 2;");
            x.state(0);
            x.sell(0);
            are("winced", bookLine(x, 0), 0, 0, 9, 0);
            are("dragged", bookLine(x, 1), 0, 1, 0, 0);
            are("dragged", bookLine(x, 2), 0, 1, 8, 0);
            are("the dragged drag nobody", bookLine(x, 3), 1, 0, 5, 0);
            are("who is out is not dragged again", bookLine(x, 4), 1, 1, 4, 0);
            are("and the light gives", bookLine(x, 5), 200, 3, 1, 0);
            is("dragged is not winced", x.of(0, 5) + x.of(8, 5) + x.of(4, 5), 0);
            is("ten draws, seven, then five for each", x.look(8), drawn(0, 10 + 7 + 198 * 5));
        });
        says("is IN yet and does not wince, is out too", () -> {
            LastToWince x = crowd(4, 2);
            x.act(0, 3);
            tell(x, LAW, "wince 1000 when skin<2;wince 0;");
            tell(x, PINCHES, "dealer 0 pinches 1;dealer 1 pinches 0;dealer 0 pinches 3;dealer 3 pinches 2;");
            is("the one whom a barred one pinches", x.sell(0), 2);
            is("two winced, none was dragged", x.look(7), 3);
            are("who winces himself is not dragged", bookLine(x, 1), 0, 0, 1, 0);
            are("sold", bookLine(x, 2), 1, 2, 2, 0);
        });
    }

    private static void nobodyLeft() {
        says("Is nobody IN then, of those that were at the minute's beginning the one with most NERVE "
            + "(of several the least) stays IN, he alone.", () -> {
            LastToWince x = room(50, 90, 20, 30, 30);
            x.lot(0, 10);
            tell(x, LAW, "wince 1000 when minute=0 and skin=0;wince 1000 when minute=1 and skin<3;wince 0;"
                + "price 7+minute;calm 1;");
            tell(x, PINCHES, "dealer 1 pinches 3;");
            is("the least of those with 30, not the one with 90", x.sell(0), 2);
            is("he winced", x.of(2, 5), 1);
            is("he is no other: his nerve is calm more", x.of(2, 0), 31);
            is("who was dragged", x.of(3, 0), 30);
            is("two minutes", x.look(3), 2);
            is("price by two minutes", x.look(4), 9);
            is("the light did not give", x.book(x.look(7) - 1, 1), 2);
            is("lines", x.look(7), 5);
            LastToWince y = room(50, 1, 50);
            y.lot(0, 10);
            tell(y, LAW, "wince 1000 when skin=0;wince 0;");
            tell(y, PINCHES, "dealer 0 pinches 1;");
            is("the dragged one stays", y.sell(0), 1);
            are("dragged all the same", bookLine(y, 1), 0, 1, 1, 0);
            LastToWince all = crowd(10, 1);
            tell(all, LAW, "wince 1000;");
            is("all alike", all.sell(0), 0);
            all = room(50, 0, 0, 0, 0, 0, 0, 0, 0, 0, 1);
            all.lot(0, 10);
            tell(all, LAW, "wince 1000;");
            is("the last has more", all.sell(0), 9);
        });
    }

    private static void light() {
        says("Are several IN behind 200, the one with most NERVE (of several the least) has it: the light gives.", () -> {
            LastToWince x = room(50, 20, 40, 40, 90);
            x.lot(0, 10);
            tell(x, LAW, "wince 1000 when skin=3 and minute=199;wince 0;price 2+minute/10;calm 0;");
            is("the least of those with 40", x.sell(0), 1);
            are("who winced in the last minute", bookLine(x, 0), 199, 0, 3, 0);
            are("the light", bookLine(x, 1), 200, 3, 1, 0);
            are("sold", bookLine(x, 2), 200, 2, 1, 0);
            is("price by 200 minutes", x.look(4), 22);
            is("200 minutes", x.look(3), 200);
            is("who stayed and has nothing loses no nerve", x.of(0, 0), 20);
            x = room(50, 0, 0, 0, 0, 0, 0, 0, 0, 0, 0);
            x.lot(0, 10);
            tell(x, LAW, "wince 0;");
            is("all alike", x.sell(0), 0);
            is("two lines", x.look(7), 2);
        });
    }

    private static void paying() {
        says("Who has it: price is asked (in: 1, minute: how many there were), he pays it, or PURSE, if that is less: "
            + "PURSE less, TAKEN more; SOLD to him, LOTS one more,", () -> {
            int[][] due = {{49, 1}, {50, 0}, {50, 0}};
            for (int i = 0; i < 3; i++) {
                LastToWince x = room(50, 10, 20);
                x.lot(0, 10);
                x.act(0, 0);
                tell(x, LAW, "price " + (49 + i) + ";");
                is("who", x.sell(0), 1);
                is("taken", x.look(4), due[i][0]);
                is("purse", x.of(1, 2), due[i][1]);
                is("the other's purse", x.of(0, 2), 50);
                is("sold", x.lotOf(0, 2), 1);
                is("lots", x.of(1, 6), 1);
                is("the other's lots", x.of(0, 6), 0);
            }
            LastToWince x = room(9999, 10);
            for (int l = 0; l < 12; l++) x.lot(0, 2 * l);
            for (int l = 0; l < 12; l++) {
                x.sell(l);
                is("lots", x.of(0, 6), l + 1);
                is("taken and purse", x.look(4) + x.of(0, 2), 9999);
            }
            is("0 + 1 + .. + 11", x.look(4), 66);
        });
        says("Quotients go downwards.", () -> {
            LastToWince x = room(9999, 10);
            x.lot(0, 1);
            x.lot(0, 999);
            x.sell(0);
            is("1 by 2", x.look(4), 0);
            x.sell(1);
            is("999 by 2", x.look(4), 499);
            x.claim(1);
            x.claim(1);
            is("a half", x.shares(1, 0), 0);
        });
    }

    private static void nerve() {
        says("NERVE is calm more (99 at most; asked behind).", () -> {
            int[] nerve = {0, 93, 94, 95, 99};
            int[] then = {5, 98, 99, 99, 99};
            for (int i = 0; i < nerve.length; i++) {
                LastToWince x = room(50, nerve[i]);
                x.lot(0, 10);
                x.sell(0);
                is("calm 5", x.of(0, 0), then[i]);
            }
            LastToWince x = room(50, 10, 0);
            x.lot(0, 10);
            tell(x, LAW, "wince 1000;calm winced*20+minute*3+in+nerve;");
            x.sell(0);
            is("by what is so then", x.of(0, 0), 10 + 20 + 3 + 1 + 10);
        });
        says("Of all others that were IN at first and WINCED at it NERVE is 3 less (0 at least).", () -> {
            LastToWince x = room(50, 98, 0, 1, 2, 3, 4, 99, 50, 50, 98);
            x.lot(0, 10);
            x.lot(0, 10);
            x.act(0, 7);
            tell(x, LAW, "wince 1000 when nerve<99 and skin<8;wince 1000 when minute=3 and skin=9;"
                + "wince 0;calm 0;");
            tell(x, PINCHES, "dealer 9 pinches 8;");
            is("who does not wince", x.sell(0), 6);
            int[] due = {95, 0, 0, 0, 0, 1, 99, 50, 50, 95};
            for (int d = 0; d < 10; d++) is("nerve of " + d, x.of(d, 0), due[d]);
            tell(x, LAW, "wince 0;calm 0;");
            x.sell(1);
            for (int d = 0; d < 10; d++) is("who does not wince at it loses none", x.of(d, 0), due[d]);
        });
    }

    private static void house() {
        says("THE HOUSE: line by line of A SALE: lot: dark, light: DARK 1, 0; it is SOLD, if it is not; "
            + "bar, admit: BARRED 1, 0.", () -> {
            LastToWince x = crowd(3, 12);
            tell(x, LAW, "wince 0;price 1+dark*10;");
            tell(x, SALE, "bar 0;bar 0;lot 0 dark;lot 0 light;bar 1;lot 11 dark;lot 11;admit 0;admit 0;lot 5 light;");
            is("three are sold", x.house(), 3);
            is("0 in the dark, 11 in the dark, 5 in the light", x.look(4), 11 + 11 + 1);
            is("to one of 1 and 2", x.lotOf(0, 2), 1);
            is("to 2 alone", x.lotOf(11, 2), 2);
            is("barred", x.look(5), 2);
            is("light", x.look(2), 0);
            is("the book tells which", x.book(x.look(7) - 1, 3), 5);
            is("all are sold already", x.house(), 0);
            is("one more of each", x.look(13), 2);
            LastToWince y = crowd(1, 4);
            tell(y, LAW, "price 1+dark*10;");
            tell(y, SALE, "lot 0 dark;lot 1;lot 2 light;lot 3;");
            is("four are sold", y.house(), 4);
            is("where neither is told it is as it was", y.look(4), 11 + 11 + 1 + 1);
            tell(y, SALE, "lot 0 dark;");
            is("none is sold", y.house(), 0);
            is("it is dark all the same", y.look(2), 1);
        });
        says("THE HOUSE: how many LOTS were sold.", () -> {
            LastToWince x = room(9999, 50);
            is("an empty sale", x.house(), 0);
            is("it is an act", x.look(13), 1);
            for (int l = 0; l < 12; l++) x.lot(0, 10);
            StringBuilder sale = new StringBuilder();
            for (int l = 0; l < 12; l++) sale.append("lot ").append(l).append(";");
            tell(x, SALE, sale + "lot 0;".repeat(4));
            is("twelve", x.house(), 12);
            is("none of them again", x.house(), 0);
            x.undo();
            x.undo();
            x.act(0, 0);
            is("nobody is in", x.house(), 0);
            is("none is sold", x.look(6), 4095);
            x.undo();
            x.undo();
            is("one by hand", x.sell(3), 0);
            is("eleven", x.house(), 11);
        });
    }

    private static void book() {
        says("THE BOOK (150 lines; no more then):", () -> {
            // ten that wince and one sale are the most that twelve lots can have: the book holds them all
            LastToWince x = crowd(10, 12);
            for (int d = 0; d < 10; d++) x.set(2, d, 9999);
            tell(x, LAW, "wince 1000;price 0;calm 0;");
            StringBuilder sale = new StringBuilder();
            for (int l = 0; l < 12; l++) sale.append("lot ").append(l).append(";");
            tell(x, SALE, sale.toString());
            is("all are sold", x.house(), 12);
            is("lines", x.look(7), 132);
            for (int l = 0; l < 12; l++) {
                are("first", bookLine(x, 11 * l), l, 0, 0, 0);
                are("tenth", bookLine(x, 11 * l + 9), l, 0, 9, 0);
                are("sold", bookLine(x, 11 * l + 10), l + 1, 2, 0, l);
            }
            is("no more", x.book(132, 0), NONE);
            is("no more", x.book(149, 0), NONE);
            is("no more", x.book(150, 0), NONE);
        });
        says("MINUTE, what (0 winced, 1 dragged out, 2 sold, 3 the light gave), the DEALER, which (0, 1: the WORD; "
            + "2: the LOT; 3: the LOT, ahead of its 2).", () -> {
            LastToWince x = crowd(4, 12);
            tell(x, LAW, "wince 1000 when skin=0 and minute=3;wince 0;");
            tell(x, SPEECH, "say 5 for 3;say 7;");
            tell(x, PINCHES, "dealer 0 pinches 3;");
            x.sell(11);
            are("winced", bookLine(x, 0), 3, 0, 0, 7);
            are("dragged out", bookLine(x, 1), 3, 1, 3, 7);
            are("the light", bookLine(x, 2), 200, 3, 1, 11);
            are("sold", bookLine(x, 3), 200, 2, 1, 11);
            is("lines", x.look(7), 4);
        });
        says("Of line i of THE BOOK what 0 MINUTE, 1 what, 2 the DEALER, 3 which. NONE if there is none such, "
            + "or another what.", () -> {
            for (int what = 0; what < 4; what++) is("empty", new LastToWince().book(0, what), NONE);
            LastToWince x = crowd(1, 2);
            x.sell(1);
            are("the first line", bookLine(x, 0), 0, 2, 0, 1);
            for (int i : new int[] {-1, 1, 150, LOW, HIGH}) {
                for (int what = 0; what < 4; what++) is("line " + i, x.book(i, what), NONE);
            }
            for (int what : new int[] {-1, 4, LOW, HIGH}) is("book(0, " + what + ")", x.book(0, what), NONE);
            x.undo();
            is("undone", x.book(0, 0), NONE);
        });
    }
}
