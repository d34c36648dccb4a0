import java.util.function.Consumer;

/** What is undone, what forgets it, and the image. */
final class PastEdges extends Checks {
    static void all() {
        undo();
        kept();
        forgets();
        forgetsNot();
        image();
    }

    private static LastToWince ready() {
        LastToWince x = room(500, 10, 60, 90);
        for (int l = 0; l < 8; l++) x.lot(l % 6, 100 * l);
        tell(x, LAW, "wince 300;price 7;");
        tell(x, PINCHES, "dealer 0 pinches 1;");
        tell(x, SALE, "lot 1 dark;bar 0;lot 2;");
        x.state(-77);
        return x;
    }

    private static void undo() {
        says("UNDO: the latest SELLING, BARRING, ADMITTING, DARK, HOUSE not undone yet goes back (STATE, THE BOOK, too):",
            () -> {
            goesBack("selling", x -> x.sell(0));
            goesBack("barring", x -> x.act(0, 2));
            goesBack("dark", x -> x.act(2, 0));
            goesBack("house", LastToWince::house);
            LastToWince x = ready();
            x.act(0, 2);
            x.act(2, 0);
            x.act(3, 0);
            x.act(1, 2);
            is("admitting goes back", x.undo(), true);
            is("he is barred", x.of(2, 4), 1);
            is("light goes back", x.undo(), true);
            is("it is dark", x.look(2), 1);
            is("two are left", x.look(13), 2);
            x.sell(0);
            is("the latest goes back first", x.undo(), true);
            is("it is dark yet", x.look(2), 1);
            x.undo();
            x.undo();
            same("all undone", x, ready());
        });
        says("UNDO: true; false if there is nothing.", () -> {
            refused("of a new object", LastToWince::new, x -> flag(x.undo()), 0);
            refused("of a room that was told", PastEdges::ready, x -> flag(x.undo()), 0);
            LastToWince x = ready();
            x.act(2, 0);
            is("what is there", x.undo(), true);
            is("it is undone once", x.undo(), false);
            same("nothing changed", x, ready());
        });
    }

    private static void goesBack(String what, Consumer<LastToWince> act) {
        LastToWince x = ready();
        act.accept(x);
        is(what + " is one act", x.look(13), 1);
        is(what + " goes back", x.undo(), true);
        is(what + " is gone", x.look(13), 0);
        same(what + " is undone", x, ready());
        x = ready();
        act.accept(x);
        x.undo();
        act.accept(x);
        LastToWince once = ready();
        act.accept(once);
        same(what + " again is as the first time", x, once);
    }

    private static void kept() {
        says("6 are kept;", () -> {
            LastToWince x = ready();
            for (int l = 0; l < 8; l++) {
                x.sell(l);
                is("what can be undone", x.look(13), Math.min(6, l + 1));
            }
            for (int l = 7; l >= 2; l--) {
                is("undo", x.undo(), true);
                is("not sold any more", x.lotOf(l, 2), NONE);
                is("sold yet", x.lotOf(l - 1, 2) >= 0, true);
                is("what can be undone", x.look(13), l - 2);
            }
            is("no seventh", x.undo(), false);
            LastToWince two = ready();
            two.sell(0);
            two.sell(1);
            two.state(two.state(0));
            same("as behind the first two", x, two);
            // the ring of those kept goes round more than once, with undoing between
            LastToWince y = ready();
            for (int i = 0; i < 20; i++) {
                y.act(2, 0);
                y.act(3, 0);
                y.undo();
                y.act(3, 0);
            }
            is("six", y.look(13), 6);
            for (int i = 0; i < 6; i++) {
                y.undo();
                is("dark and light by turns", y.look(2), (i + 1) % 2);
            }
            is("no seventh", y.undo(), false);
        });
    }

    private static void forgets() {
        says("whatever else is told", () -> {
            forgetsBy("state", true, x -> x.state(5));
            forgetsBy("the state that is", true, x -> x.state(-77));
            forgetsBy("dealer", true, x -> x.dealer(0, 0, 0, false));
            forgetsBy("lot", true, x -> x.lot(0, 0));
            for (int what = 0; what < 5; what++) {
                int its = what;
                forgetsBy("set " + what, true, x -> x.set(its, 0, 1));
            }
            forgetsBy("what is so already", true, x -> x.set(1, 0, 0));
            forgetsBy("pinches", true, x -> tell(x, PINCHES, "dealer 1 pinches 0;"));
            forgetsBy("no pinches", true, x -> tell(x, PINCHES, ""));
            forgetsBy("a sale", true, x -> tell(x, SALE, "bar 1;"));
            forgetsBy("no sale", true, x -> tell(x, SALE, ""));
            forgetsBy("going back to the image", true, x -> x.image(false));
        });
    }

    private static void forgetsNot() {
        says("but THE LAW, SPEECH and what is told for thought (SEEN, RING, OUT, BRINGS, BREATHS) "
            + "(the taking of THE IMAGE does not) forgets them.", () -> {
            forgetsBy("the law", false, x -> tell(x, LAW, "wince 1;"));
            forgetsBy("no law", false, x -> tell(x, LAW, ""));
            forgetsBy("the speech", false, x -> tell(x, SPEECH, "say 1;"));
            forgetsBy("seen", false, x -> x.seen(0, 1));
            forgetsBy("nothing seen", false, x -> x.seen(NONE, 0));
            forgetsBy("a claim", false, x -> x.claim(5));
            forgetsBy("no claim", false, x -> x.claim(NONE));
            forgetsBy("puts", false, x -> x.puts(0, 1));
            forgetsBy("bring", false, x -> x.bring(1, 1));
            forgetsBy("nothing brought", false, x -> x.bring(NONE, 1));
            forgetsBy("breath", false, x -> x.breath(1));
            forgetsBy("no breath", false, x -> x.breath(NONE));
            forgetsBy("the taking of the image", false, x -> x.image(true));
            forgetsBy("a fault", false, x -> tell(x, PINCHES, "$"));
            forgetsBy("no such text", false, x -> x.text(4));
        });
        says("but THE LAW, SPEECH and what is told for thought", () -> {
            LastToWince x = ready();
            x.sell(0);
            tell(x, LAW, "wince 2;");
            tell(x, SPEECH, "say 6;");
            x.seen(2, 1);
            x.claim(9);
            x.puts(0, 7);
            x.bring(9, 9);
            x.breath(9);
            x.undo();
            is("the law is not undone", x.winces(0, 0, 0), 2);
            is("nor the speech", x.word(0), 6);
            is("nor what was seen", x.ranks(10), 2);
            is("nor the ring", x.shares(9, 0), 9);
            is("nor out", x.outs(1), 1);
            is("nor what is brought", x.brings(0), 9);
            is("nor breaths", x.breath(1), 2);
            is("but the selling", x.lotOf(0, 2), NONE);
        });
    }

    private static void forgetsBy(String what, boolean forgets, Consumer<LastToWince> call) {
        LastToWince x = ready();
        x.image(true);
        x.act(2, 0);
        x.sell(7);
        is("two acts", x.look(13), 2);
        call.accept(x);
        is("what can be undone behind " + what, x.look(13), forgets ? 0 : 2);
        is("undo behind " + what, x.undo(), !forgets);
    }

    private static void image() {
        says("THE IMAGE is taken (true), or gone back to (false): true; false if there is none.", () -> {
            refused("of a new object", LastToWince::new, x -> flag(x.image(false)), 0);
            refused("of a room that was told", PastEdges::ready, x -> flag(x.image(false)), 0);
            LastToWince x = new LastToWince();
            is("an empty one is taken", x.image(true), true);
            for (int d = 0; d < 10; d++) x.dealer(d, d, d, true);
            is("it is gone back to", x.image(false), true);
            is("empty", x.look(0), 0);
            is("from the beginning", x.dealer(1, 1, 1, false), 0);
            is("nothing of another", x.of(0, 3), 0);
        });
        says("THE IMAGE: all that is and was told but the TAPE, fault() and what can be undone (nothing then), "
            + "as it was when it was taken; gone back to it may be more than once.", () -> {
            LastToWince x = taken();
            for (int times = 0; times < 2; times++) {
                spoil(x);
                is("gone back", x.image(false), true);
                is("the speech goes back", x.word(1), 4);
                is("the speech goes back", x.look(10), 2);
                is("nothing can be undone", x.undo(), false);
                is("fault() stays", x.fault(0), 2);
                is("its place stays", x.fault(1), 4);
                is("the tape stays", x.text(SPEECH), 1);
                is("the tape stays", x.word(0), 2);
                tell(x, SPEECH, "say 3;say 4;");
            }
            LastToWince y = taken();
            y.state(y.look(8));
            same("as it was", x, y);
        });
        says("as it was when it was taken; gone back to it may be more than once.", () -> {
            // undone behind the image, and other lines written in the book in their place
            for (int act = 0; act <= 2; act += 2) {
                LastToWince again = taken();
                again.undo();
                is("the book is empty", again.look(7), 0);
                tell(again, SPEECH, "say 5;");
                tell(again, LAW, "wince 1000;");
                again.state(123);
                again.act(act, 0);
                again.sell(3);
                again.sell(4);
                again.image(false);
                LastToWince first = taken();
                first.state(first.look(8));
                same("the book of the image", again, first);
            }
            LastToWince x = taken();
            spoil(x);
            x.image(true);
            x.act(2, 0);
            x.image(false);
            is("the latest that was taken", x.look(0), 4);
            is("not what came behind", x.look(2), 0);
            is("it does not forget it", x.image(false), true);
            is("undoing is behind it", x.undo(), false);
        });
    }

    private static LastToWince taken() {
        LastToWince x = ready();
        tell(x, SPEECH, "say 3;say 4;");
        x.sell(0);
        x.seen(0, 1);
        x.seen(1, 2);
        x.claim(4);
        x.claim(5);
        x.puts(7, 7);
        x.bring(9, 1);
        x.bring(8, 2);
        x.breath(4);
        x.breath(3);
        x.image(true);
        return x;
    }

    /** Something else in place of all that an image holds, a fault, and a text on the tape. */
    private static void spoil(LastToWince x) {
        x.dealer(1, 1, 1, true);
        x.lot(1, 1);
        for (int what = 0; what < 5; what++) x.set(what, 0, 3);
        tell(x, LAW, "wince 5;");
        tell(x, PINCHES, "");
        tell(x, SALE, "");
        x.seen(NONE, 0);
        x.seen(3, 0);
        x.claim(NONE);
        x.claim(1);
        x.puts(7, 0);
        x.puts(0, 15);
        x.bring(NONE, 0);
        x.bring(1, 9);
        x.breath(NONE);
        x.breath(1);
        x.state(1);
        x.sell(1);
        x.act(0, 0);
        tell(x, SPEECH, "say 6 for 9;");
        tell(x, SPEECH, "say 9;");
        feedAll(x, "say 2;");
    }
}
