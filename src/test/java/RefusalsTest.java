import java.util.function.Supplier;
import java.util.function.ToIntFunction;

/**
 * Each refusal of each promise: too small, too large, ahead of which other one, and that it changes nothing.
 * For the last, a twin that was not asked must answer a row of calls as the one that refused.
 */
public final class RefusalsTest {
    private static final int NONE = -1, UNKNOWN = -101, OUTSIDE = -102, STATE = -103, FULL = -104;
    private static final int PLAYER = 0, CELLO = 1, DREAMER = 2, SNORER = 3, VIRTUOSO = 4;
    private static final int MIN = Integer.MIN_VALUE, MAX = Integer.MAX_VALUE;
    /** Far from every range, and some that shifts or masks would take for small ones. */
    private static final int[] FAR = {MIN, MIN + 1, -256, -101, -32, -2, -1, 32, 64, 100, 256, 65536, 1 << 30, MAX - 1, MAX};
    private static final Checks c = new Checks();

    private static final Supplier<QuartetNods> NEW = QuartetNods::new;
    /** A PIECE, nobody. */
    private static final Supplier<QuartetNods> EMPTY = () -> Checks.of("s1,l2;5");
    /** Three BARS, one played; two PLAYERS, room for more of all. */
    private static final Supplier<QuartetNods> SOME = RefusalsTest::some;
    /** Four PLAYERS, six TOLD, all BARS played, cups() and order() done, a full PAGE. */
    private static final Supplier<QuartetNods> ALL = RefusalsTest::all;

    public static void main(String[] args) {
        letter();
        piece();
        bar();
        player();
        about();
        as();
        coffee();
        tire();
        play();
        again();
        hearing();
        cups();
        order();
        tell();
        guess();
        listen();
        draughts();
        image();
        restore();
        count();
        c.end();
    }

    private static QuartetNods some() {
        QuartetNods x = Checks.of("s2,l3,r4;6", DREAMER, 7, CELLO, 5);
        x.coffee(0);
        x.tell(1, 2);
        x.play();
        x.cups(0);
        x.order(0);
        x.image();
        x.tire(1, 4);
        x.tell(2, 0);
        Checks.type(x, "s1,x");
        return x;
    }

    private static QuartetNods all() {
        QuartetNods x = Checks.of("s1,l2,a3,r4,s1,l2;5", VIRTUOSO, 3, SNORER, 7, DREAMER, 6, PLAYER, 4);
        for (int i = 0; i < 6; i++) {
            x.tell(i, x.bar(i, 2));
            x.play();
        }
        for (int i = 0; i < 12; i++) {
            x.cups(0);
        }
        for (int i = 0; i < 20; i++) {
            x.order(0);
        }
        x.image();
        Checks.type(x, "s1,l2,a3,r4,s1,l2;5abc");
        return x;
    }

    private static void refused(String call, Supplier<QuartetNods> of, ToIntFunction<QuartetNods> asked, int want) {
        QuartetNods x = of.get();
        c.due(call, asked.applyAsInt(x), want);
        c.due(call + ", asked again", asked.applyAsInt(x), want);
        QuartetNods twin = of.get();
        c.due(call + " changes nothing: digest()", x.digest(), twin.digest());
        ToIntFunction<QuartetNods>[] tail = tail();
        for (int i = 0; i < tail.length; i++) {
            c.due(call + " changes nothing: answer " + i + " behind it", tail[i].applyAsInt(x), tail[i].applyAsInt(twin));
            c.due(call + " changes nothing: digest " + i + " behind it", x.digest(), twin.digest());
        }
    }

    @SuppressWarnings({"unchecked", "rawtypes"})
    private static ToIntFunction<QuartetNods>[] tail() {
        ToIntFunction<QuartetNods> fault = QuartetNods::fault, cups = x -> x.cups(10), order = x -> x.order(10);
        ToIntFunction<QuartetNods> letter = x -> x.letter('s'), player = x -> x.player(SNORER, 9), tell = x -> x.tell(0, 0);
        ToIntFunction<QuartetNods> play = QuartetNods::play, again = QuartetNods::again, restore = QuartetNods::restore;
        ToIntFunction<QuartetNods> piece = QuartetNods::piece, blank = QuartetNods::blank, forget = QuartetNods::forget;
        ToIntFunction<QuartetNods> draughts = x -> x.draughts(3, 7, 2);
        return new ToIntFunction[] {
            fault, cups, order, letter, player, tell, draughts, play, again, play, restore, play, piece, blank, forget,
        };
    }

    /** All numbers that aren't from..to, near and far, are refused so. */
    private static void notWithin(int from, int to, String call, Supplier<QuartetNods> of, Asked asked, int want) {
        for (int n : new int[] {from - 1, from - 2, to + 1, to + 2}) {
            refused(call + " with " + n, of, x -> asked.of(x, n), want);
        }
        for (int n : FAR) {
            if (n < from || n > to) {
                refused(call + " with " + n, of, x -> asked.of(x, n), want);
            }
        }
    }

    private interface Asked {
        int of(QuartetNods x, int n);
    }

    private static void letter() {
        notWithin(1, 126, "2 letter OUTSIDE: code", NEW, QuartetNods::letter, OUTSIDE);
        notWithin(1, 126, "2 letter OUTSIDE: code", SOME, QuartetNods::letter, OUTSIDE);
        notWithin(1, 126, "2 letter OUTSIDE ahead of FULL", ALL, QuartetNods::letter, OUTSIDE);
        refused("2 letter FULL: above 22", ALL, x -> x.letter(1), FULL);
        refused("2 letter FULL: above 22", ALL, x -> x.letter(126), FULL);
        refused("2 letter FULL: above 22", () -> Checks.typed("s1,l2,a3,r4,s1,l2;5abc"), x -> x.letter('s'), FULL);
    }

    private static void piece() {
        refused("5 piece STATE: an empty page", NEW, QuartetNods::piece, STATE);
        refused("5 piece STATE: an empty page", EMPTY, QuartetNods::piece, STATE);
        refused("5 piece STATE: a fault, with a piece", SOME, QuartetNods::piece, STATE);
        refused("5 piece STATE: a full page", ALL, QuartetNods::piece, STATE);
        String[] none = {
            "s", "s1", "s1,", "s1,l", "s1,l2", "s1;", ";", ";5", ",", "5", "s1;5,", "s1;55", "s1;5;", "s1,;5", "s1,,l1;5", "s0;5",
            "s5;5", "s1;0", "x1;5", "S1;5", " s1;5", "s1;5 ", "s1,l2,a3,r4,s1,l2,", "s1,l2,a3,r4,s1,l2,s1", "s1,l2,a3,r4,s1,l2,s1;5",
        };
        for (String text : none) {
            refused("5 piece STATE: " + text, () -> Checks.typed(text), QuartetNods::piece, STATE);
        }
    }

    private static void bar() {
        notWithin(0, -1, "6 bar UNKNOWN: no piece", NEW, (x, n) -> x.bar(n, 0), UNKNOWN);
        notWithin(0, 1, "6 bar UNKNOWN: two bars", EMPTY, (x, n) -> x.bar(n, 0), UNKNOWN);
        notWithin(0, 2, "6 bar UNKNOWN: three bars", SOME, (x, n) -> x.bar(n, 3), UNKNOWN);
        notWithin(0, 5, "6 bar UNKNOWN: six bars", ALL, (x, n) -> x.bar(n, 2), UNKNOWN);
        notWithin(0, 2, "6 bar UNKNOWN ahead of OUTSIDE", SOME, (x, n) -> x.bar(n, 4), UNKNOWN);
        refused("6 bar UNKNOWN ahead of OUTSIDE: no piece", NEW, x -> x.bar(0, -1), UNKNOWN);
        notWithin(0, 3, "6 bar OUTSIDE: what", SOME, (x, n) -> x.bar(0, n), OUTSIDE);
        notWithin(0, 3, "6 bar OUTSIDE: what", ALL, (x, n) -> x.bar(5, n), OUTSIDE);
    }

    private static void player() {
        notWithin(0, 4, "7 player OUTSIDE: kind", SOME, (x, n) -> x.player(n, 0), OUTSIDE);
        notWithin(0, 9, "7 player OUTSIDE: tired", SOME, (x, n) -> x.player(PLAYER, n), OUTSIDE);
        notWithin(0, 4, "7 player OUTSIDE: kind, ahead of STATE", NEW, (x, n) -> x.player(n, 9), OUTSIDE);
        notWithin(0, 9, "7 player OUTSIDE: tired, ahead of STATE", NEW, (x, n) -> x.player(VIRTUOSO, n), OUTSIDE);
        notWithin(0, 4, "7 player OUTSIDE: kind, ahead of FULL", ALL, (x, n) -> x.player(n, 9), OUTSIDE);
        notWithin(0, 9, "7 player OUTSIDE: tired, ahead of FULL", ALL, (x, n) -> x.player(VIRTUOSO, n), OUTSIDE);
        refused("7 player STATE: no piece", NEW, x -> x.player(PLAYER, 0), STATE);
        refused("7 player STATE: no piece, but a page of one", () -> Checks.typed("s1;5"), x -> x.player(VIRTUOSO, 9), STATE);
        for (int kind = PLAYER; kind <= VIRTUOSO; kind++) {
            int of = kind;
            refused("7 player FULL: a fifth of kind " + kind, ALL, x -> x.player(of, 0), FULL);
            refused("7 player FULL: a fifth of kind " + kind, ALL, x -> x.player(of, 9), FULL);
        }
    }

    private static void about() {
        notWithin(0, -1, "8 about UNKNOWN: no piece", NEW, (x, n) -> x.about(n, 0), UNKNOWN);
        notWithin(0, -1, "8 about UNKNOWN: nobody", EMPTY, (x, n) -> x.about(n, 0), UNKNOWN);
        notWithin(0, 1, "8 about UNKNOWN: two", SOME, (x, n) -> x.about(n, 4), UNKNOWN);
        notWithin(0, 3, "8 about UNKNOWN: four", ALL, (x, n) -> x.about(n, 6), UNKNOWN);
        notWithin(0, 1, "8 about UNKNOWN ahead of OUTSIDE", SOME, (x, n) -> x.about(n, 7), UNKNOWN);
        notWithin(0, 6, "8 about OUTSIDE: what", SOME, (x, n) -> x.about(0, n), OUTSIDE);
        notWithin(0, 6, "8 about OUTSIDE: what", ALL, (x, n) -> x.about(3, n), OUTSIDE);
    }

    private static void as() {
        notWithin(0, -1, "9 as UNKNOWN: nobody", EMPTY, (x, n) -> x.as(n, PLAYER), UNKNOWN);
        notWithin(0, 1, "9 as UNKNOWN: two", SOME, (x, n) -> x.as(n, PLAYER), UNKNOWN);
        notWithin(0, 3, "9 as UNKNOWN: four", ALL, (x, n) -> x.as(n, VIRTUOSO), UNKNOWN);
        notWithin(0, 1, "9 as UNKNOWN ahead of OUTSIDE", SOME, (x, n) -> x.as(n, 5), UNKNOWN);
        notWithin(0, 4, "9 as OUTSIDE: kind", SOME, (x, n) -> x.as(1, n), OUTSIDE);
        notWithin(0, 4, "9 as OUTSIDE: kind", ALL, (x, n) -> x.as(0, n), OUTSIDE);
        refused("9 as NONE: the cast fails", SOME, x -> x.as(1, VIRTUOSO), NONE);
    }

    private static void coffee() {
        notWithin(0, -1, "10 coffee UNKNOWN: no piece", NEW, QuartetNods::coffee, UNKNOWN);
        notWithin(0, -1, "10 coffee UNKNOWN: nobody", EMPTY, QuartetNods::coffee, UNKNOWN);
        notWithin(0, 1, "10 coffee UNKNOWN: two", SOME, QuartetNods::coffee, UNKNOWN);
        notWithin(0, 3, "10 coffee UNKNOWN: four", ALL, QuartetNods::coffee, UNKNOWN);
    }

    private static void tire() {
        notWithin(0, -1, "11 tire UNKNOWN: nobody", EMPTY, (x, n) -> x.tire(n, 0), UNKNOWN);
        notWithin(0, 1, "11 tire UNKNOWN: two", SOME, (x, n) -> x.tire(n, 9), UNKNOWN);
        notWithin(0, 3, "11 tire UNKNOWN: four", ALL, (x, n) -> x.tire(n, 0), UNKNOWN);
        notWithin(0, 1, "11 tire UNKNOWN ahead of OUTSIDE", SOME, (x, n) -> x.tire(n, 10), UNKNOWN);
        notWithin(0, 9, "11 tire OUTSIDE: tired", SOME, (x, n) -> x.tire(0, n), OUTSIDE);
        notWithin(0, 9, "11 tire OUTSIDE: tired", ALL, (x, n) -> x.tire(3, n), OUTSIDE);
    }

    private static void play() {
        refused("12 play STATE: no piece", NEW, QuartetNods::play, STATE);
        refused("12 play STATE: all bars were", ALL, QuartetNods::play, STATE);
    }

    private static void again() {
        refused("13 again STATE: no piece", NEW, QuartetNods::again, STATE);
    }

    private static void hearing() {
        notWithin(0, 1, "14 hearing OUTSIDE: what", SOME, QuartetNods::hearing, OUTSIDE);
        notWithin(0, 1, "14 hearing OUTSIDE ahead of STATE", NEW, QuartetNods::hearing, OUTSIDE);
        refused("14 hearing STATE: no piece", NEW, x -> x.hearing(0), STATE);
        refused("14 hearing STATE: no piece", NEW, x -> x.hearing(1), STATE);
    }

    private static void cups() {
        notOfARow("15 cups OUTSIDE: what", SOME, QuartetNods::cups);
        notOfARow("15 cups OUTSIDE ahead of STATE: no piece", NEW, QuartetNods::cups);
        notOfARow("15 cups OUTSIDE ahead of STATE: 12 times", ALL, QuartetNods::cups);
        for (int what : new int[] {0, 10, 15}) {
            refused("15 cups STATE: no piece", NEW, x -> x.cups(what), STATE);
            refused("15 cups STATE: done 12 times", ALL, x -> x.cups(what), STATE);
        }
    }

    private static void notOfARow(String call, Supplier<QuartetNods> of, Asked asked) {
        for (int what = 1; what <= 9; what++) {
            int n = what;
            refused(call + " " + what, of, x -> asked.of(x, n), OUTSIDE);
        }
        notWithin(0, 15, call, of, asked, OUTSIDE);
    }

    private static void order() {
        notOfARow("16 order OUTSIDE: what", SOME, QuartetNods::order);
        notOfARow("16 order OUTSIDE ahead of STATE: no piece", NEW, QuartetNods::order);
        notOfARow("16 order OUTSIDE ahead of STATE: 20 times", ALL, QuartetNods::order);
        for (int what : new int[] {0, 10, 15}) {
            refused("16 order STATE: no piece", NEW, x -> x.order(what), STATE);
            refused("16 order STATE: done 20 times", ALL, x -> x.order(what), STATE);
        }
    }

    private static void tell() {
        notWithin(0, -1, "17 tell UNKNOWN: no piece", NEW, (x, n) -> x.tell(n, 0), UNKNOWN);
        notWithin(0, 2, "17 tell UNKNOWN: three bars", SOME, (x, n) -> x.tell(n, 0), UNKNOWN);
        notWithin(0, 2, "17 tell UNKNOWN ahead of OUTSIDE", SOME, (x, n) -> x.tell(n, 5), UNKNOWN);
        notWithin(0, 5, "17 tell UNKNOWN ahead of FULL", ALL, (x, n) -> x.tell(n, 0), UNKNOWN);
        notWithin(0, 5, "17 tell UNKNOWN ahead of OUTSIDE and FULL", ALL, (x, n) -> x.tell(n, -1), UNKNOWN);
        notWithin(0, 4, "17 tell OUTSIDE: lost", SOME, (x, n) -> x.tell(0, n), OUTSIDE);
        notWithin(0, 4, "17 tell OUTSIDE ahead of FULL", ALL, (x, n) -> x.tell(5, n), OUTSIDE);
        refused("17 tell FULL: a seventh", ALL, x -> x.tell(0, 0), FULL);
        refused("17 tell FULL: a seventh", ALL, x -> x.tell(5, 4), FULL);
    }

    private static void guess() {
        notWithin(0, -1, "19 guess UNKNOWN: no piece", NEW, QuartetNods::guess, UNKNOWN);
        notWithin(0, -1, "19 guess UNKNOWN: nobody", EMPTY, QuartetNods::guess, UNKNOWN);
        notWithin(0, 1, "19 guess UNKNOWN: two", SOME, QuartetNods::guess, UNKNOWN);
        notWithin(0, 3, "19 guess UNKNOWN: four", ALL, QuartetNods::guess, UNKNOWN);
    }

    private static void listen() {
        notWithin(0, -1, "20 listen UNKNOWN: no piece", NEW, QuartetNods::listen, UNKNOWN);
        notWithin(0, -1, "20 listen UNKNOWN: nobody", EMPTY, QuartetNods::listen, UNKNOWN);
        notWithin(0, 1, "20 listen UNKNOWN: two", SOME, QuartetNods::listen, UNKNOWN);
        notWithin(0, 3, "20 listen UNKNOWN: four", ALL, QuartetNods::listen, UNKNOWN);
    }

    private static void draughts() {
        notWithin(1, 30, "21 draughts OUTSIDE: times", SOME, (x, n) -> x.draughts(n, 0, 0), OUTSIDE);
        notWithin(1, 30, "21 draughts OUTSIDE: times, ahead of STATE", EMPTY, (x, n) -> x.draughts(n, 0, 0), OUTSIDE);
        for (int seed : new int[] {-1, -2, -65536, MIN + 1, MIN}) {
            refused("21 draughts OUTSIDE: seed " + seed, SOME, x -> x.draughts(1, seed, 0), OUTSIDE);
            refused("21 draughts OUTSIDE: seed " + seed + ", ahead of STATE", NEW, x -> x.draughts(30, seed, 2), OUTSIDE);
        }
        notWithin(0, 2, "21 draughts OUTSIDE: what", SOME, (x, n) -> x.draughts(30, MAX, n), OUTSIDE);
        notWithin(0, 2, "21 draughts OUTSIDE: what, ahead of STATE", EMPTY, (x, n) -> x.draughts(1, 0, n), OUTSIDE);
        for (int what = 0; what <= 2; what++) {
            int of = what;
            refused("21 draughts STATE: no piece", NEW, x -> x.draughts(1, 0, of), STATE);
            refused("21 draughts STATE: nobody", EMPTY, x -> x.draughts(30, MAX, of), STATE);
        }
    }

    private static void image() {
        refused("22 image STATE: no piece", NEW, QuartetNods::image, STATE);
    }

    private static void restore() {
        refused("23 restore STATE: no piece", NEW, QuartetNods::restore, STATE);
        refused("23 restore STATE: none was kept", EMPTY, QuartetNods::restore, STATE);
        Supplier<QuartetNods> another = () -> {
            QuartetNods x = some();
            x.blank();
            Checks.type(x, "s2,l3,r4;6");
            x.piece();
            x.player(CELLO, 3);
            return x;
        };
        refused("23 restore STATE: there is another piece since, of the same text", another, QuartetNods::restore, STATE);
    }

    private static void count() {
        notWithin(0, 12, "24 count OUTSIDE: what", NEW, QuartetNods::count, OUTSIDE);
        notWithin(0, 12, "24 count OUTSIDE: what", SOME, QuartetNods::count, OUTSIDE);
        notWithin(0, 12, "24 count OUTSIDE: what", ALL, QuartetNods::count, OUTSIDE);
    }
}
