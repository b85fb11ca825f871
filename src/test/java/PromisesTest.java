/** Each promise by its number: ordinary inputs, edges, wrong inputs. Numbers were worked out by hand. */
public final class PromisesTest {
    private static final int NONE = -1, UNKNOWN = -101, OUTSIDE = -102, STATE = -103, FULL = -104;
    private static final int PLAYER = 0, CELLO = 1, DREAMER = 2, SNORER = 3, VIRTUOSO = 4;
    private static final int MIN = Integer.MIN_VALUE, MAX = Integer.MAX_VALUE;
    private static final String SIX = "s1,l2,a3,r4,s1,l2;5";
    private static final Checks c = new Checks();

    public static void main(String[] args) {
        constants();
        newObject();
        letter();
        blank();
        fault();
        piece();
        bar();
        player();
        about();
        theRuleOfABar();
        as();
        coffee();
        tire();
        play();
        again();
        hearing();
        cups();
        order();
        tell();
        forget();
        guess();
        listen();
        draughts();
        image();
        restore();
        count();
        digest();
        c.end();
    }

    private static void constants() {
        c.due("NONE", QuartetNods.NONE, NONE);
        c.due("UNKNOWN", QuartetNods.UNKNOWN, UNKNOWN);
        c.due("OUTSIDE", QuartetNods.OUTSIDE, OUTSIDE);
        c.due("STATE", QuartetNods.STATE, STATE);
        c.due("FULL", QuartetNods.FULL, FULL);
    }

    private static void newObject() {
        QuartetNods x = new QuartetNods();
        for (int what = 0; what <= 12; what++) {
            c.due("1 count(" + what + ")", x.count(what), 0);
        }
        c.due("1 bar", x.bar(0, 0), UNKNOWN);
        c.due("1 about", x.about(0, 0), UNKNOWN);
        c.due("1 play", x.play(), STATE);
        c.due("1 again", x.again(), STATE);
        c.due("1 hearing", x.hearing(0), STATE);
        c.due("1 cups", x.cups(0), STATE);
        c.due("1 order", x.order(0), STATE);
        c.due("1 image", x.image(), STATE);
        c.due("1 restore", x.restore(), STATE);
        c.due("1 piece", x.piece(), STATE);
    }

    private static void letter() {
        QuartetNods x = new QuartetNods();
        for (int code : new int[] {0, 127, -1, MIN, MAX}) {
            c.due("2 letter(" + code + ")", x.letter(code), OUTSIDE);
        }
        c.due("2 nothing came", x.count(9), 0);
        for (int i = 1; i <= 22; i++) {
            c.due("2 letter " + i, x.letter(i % 2 == 0 ? 1 : 126), i);
        }
        c.due("2 letter 23", x.letter('s'), FULL);
        c.due("2 OUTSIDE ahead of FULL", x.letter(0), OUTSIDE);
        c.due("2 it is full", x.count(9), 22);
    }

    private static void blank() {
        QuartetNods x = new QuartetNods();
        c.due("3 blank of none", x.blank(), 0);
        Checks.type(x, "s1,x");
        c.due("3 blank", x.blank(), 4);
        c.due("3 is empty", x.count(9), 0);
        c.due("3 fault behind it", x.fault(), 0);
        c.due("3 a letter behind it", x.letter('s'), 1);
        c.due("3 fault of the new one", x.fault(), 1);
    }

    private static void fault() {
        Object[] rows = {
            "", 0, "s", 1, "s1", 2, "s1,", 3, "s1;", 3, "s1;9", 4, "s1,l", 4,
            "x", 0, "S1", 0, "1", 0, ",", 0, ";", 0, "s0", 1, "s5", 1, "s,", 1, "ss", 1,
            "s1 ", 2, "s1s", 2, "s11", 2, "s1;0", 3, "s1;s", 3, "s1;;", 3, "s1,,", 3, "s1,;", 3,
            "s1;9,", 4, "s1;99", 4, "s1;9s", 4, "l4;1", 4, "a2;5", 4, "r3;5", 4,
            "s1,l2,a3,r4,s1,l2", 17, "s1,l2,a3,r4,s1,l2,", 17, "s1,l2,a3,r4,s1,l2,s1", 17,
            SIX, 19, SIX + ",", 19, SIX + ";", 19, SIX + "5ab", 19, "s1,x1,s1;0", 3,
        };
        for (int i = 0; i < rows.length; i += 2) {
            c.due("4 fault of " + rows[i], Checks.typed((String) rows[i]).fault(), (Integer) rows[i + 1]);
        }
    }

    private static void piece() {
        for (String text : new String[] {"", "s", "s1", "s1,", "s1;", "s1;0", "s5;5", "s1;55", "s1,;5", "x;5", ";5", SIX + ","}) {
            QuartetNods x = Checks.typed(text);
            c.due("5 piece of " + text, x.piece(), STATE);
            c.due("5 the page stays", x.count(9), text.length());
            c.due("5 none was read", x.count(10), 0);
            c.due("5 there is none", x.count(0), 0);
        }
        QuartetNods six = Checks.typed(SIX);
        c.due("5 piece of six", six.piece(), 6);
        c.due("5 the page is empty", six.count(9), 0);
        c.due("5 it was read", six.count(10), 1);
        c.due("5 LIMIT", six.count(1), 5);
        c.due("5 piece of one", Checks.typed("r4;1").piece(), 1);
        anotherPiece();
    }

    private static void anotherPiece() {
        QuartetNods x = Checks.of("s4,l1;3", PLAYER, 1, SNORER, 9);
        x.coffee(0);
        x.tell(0, 3);
        x.play();
        x.cups(0);
        x.order(0);
        x.image();
        Checks.type(x, "a2;x");
        c.due("5 no piece, and the old one stays", x.piece(), STATE);
        c.due("5 players stay", x.count(2), 2);
        x.blank();
        Checks.type(x, "a2;7");
        c.due("5 another piece", x.piece(), 1);
        int[] counts = {1, 7, 0, 0, 0, 0, 0, 0, 0, 0, 2, 1, 1};
        for (int what = 0; what < counts.length; what++) {
            c.due("5 count(" + what + ") behind another", x.count(what), counts[what]);
        }
        c.due("5 nothing told", x.bar(0, 3), NONE);
        c.due("5 the image is of another", x.restore(), STATE);
        c.due("5 a player is new", x.player(CELLO, 2), 0);
        c.due("5 he took none", x.about(0, 5), 0);
        c.due("5 he got none", x.about(0, 6), 0);
        c.due("5 he is beside nobody", x.hearing(0), 0);
        kindsOfAnotherPiece();
    }

    private static void kindsOfAnotherPiece() {
        QuartetNods x = Checks.of("l2;5", DREAMER, 9, SNORER, 9, SNORER, 8, SNORER, 7);
        Checks.type(x, "l2;5");
        x.piece();
        x.player(PLAYER, 6);
        x.player(PLAYER, 4);
        all("5 none of those dreams", x, 3, 0, 1);
        x.tire(1, 5);
        x.play();
        all("5 none of those snores", x, 1, 5, 4);
    }

    private static void bar() {
        QuartetNods x = Checks.of("s1,l2,a3,r4;5");
        for (int bar = 0; bar < 4; bar++) {
            c.due("6 SORT of " + bar, x.bar(bar, 0), bar);
            c.due("6 PARTS of " + bar, x.bar(bar, 1), bar + 1);
            c.due("6 LOST by nobody " + bar, x.bar(bar, 2), bar + 1);
            c.due("6 TOLD of " + bar, x.bar(bar, 3), NONE);
        }
        for (int bar : new int[] {4, -1, MIN, MAX}) {
            c.due("6 bar(" + bar + ")", x.bar(bar, 9), UNKNOWN);
        }
        for (int what : new int[] {4, -1, MIN, MAX}) {
            c.due("6 what " + what, x.bar(3, what), OUTSIDE);
        }
        // 4 is awake ahead of the rest, 6 behind it isn't
        QuartetNods y = Checks.of("r1,l2;5", PLAYER, 4);
        c.due("6 LOST in 0", y.bar(0, 2), 0);
        c.due("6 LOST in 1", y.bar(1, 2), 2);
        y.play();
        c.due("6 from BAR 0, as TIRED now", y.bar(0, 2), 1);
        y.tell(1, 3);
        c.due("6 TOLD once", y.bar(1, 3), 3);
        y.tell(0, 2);
        y.tell(1, 4);
        c.due("6 TOLD last of 1", y.bar(1, 3), 4);
        c.due("6 TOLD last of 0", y.bar(0, 3), 2);
    }

    private static void player() {
        QuartetNods none = new QuartetNods();
        c.due("7 no piece", none.player(PLAYER, 0), STATE);
        c.due("7 OUTSIDE ahead of STATE", none.player(5, 0), OUTSIDE);
        QuartetNods x = Checks.of("s1;5");
        for (int kind : new int[] {5, -1, MIN, MAX}) {
            c.due("7 kind " + kind, x.player(kind, 0), OUTSIDE);
        }
        for (int tired : new int[] {10, -1, MIN, MAX}) {
            c.due("7 tired " + tired, x.player(PLAYER, tired), OUTSIDE);
        }
        c.due("7 nobody came", x.count(2), 0);
        c.due("7 player 0", x.player(VIRTUOSO, 9), 0);
        c.due("7 player 1", x.player(PLAYER, 0), 1);
        c.due("7 player 2", x.player(SNORER, 3), 2);
        c.due("7 player 3", x.player(DREAMER, 4), 3);
        c.due("7 no fifth", x.player(CELLO, 4), FULL);
        c.due("7 OUTSIDE ahead of FULL", x.player(CELLO, 10), OUTSIDE);
        c.due("7 four", x.count(2), 4);
        c.due("7 kind of 0", x.about(0, 0), VIRTUOSO);
        c.due("7 tired of 0", x.about(0, 1), 9);
        c.due("7 kind of 3", x.about(3, 0), DREAMER);
        c.due("7 tired of 3", x.about(3, 1), 4);
    }

    private static void about() {
        QuartetNods x = Checks.of("s3,l1;9", PLAYER, 5, CELLO, 2, PLAYER, 2);
        for (int player : new int[] {3, -1, MIN, MAX}) {
            c.due("8 about(" + player + ")", x.about(player, 9), UNKNOWN);
        }
        for (int what : new int[] {7, -1, MIN, MAX}) {
            c.due("8 what " + what, x.about(2, what), OUTSIDE);
        }
        all("8 shares: the least tired, the least number first", x, 4, 0, 2, 1);
        c.due("8 play", x.play(), 0);
        all("8 took", x, 5, 0, 2, 1);
        all("8 shares of the next", x, 4, 0, 1, 0);
        c.due("8 play", x.play(), 0);
        all("8 took of both", x, 5, 0, 3, 1);
        all("8 there is no next", x, 4, 0, 0, 0);
        x.again();
        all("8 took stays", x, 5, 0, 3, 1);
        QuartetNods y = Checks.of("l2;9", PLAYER, 5, PLAYER, 5);
        y.play();
        all("8 both took one", y, 5, 1, 1);
        x.coffee(1);
        x.coffee(1);
        x.coffee(2);
        all("8 coffees", x, 6, 0, 2, 1);
    }

    private static void theRuleOfABar() {
        QuartetNods x = Checks.of("l4;5", DREAMER, 9, PLAYER, 4, DREAMER, 5, DREAMER, 6);
        all("awake", x, 2, 0, 1, 0, 0);
        all("heard: beside one who is awake, not one who is heard", x, 3, 1, 1, 1, 0);
        all("shares of a loud bar", x, 4, 1, 1, 1, 0);
        c.due("lost", x.play(), 1);
        all("loud", x, 1, 9, 4, 5, 5);

        x = Checks.of("a1;3", PLAYER, 8, SNORER, 3, PLAYER, 9, SNORER, 9);
        c.due("all are asleep", x.play(), 1);
        all("an accent, and those who snore beside", x, 1, 4, 0, 4, 6);

        x = Checks.of("r1;5", SNORER, 4, SNORER, 5);
        c.due("one snores", x.play(), 0);
        all("a rest; who is awake doesn't snore", x, 1, 5, 6);

        x = Checks.of("s1;9", PLAYER, 8);
        x.play();
        c.due("9 at most", x.about(0, 1), 9);
        x = Checks.of("a1;9", PLAYER, 1);
        x.play();
        c.due("0 at least", x.about(0, 1), 0);
        // 9 + 2 - 1 - 1: not 9 at most in between
        x = Checks.of("s1;1", SNORER, 9, PLAYER, 9, SNORER, 9);
        x.play();
        all("9 at most in the end alone", x, 1, 9, 9, 9);
        x = Checks.of("l1;1", SNORER, 9, PLAYER, 9, SNORER, 9);
        x.play();
        all("two who snore", x, 1, 8, 6, 8);
        // 0 + 1 - 1 is 0, not 0 at least in between and 1 then
        x = Checks.of("l1;1", PLAYER, 0);
        x.play();
        c.due("all together", x.about(0, 1), 0);

        x = Checks.of("s4;9", CELLO, 0, SNORER, 1, DREAMER, 2, PLAYER, 3);
        all("by kinds", x, 4, 2, 1, 1, 0);
        x = Checks.of("s4;9", VIRTUOSO, 3, CELLO, 2);
        all("a virtuoso takes what is left", x, 4, 2, 2);
        x = Checks.of("s4;9", VIRTUOSO, 1, CELLO, 2);
        all("a virtuoso takes four", x, 4, 4, 0);
        // a dreamer asleep is behind those who are less tired
        x = Checks.of("s2;3", DREAMER, 3, PLAYER, 2, PLAYER, 2);
        all("a dreamer asleep", x, 4, 0, 1, 1);
        c.due("awake is less than LIMIT", Checks.of("s1;3", PLAYER, 3).count(3), 0);
        c.due("awake", Checks.of("s1;3", PLAYER, 2).count(3), 1);
    }

    private static void all(String of, QuartetNods x, int what, int... wants) {
        for (int player = 0; player < wants.length; player++) {
            c.due(of + ": about(" + player + ", " + what + ")", x.about(player, what), wants[player]);
        }
    }

    private static void as() {
        QuartetNods x = Checks.of("s1;5", PLAYER, 0, CELLO, 0, DREAMER, 0, SNORER, 0);
        for (int player = 0; player < 4; player++) {
            for (int kind = 0; kind < 5; kind++) {
                boolean such = kind == 0 || kind == player;
                c.due("9 as(" + player + ", " + kind + ")", x.as(player, kind), such ? player : NONE);
            }
        }
        QuartetNods y = Checks.of("s1;5", VIRTUOSO, 0, VIRTUOSO, 0);
        int[] wants = {1, 1, NONE, NONE, 1};
        for (int kind = 0; kind < 5; kind++) {
            c.due("9 a virtuoso as " + kind, y.as(1, kind), wants[kind]);
        }
        for (int player : new int[] {2, -1, MIN, MAX}) {
            c.due("9 as(" + player + ")", y.as(player, 5), UNKNOWN);
        }
        for (int kind : new int[] {5, -1, MIN, MAX}) {
            c.due("9 kind " + kind, y.as(0, kind), OUTSIDE);
        }
    }

    private static void coffee() {
        QuartetNods x = Checks.of("s1;5", PLAYER, 9, PLAYER, 9);
        for (int player : new int[] {2, -1, MIN, MAX}) {
            c.due("10 coffee(" + player + ")", x.coffee(player), UNKNOWN);
        }
        c.due("10 none was given", x.count(7), 0);
        c.due("10 coffee", x.coffee(1), 5);
        c.due("10 coffee", x.coffee(1), 1);
        c.due("10 coffee, 0 at least", x.coffee(1), 0);
        c.due("10 coffee for nothing counts", x.coffee(1), 0);
        c.due("10 coffees", x.about(1, 6), 4);
        c.due("10 the other one", x.about(0, 1), 9);
        c.due("10 the other one got none", x.about(0, 6), 0);
        x.coffee(0);
        c.due("10 all coffees", x.count(7), 5);
    }

    private static void tire() {
        QuartetNods x = Checks.of("s1;5", PLAYER, 3, PLAYER, 4);
        for (int player : new int[] {2, -1, MIN, MAX}) {
            c.due("11 tire(" + player + ")", x.tire(player, 10), UNKNOWN);
        }
        for (int tired : new int[] {10, -1, MIN, MAX}) {
            c.due("11 tired " + tired, x.tire(1, tired), OUTSIDE);
        }
        c.due("11 tire", x.tire(1, 9), 4);
        c.due("11 tire", x.tire(1, 0), 9);
        c.due("11 tire", x.tire(1, 7), 0);
        c.due("11 tired", x.about(1, 1), 7);
        c.due("11 the other one", x.about(0, 1), 3);
    }

    private static void play() {
        QuartetNods x = Checks.of("s4,l2;5", PLAYER, 2, PLAYER, 4);
        c.due("12 play", x.play(), 2);
        c.due("12 played", x.count(5), 1);
        c.due("12 play", x.play(), 2);
        c.due("12 all were", x.play(), STATE);
        c.due("12 lost", x.count(6), 4);
        c.due("12 played", x.count(5), 2);
        c.due("12 by nobody", Checks.of("s3;5").play(), 3);
        c.due("12 no piece", new QuartetNods().play(), STATE);
    }

    private static void again() {
        QuartetNods x = Checks.of("s4,l2;5", PLAYER, 2);
        c.due("13 again at first", x.again(), 0);
        x.play();
        c.due("13 again", x.again(), 1);
        c.due("13 tired stays", x.about(0, 1), 5);
        c.due("13 lost stays", x.count(6), 3);
        c.due("13 from BAR 0", x.play(), 4);
        x.play();
        c.due("13 again behind all", x.again(), 2);
        c.due("13 played", x.count(5), 0);
        c.due("13 no piece", new QuartetNods().again(), STATE);
    }

    private static void hearing() {
        QuartetNods x = Checks.of("s3,s3,s3,s3,s3,s3;4", VIRTUOSO, 0);
        c.due("14 PARTS", x.hearing(0), 12);
        c.due("14 the first BAR", x.hearing(1), 2);
        x.play();
        c.due("14 from BAR 0, as tired now", x.hearing(0), 15);
        c.due("14 played stays", x.count(5), 1);
        c.due("14 tired stays", x.about(0, 1), 3);
        for (int what : new int[] {2, -1, MIN, MAX}) {
            c.due("14 what " + what, x.hearing(what), OUTSIDE);
            c.due("14 OUTSIDE ahead of STATE", new QuartetNods().hearing(what), OUTSIDE);
        }
        QuartetNods z = Checks.of("r2,l1;9", PLAYER, 0);
        c.due("14 one is lost", z.hearing(0), 1);
        c.due("14 in BAR 0", z.hearing(1), 0);
        QuartetNods y = Checks.of("a4,l4;5", VIRTUOSO, 0);
        c.due("14 nothing is lost", y.hearing(0), 0);
        c.due("14 in no BAR", y.hearing(1), NONE);
        c.due("14 no piece", new QuartetNods().hearing(1), STATE);
    }

    private static void cups() {
        QuartetNods x = Checks.of("s3,s3,s3,s3,s3,s3;4", VIRTUOSO, 0);
        row("15 cups", new int[] {x.cups(0), x.cups(10), x.cups(11), x.cups(12), x.cups(13), x.cups(14), x.cups(15)},
                3, NONE, NONE, 0, 0, 0, NONE);
        c.due("15 nothing changes", x.about(0, 1), 0);
        c.due("15 no coffee was given", x.count(7), 0);
        x = Checks.of("s1,s1,s1,s1,s1,s1;1", PLAYER, 4);
        row("15 ahead of all bars", new int[] {x.cups(0), x.cups(10), x.cups(15)}, 6, 0, 0);
        x = Checks.of("r1,l1;5", PLAYER, 4);
        row("15 nobody first", new int[] {x.cups(0), x.cups(10), x.cups(11), x.cups(12), x.cups(15)}, 1, NONE, 0, NONE, NONE);
        x = Checks.of("l1;5", PLAYER, 5, PLAYER, 5);
        row("15 the least number", new int[] {x.cups(0), x.cups(10)}, 1, 0);
        x = Checks.of("l1;5", PLAYER, 9, PLAYER, 8);
        row("15 whom it wakes", new int[] {x.cups(0), x.cups(10)}, 1, 1);
        x = Checks.of("s4;5", PLAYER, 0);
        row("15 there are none", new int[] {x.cups(0), x.cups(10)}, NONE, NONE);
        c.due("15 by nobody", Checks.of("s1;5").cups(0), NONE);
        // one cup at most ahead of each bar
        c.due("15 two ahead of one", Checks.of("l2;5", PLAYER, 5, PLAYER, 5).cups(0), NONE);
        cupsAreFew();
    }

    private static void cupsAreFew() {
        QuartetNods x = Checks.of("l1;5", PLAYER, 0);
        for (int what : new int[] {1, 9, 16, -1, MIN, MAX}) {
            c.due("15 what " + what, x.cups(what), OUTSIDE);
            c.due("15 OUTSIDE ahead of STATE", new QuartetNods().cups(what), OUTSIDE);
        }
        c.due("15 no piece", new QuartetNods().cups(0), STATE);
        for (int i = 0; i < 12; i++) {
            c.due("15 done before", x.count(11), i);
            c.due("15 cups", x.cups(i % 2 == 0 ? 0 : 15), i % 2 == 0 ? 0 : NONE);
        }
        c.due("15 done 12 times", x.cups(0), STATE);
        c.due("15 OUTSIDE ahead of it", x.cups(1), OUTSIDE);
        c.due("15 12 times", x.count(11), 12);
        Checks.type(x, "s1;5");
        x.piece();
        c.due("15 with another piece, too", x.cups(0), STATE);
        c.due("15 order is another", x.order(0), 1);
    }

    private static void order() {
        QuartetNods x = Checks.of("s1,a1;3", PLAYER, 2);
        row("16 order", new int[] {x.order(0), x.order(10), x.order(11), x.order(12), x.order(15)}, 0, 1, 0, NONE, NONE);
        x = Checks.of("s1,s1,s1;9", PLAYER, 0);
        row("16 the first of like ones", new int[] {x.order(0), x.order(10), x.order(11), x.order(12)}, 0, 0, 1, 2);
        // 2 is awake once, the most is kept by the bar of four parts first
        x = Checks.of("s1,s2,s4;3", VIRTUOSO, 2);
        row("16 fewest are lost", new int[] {x.order(0), x.order(10), x.order(11), x.order(12)}, 3, 2, 0, 1);
        c.due("16 nothing changes", x.about(0, 1), 2);
        x = Checks.of("s1,l2,a3,r4,s1,l2;5");
        row("16 by nobody", new int[] {x.order(0), x.order(10), x.order(15)}, 13, 0, 5);
        for (int what : new int[] {1, 9, 16, -1, MIN, MAX}) {
            c.due("16 what " + what, x.order(what), OUTSIDE);
            c.due("16 OUTSIDE ahead of STATE", new QuartetNods().order(what), OUTSIDE);
        }
        c.due("16 no piece", new QuartetNods().order(0), STATE);
        for (int i = 3; i < 20; i++) {
            c.due("16 done before", x.count(12), i);
            c.due("16 order", x.order(14), 4);
        }
        c.due("16 done 20 times", x.order(0), STATE);
        c.due("16 OUTSIDE ahead of it", x.order(1), OUTSIDE);
        c.due("16 20 times", x.count(12), 20);
        c.due("16 cups is another", x.cups(0), NONE);
    }

    private static void row(String of, int[] gots, int... wants) {
        for (int i = 0; i < wants.length; i++) {
            c.due(of + ", " + i, gots[i], wants[i]);
        }
    }

    private static void tell() {
        QuartetNods x = Checks.of("s1,l1;5");
        for (int bar : new int[] {2, -1, MIN, MAX}) {
            c.due("17 tell(" + bar + ")", x.tell(bar, 5), UNKNOWN);
        }
        for (int lost : new int[] {5, -1, MIN, MAX}) {
            c.due("17 lost " + lost, x.tell(1, lost), OUTSIDE);
        }
        c.due("17 nothing is told", x.count(8), 0);
        for (int i = 1; i <= 6; i++) {
            c.due("17 tell " + i, x.tell(i % 2, i % 5), i);
        }
        c.due("17 no seventh", x.tell(0, 4), FULL);
        c.due("17 OUTSIDE ahead of FULL", x.tell(0, 5), OUTSIDE);
        c.due("17 told", x.count(8), 6);
        c.due("17 the last of 0", x.bar(0, 3), 1);
        c.due("17 the last of 1", x.bar(1, 3), 0);
        c.due("17 no piece", new QuartetNods().tell(0, 0), UNKNOWN);
    }

    private static void forget() {
        QuartetNods x = Checks.of("s1,l1;5", PLAYER, 0);
        c.due("18 forget nothing", x.forget(), 0);
        x.tell(0, 4);
        x.tell(1, 3);
        c.due("18 guess ahead of it", x.guess(0), 0);
        c.due("18 forget", x.forget(), 2);
        c.due("18 told", x.count(8), 0);
        c.due("18 told of 0", x.bar(0, 3), NONE);
        c.due("18 guess behind it", x.guess(0), 1023);
        c.due("18 no piece", new QuartetNods().forget(), 0);
    }

    private static void guess() {
        // up to 4 he plays the rest, up to 2 the loud bar behind it, too
        QuartetNods x = Checks.of("r1,l1;5", PLAYER, 9);
        c.due("19 nothing told", x.guess(0), 1023);
        x.tell(0, 0);
        c.due("19 none lost in 0", x.guess(0), 0b11111);
        x.tell(1, 1);
        c.due("19 one lost in 1", x.guess(0), 0b11000);
        x.tell(1, 0);
        c.due("19 both can't be", x.guess(0), 0);
        c.due("19 tired stays", x.about(0, 1), 9);
        x.forget();
        x.tell(1, 1);
        x.player(PLAYER, 0);
        c.due("19 the others as now", x.guess(0), 0);
        x.tire(1, 9);
        c.due("19 the others as now", x.guess(0), 0b1111111000);
        for (int player : new int[] {2, -1, MIN, MAX}) {
            c.due("19 guess(" + player + ")", x.guess(player), UNKNOWN);
        }
    }

    private static void listen() {
        QuartetNods x = Checks.of("r1,l1;5", PLAYER, 9);
        // BAR 0 leaves 5 or 5, BAR 1 leaves 3 or 7
        c.due("20 the bar that halves", x.listen(0), 0);
        x.tell(0, 0);
        // BAR 0 leaves all 5, BAR 1 leaves 3 or 2
        c.due("20 the other one then", x.listen(0), 1);
        x.tell(1, 1);
        c.due("20 of like ones the least", x.listen(0), 0);
        x.tell(1, 2);
        c.due("20 by nothing such", x.listen(0), NONE);
        // asleep with 1 or more: BAR 0 leaves 1 or 9; behind the accent 4 and more are: BAR 1 leaves 4 or 6
        QuartetNods y = Checks.of("a4,l4;1", VIRTUOSO, 0);
        c.due("20 by four that are lost", y.listen(0), 1);
        y.tell(0, 4);
        // of 1 to 9, BAR 1 leaves 3 or 6
        c.due("20 guess", y.guess(0), 0b1111111110);
        c.due("20 by four that are lost, again", y.listen(0), 1);
        QuartetNods z = Checks.of("l4,r4;9", VIRTUOSO, 0);
        // BAR 0 leaves 9 or 1, BAR 1 leaves 9 (0 to 8 stay) or 1 (9 is 8 then): so 10
        c.due("20 the least tired and the most", z.listen(0), 0);
        for (int player : new int[] {1, -1, MIN, MAX}) {
            c.due("20 listen(" + player + ")", x.listen(player), UNKNOWN);
        }
    }

    private static void draughts() {
        // seed 0: 12345 and 1406932606, 654583775 and 1449466924, ..
        QuartetNods x = Checks.of("l2;5", PLAYER, 9, PLAYER, 8);
        c.due("21 the SEED then", x.draughts(1, 0, 2), 1406932606);
        c.due("21 the SEED then", x.draughts(2, 0, 2), 1449466924);
        long seed = 0;
        int lost = 0;
        int coffees = 0;
        for (int time = 0; time < 30; time++) {
            seed = next(seed);
            long whom = seed / 65536 % 2;
            seed = next(seed);
            boolean given = seed / 65536 % 6 == 0;
            coffees += given ? 1 : 0;
            // coffee wakes the second alone: 9 is 5 then, 8 is 4
            lost += given && whom == 1 ? 1 : 2;
        }
        c.due("21 PARTS", x.draughts(30, 0, 0), lost);
        c.due("21 COFFEES", x.draughts(30, 0, 1), coffees);
        c.due("21 the SEED", x.draughts(30, 0, 2), seed);
        c.due("21 the greatest SEED", x.draughts(1, MAX, 2), next(next(MAX)));
        c.due("21 tired stays", x.about(1, 1), 8);
        // coffee ahead of BAR 0 alone: 3 is 0 and plays it, and is 3 again then
        c.due("21 one coffee", Checks.of("s1,s3;3", PLAYER, 3).draughts(1, 0, 1), 1);
        c.due("21 bar by bar", Checks.of("s1,s3;3", PLAYER, 3).draughts(1, 0, 0), 3);
        c.due("21 no coffee was given", x.count(7), 0);
        c.due("21 nothing was played", x.count(5) + x.count(6), 0);
        for (int times : new int[] {0, 31, -1, MIN, MAX}) {
            c.due("21 times " + times, x.draughts(times, 1, 0), OUTSIDE);
        }
        c.due("21 seed -1", x.draughts(1, -1, 0), OUTSIDE);
        c.due("21 seed MIN", x.draughts(1, MIN, 0), OUTSIDE);
        for (int what : new int[] {3, -1, MIN, MAX}) {
            c.due("21 what " + what, x.draughts(1, 1, what), OUTSIDE);
        }
        c.due("21 no players", Checks.of("s1;5").draughts(1, 1, 0), STATE);
        c.due("21 no piece", new QuartetNods().draughts(1, 1, 0), STATE);
        c.due("21 OUTSIDE ahead of STATE", new QuartetNods().draughts(0, 1, 0), OUTSIDE);
    }

    private static long next(long seed) {
        return (1103515245L * seed + 12345L) % (1L << 31);
    }

    private static void image() {
        QuartetNods x = Checks.of("s1,l1;5", PLAYER, 0);
        c.due("22 image at first", x.image(), 0);
        x.play();
        c.due("22 image", x.image(), 1);
        x.play();
        c.due("22 the latest", x.restore(), 1);
        c.due("22 no piece", new QuartetNods().image(), STATE);
    }

    private static void restore() {
        QuartetNods x = Checks.of("s2,l3;5", PLAYER, 1, SNORER, 2);
        c.due("23 none was kept", x.restore(), STATE);
        x.tell(0, 1);
        x.tell(1, 2);
        x.coffee(0);
        x.play();
        x.cups(0);
        x.order(0);
        long before = x.digest();
        x.image();
        x.player(VIRTUOSO, 3);
        x.coffee(1);
        x.coffee(2);
        x.tire(0, 9);
        x.play();
        x.again();
        x.play();
        x.forget();
        x.tell(1, 4);
        c.due("23 restore", x.restore(), 1);
        c.due("23 all is as it was", x.digest(), before);
        c.due("23 who came since is gone", x.about(2, 0), UNKNOWN);
        x.play();
        c.due("23 restore again", x.restore(), 1);
        c.due("23 all is as it was", x.digest(), before);
        x.letter('s');
        x.cups(0);
        x.restore();
        c.due("23 the page is no part of it", x.count(9), 1);
        c.due("23 nor how often cups() was done", x.count(11), 2);
        c.due("23 a player comes", x.player(PLAYER, 5), 2);
        c.due("23 he took none", x.about(2, 5), 0);
        c.due("23 he got none", x.about(2, 6), 0);
        kindsOfThoseSince();
        Checks.type(x, "2;5");
        c.due("23 another piece", x.piece(), 1);
        c.due("23 there is another piece since", x.restore(), STATE);
        c.due("23 an image of it", x.image(), 0);
        c.due("23 restore", x.restore(), 0);
    }

    private static void kindsOfThoseSince() {
        QuartetNods x = Checks.of("l3;5", PLAYER, 4);
        x.image();
        x.player(DREAMER, 9);
        x.player(SNORER, 9);
        c.due("23 the dreamer is heard", x.count(4), 2);
        x.restore();
        c.due("23 he is gone", x.count(4), 1);
        x.player(PLAYER, 9);
        x.player(PLAYER, 9);
        all("23 another one doesn't dream", x, 3, 1, 0, 0);
        x.play();
        all("23 another one doesn't snore", x, 1, 4, 8, 8);
        QuartetNods y = Checks.of("l3;5", PLAYER, 4, DREAMER, 9, SNORER, 9);
        y.image();
        y.play();
        y.restore();
        all("23 the dreamer stays one", y, 3, 1, 1, 0);
        y.play();
        all("23 the snorer stays one", y, 1, 4, 8, 8);
    }

    private static void count() {
        QuartetNods x = Checks.of("s4,l3;5", PLAYER, 4, DREAMER, 6, SNORER, 9);
        x.play();
        x.coffee(2);
        x.tell(1, 1);
        x.tell(1, 2);
        Checks.type(x, "abc");
        x.cups(0);
        x.order(0);
        x.order(10);
        x.tire(0, 4);
        int[] wants = {2, 5, 3, 1, 2, 1, 2, 1, 2, 3, 1, 1, 2};
        for (int what = 0; what < wants.length; what++) {
            c.due("24 count(" + what + ")", x.count(what), wants[what]);
        }
        for (int what : new int[] {13, -1, MIN, MAX}) {
            c.due("24 what " + what, x.count(what), OUTSIDE);
        }
    }

    private static void digest() {
        c.due("25 of a new one", new QuartetNods().digest(), digestOf(new QuartetNods(), ""));
        QuartetNods x = Checks.of(SIX, VIRTUOSO, 3, SNORER, 7, DREAMER, 6, CELLO, 4);
        c.due("25 of four", x.digest(), digestOf(x, ""));
        x.play();
        x.coffee(1);
        x.tell(3, 0);
        x.tell(5, 2);
        Checks.type(x, "s1~");
        c.due("25 with all", x.digest(), digestOf(x, "s1~"));
        c.due("25 it changes nothing", x.digest(), digestOf(x, "s1~"));
        c.due("25 of no players", Checks.of("s1;5").digest(), digestOf(Checks.of("s1;5"), ""));
        c.due("25 of a page alone", Checks.typed("xs").digest(), digestOf(Checks.typed("xs"), "xs"));
    }

    private static long digestOf(QuartetNods x, String page) {
        long h = 859;
        for (int bar = 0; bar < x.count(0); bar++) {
            for (int what = 0; what < 4; what++) {
                h = h * 31 + x.bar(bar, what);
            }
        }
        for (int player = 0; player < x.count(2); player++) {
            for (int what = 0; what < 7; what++) {
                h = h * 31 + x.about(player, what);
            }
            h = h * 31 + x.guess(player);
            h = h * 31 + x.listen(player);
        }
        if (x.count(0) > 0) {
            h = (h * 31 + x.hearing(0)) * 31 + x.hearing(1);
        }
        for (char letter : page.toCharArray()) {
            h = h * 31 + letter;
        }
        for (int what = 0; what < 13; what++) {
            h = h * 31 + x.count(what);
        }
        return h;
    }
}
