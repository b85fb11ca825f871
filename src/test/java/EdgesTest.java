import java.math.BigInteger;

/**
 * Each sentence of the document that names a limit which isn't a refusal: the least and the most that is taken,
 * empty, full, first, last, of like ones, none, and what wraps around. Numbers were worked out by hand.
 */
public final class EdgesTest {
    private static final int NONE = -1, UNKNOWN = -101, STATE = -103, FULL = -104;
    private static final int PLAYER = 0, CELLO = 1, DREAMER = 2, SNORER = 3, VIRTUOSO = 4;
    private static final int MAX = Integer.MAX_VALUE;
    private static final String SIX = "s1,l2,a3,r4,s1,l2;5";
    private static final Checks c = new Checks();

    public static void main(String[] args) {
        oneToSixBars();
        partsOneToFour();
        limitOneToNine();
        awakeIsLessThanLimit();
        fourOfThemAwake();
        besideHasNoWrapAround();
        dreamersAtTheEdge();
        partsAsLongAsThereAreAny();
        leastTiredFirst();
        zeroAtLeastNineAtMostInTheEnd();
        newObject();
        letter();
        blank();
        fault();
        piece();
        bar();
        player();
        about();
        as();
        coffee();
        tire();
        play();
        again();
        hearing();
        cups();
        cupsTwelveTimes();
        order();
        orderTwentyTimes();
        tell();
        forget();
        guess();
        listen();
        draughts();
        draws();
        image();
        restore();
        count();
        digest();
        fiveHundredAndTwelveCalls();
        c.end();
    }

    private static void row(String of, int[] gots, int... wants) {
        c.due(of + ": how many", gots.length, wants.length);
        for (int i = 0; i < Math.min(gots.length, wants.length); i++) {
            c.due(of + ", " + i, gots[i], wants[i]);
        }
    }

    private static int[] about(QuartetNods x, int what) {
        int[] told = new int[x.count(2)];
        for (int player = 0; player < told.length; player++) {
            told[player] = x.about(player, what);
        }
        return told;
    }

    private static int[] losts(QuartetNods x) {
        int[] told = new int[x.count(0)];
        for (int bar = 0; bar < told.length; bar++) {
            told[bar] = x.bar(bar, 2);
        }
        return told;
    }

    // ---- what it is, and terms

    private static void oneToSixBars() {
        String text = "";
        for (int bars = 1; bars <= 6; bars++) {
            text += (bars == 1 ? "" : ",") + "s1";
            QuartetNods x = Checks.typed(text + ";5");
            c.due("1 a piece of " + bars, x.piece(), bars);
            c.due("1 its last bar", x.bar(bars - 1, 1), 1);
            c.due("1 no bar behind it", x.bar(bars, 1), UNKNOWN);
        }
        c.due("1 a piece of seven", Checks.typed(text + ",s1;5").piece(), STATE);
        c.due("1 a piece of none", Checks.typed(";5").piece(), STATE);
    }

    private static void partsOneToFour() {
        for (int code = 1; code <= 126; code++) {
            QuartetNods x = Checks.typed("r");
            x.letter(code);
            Checks.type(x, ";5");
            boolean digit = code >= '1' && code <= '4';
            c.due("1 PARTS by code " + code + ", fault", x.fault(), digit ? 4 : 1);
            c.due("1 PARTS by code " + code, x.piece(), digit ? 1 : STATE);
            c.due("1 PARTS by code " + code, x.bar(0, 1), digit ? code - '0' : UNKNOWN);
        }
    }

    private static void limitOneToNine() {
        for (int code = 1; code <= 126; code++) {
            QuartetNods x = Checks.typed("r4;");
            x.letter(code);
            boolean digit = code >= '1' && code <= '9';
            c.due("1 LIMIT by code " + code + ", fault", x.fault(), digit ? 4 : 3);
            c.due("1 LIMIT by code " + code, x.piece(), digit ? 1 : STATE);
            c.due("1 LIMIT by code " + code, x.count(1), digit ? code - '0' : 0);
        }
    }

    private static void awakeIsLessThanLimit() {
        for (int limit = 1; limit <= 9; limit++) {
            for (int tired = 0; tired <= 9; tired++) {
                QuartetNods x = Checks.of("l1;" + limit, PLAYER, tired);
                int awake = tired < limit ? 1 : 0;
                String of = "1 TIRED by " + tired + ", LIMIT " + limit;
                c.due(of + ", AWAKE", x.about(0, 2), awake);
                c.due(of + ", HEARD", x.about(0, 3), awake);
                c.due(of + ", LOST", x.hearing(0), 1 - awake);
            }
        }
    }

    private static void fourOfThemAwake() {
        row("1 all four are AWAKE", about(Checks.of("l1;9", PLAYER, 8, CELLO, 8, SNORER, 8, VIRTUOSO, 0), 2), 1, 1, 1, 1);
        row("1 the first and the last", about(Checks.of("l1;1", PLAYER, 0, CELLO, 1, SNORER, 9, VIRTUOSO, 0), 2), 1, 0, 0, 1);
        row("1 none of four", about(Checks.of("l1;1", PLAYER, 1, CELLO, 1, SNORER, 9, VIRTUOSO, 1), 2), 0, 0, 0, 0);
    }

    private static void besideHasNoWrapAround() {
        QuartetNods x = Checks.of("l1;5", DREAMER, 9, PLAYER, 9, PLAYER, 9, PLAYER, 0);
        row("1 the last isn't beside the first", about(x, 3), 0, 0, 0, 1);
        x = Checks.of("l1;5", PLAYER, 0, PLAYER, 9, PLAYER, 9, DREAMER, 9);
        row("1 the first isn't beside the last", about(x, 3), 1, 0, 0, 0);
        x = Checks.of("l1;5", SNORER, 9, PLAYER, 9, PLAYER, 9, PLAYER, 9);
        x.play();
        row("1 the first snores beside the second alone", about(x, 1), 8, 7, 8, 8);
        x = Checks.of("l1;5", PLAYER, 9, PLAYER, 9, PLAYER, 9, SNORER, 9);
        x.play();
        row("1 the last snores beside the third alone", about(x, 1), 8, 8, 7, 8);
        x = Checks.of("l1;5", SNORER, 9);
        x.play();
        row("1 one isn't beside himself", about(x, 1), 8);
        x = Checks.of("l1;5", DREAMER, 5);
        row("1 a dreamer with nobody beside him", about(x, 3), 0);
    }

    private static void dreamersAtTheEdge() {
        QuartetNods x = Checks.of("l4;5", PLAYER, 4, DREAMER, 9, DREAMER, 9, DREAMER, 5);
        row("1 a dreamer who is HEARD isn't AWAKE", about(x, 2), 1, 0, 0, 0);
        row("1 beside one who is AWAKE, not beside one who is HEARD", about(x, 3), 1, 1, 0, 0);
        x = Checks.of("l4;5", DREAMER, 9, DREAMER, 4, DREAMER, 9);
        row("1 a dreamer who is AWAKE is one", about(x, 3), 1, 1, 1);
        x = Checks.of("l4;5", PLAYER, 4, PLAYER, 5, CELLO, 5, VIRTUOSO, 5);
        row("1 others beside one who is AWAKE", about(x, 3), 1, 0, 0, 0);
        x = Checks.of("l4;5", SNORER, 5, PLAYER, 4);
        row("1 a snorer beside one who is AWAKE", about(x, 3), 0, 1);
    }

    private static void partsAsLongAsThereAreAny() {
        for (int parts = 1; parts <= 4; parts++) {
            String text = "l" + parts + ";9";
            row("1 a virtuoso, four at most", about(Checks.of(text, VIRTUOSO, 0, PLAYER, 1), 4), parts, 0);
            row("1 a cello, two at most", about(Checks.of(text, CELLO, 0, VIRTUOSO, 1), 4), Math.min(2, parts), Math.max(0, parts - 2));
            for (int kind : new int[] {PLAYER, DREAMER, SNORER}) {
                row("1 one, by kind " + kind, about(Checks.of(text, kind, 0, VIRTUOSO, 1), 4), 1, parts - 1);
            }
            c.due("1 nobody takes any", Checks.of(text).play(), parts);
            c.due("1 all are taken", Checks.of(text, VIRTUOSO, 0).play(), 0);
            c.due("1 one takes one", Checks.of(text, PLAYER, 0).play(), parts - 1);
        }
        row("1 a cello takes the last one", about(Checks.of("l3;9", CELLO, 0, CELLO, 1, CELLO, 2), 4), 2, 1, 0);
        row("1 four take four", about(Checks.of("l4;9", PLAYER, 8, SNORER, 8, DREAMER, 8, PLAYER, 8), 4), 1, 1, 1, 1);
        QuartetNods x = Checks.of("r1;9", PLAYER, 0, PLAYER, 0);
        x.play();
        row("1 1 more if he took any, none else", about(x, 1), 2, 1);
        x = Checks.of("r4;9", VIRTUOSO, 0);
        x.play();
        row("1 1 more for four, too", about(x, 1), 2);
    }

    private static void leastTiredFirst() {
        row("1 of like ones the least number", about(Checks.of("l2;9", PLAYER, 8, PLAYER, 8, PLAYER, 8, PLAYER, 8), 4), 1, 1, 0, 0);
        row("1 the least first", about(Checks.of("l2;9", PLAYER, 8, PLAYER, 7, PLAYER, 1, PLAYER, 0), 4), 0, 0, 1, 1);
        row("1 a dreamer asleep by TIRED, too", about(Checks.of("l1;5", PLAYER, 4, DREAMER, 9), 4), 1, 0);
        row("1 a dreamer TIRED by 9 takes", about(Checks.of("l2;1", PLAYER, 0, DREAMER, 9), 4), 1, 1);
    }

    private static void zeroAtLeastNineAtMostInTheEnd() {
        behind("s1;9", true, 0, 3, 5, 8, 6, 9, 7, 9, 8, 9);
        behind("s1;1", false, 1, 3, 6, 8, 7, 9, 8, 9, 9, 9);
        behind("r1;9", true, 0, 2, 6, 8, 7, 9, 8, 9);
        behind("r1;1", false, 1, 2, 7, 8, 8, 9, 9, 9);
        behind("l1;9", true, 0, 0, 1, 1, 8, 8);
        behind("l1;1", false, 1, 0, 2, 1, 9, 8);
        behind("a1;9", true, 0, 0, 1, 0, 2, 0, 3, 1, 8, 6);
        behind("a1;1", false, 1, 0, 2, 0, 3, 0, 4, 1, 9, 6);
        QuartetNods x = Checks.of("l1;9", PLAYER, 0, PLAYER, 0);
        x.play();
        row("1 a loud bar, 0 at least without a part", about(x, 1), 0, 0);
        x = Checks.of("s1;1", SNORER, 9, PLAYER, 9, SNORER, 9);
        x.play();
        row("1 9 at most in the end: 9 and 2, less 2", about(x, 1), 9, 9, 9);
        x = Checks.of("s1;5", SNORER, 9, PLAYER, 0, SNORER, 9);
        x.play();
        row("1 0 at least in the end: 0 less 2, and 3", about(x, 1), 9, 1, 9);
        for (int tired = 1; tired <= 9; tired++) {
            x = Checks.of("a1;1", SNORER, 9, PLAYER, tired, SNORER, 9);
            x.play();
            row("1 an accent and two who snore, from " + tired, about(x, 1), 6, Math.max(0, tired - 5), 6);
        }
        x = Checks.of("r1;5", SNORER, 4, PLAYER, 9);
        x.play();
        row("1 TIRED by less than LIMIT he doesn't snore", about(x, 1), 6, 9);
        x = Checks.of("l1;5", SNORER, 5, PLAYER, 9);
        x.play();
        row("1 TIRED by LIMIT he snores", about(x, 1), 4, 7);
    }

    /** tired: by how much ahead of the BAR and behind it, in turn. */
    private static void behind(String text, boolean plays, int... tired) {
        for (int i = 0; i < tired.length; i += 2) {
            QuartetNods x = Checks.of(text, PLAYER, tired[i]);
            String of = "1 " + text + " TIRED by " + tired[i];
            c.due(of + ", he plays", x.about(0, 4), plays ? 1 : 0);
            x.play();
            c.due(of + ", behind it", x.about(0, 1), tired[i + 1]);
        }
    }

    // ---- the piece

    private static void newObject() {
        QuartetNods x = new QuartetNods();
        c.due("1 no PIECE: no BARS", x.count(0), 0);
        c.due("1 no PIECE: no LIMIT", x.count(1), 0);
        c.due("1 no BAR", x.bar(0, 0), UNKNOWN);
        c.due("1 an empty page", x.fault(), 0);
        c.due("1 an empty page", x.blank(), 0);
        c.due("1 nothing is TOLD", x.forget(), 0);
        for (int what = 0; what <= 12; what++) {
            c.due("1 count(" + what + ")", x.count(what), 0);
        }
    }

    private static void letter() {
        QuartetNods x = new QuartetNods();
        c.due("2 the least code", x.letter(1), 1);
        c.due("2 the greatest code", x.letter(126), 2);
        for (int i = 3; i <= 22; i++) {
            c.due("2 letter", x.letter(i), i);
        }
        c.due("2 the 23rd", x.letter('s'), FULL);
        c.due("2 22 letters", x.count(9), 22);
        c.due("2 blank of a full one", x.blank(), 22);
        c.due("2 room again", x.letter('s'), 1);
        for (int code = 1; code <= 126; code++) {
            x = new QuartetNods();
            c.due("2 each code", x.letter(code), 1);
            c.due("2 by digest " + code, x.digest(), digestOf(x, "" + (char) code));
        }
    }

    private static void blank() {
        QuartetNods x = Checks.typed("s1;5");
        c.due("3 blank", x.blank(), 4);
        c.due("3 blank of an empty one", x.blank(), 0);
        c.due("3 no piece on it", x.piece(), STATE);
        Checks.type(x, "l4;9");
        c.due("3 another one on it", x.piece(), 1);
        c.due("3 nothing of the first", x.bar(0, 0), 1);
    }

    private static void fault() {
        c.due("4 of an empty page", new QuartetNods().fault(), 0);
        c.due("4 the first letter", Checks.typed("?1;5").fault(), 0);
        c.due("4 of several the first", Checks.typed("s1?5??").fault(), 2);
        c.due("4 none: a whole piece", Checks.typed(SIX).fault(), 19);
        c.due("4 none: the beginning of one", Checks.typed("s1,l2,").fault(), 6);
        c.due("4 a letter behind a whole piece", Checks.typed(SIX + "s").fault(), 19);
        c.due("4 a letter behind a short one", Checks.typed("s1;5s").fault(), 4);
        c.due("4 a full page", Checks.typed(SIX + "abc").fault(), 19);
        c.due("4 ',' behind the fifth bar", Checks.typed("s1,l2,a3,r4,s1,").fault(), 15);
        c.due("4 ',' behind the sixth bar", Checks.typed("s1,l2,a3,r4,s1,l2,").fault(), 17);
        c.due("4 ';' behind the sixth bar", Checks.typed("s1,l2,a3,r4,s1,l2;").fault(), 18);
        c.due("4 a digit behind ','", Checks.typed("s1,1").fault(), 3);
        c.due("4 two LIMITS", Checks.typed("s1;5;5").fault(), 4);
        c.due("4 a LIMIT of two digits", Checks.typed("s1;10").fault(), 4);
        for (int code = 1; code <= 126; code++) {
            QuartetNods sort = new QuartetNods();
            sort.letter(code);
            c.due("4 SORT by code " + code, sort.fault(), "slar".indexOf(code) >= 0 ? 1 : 0);
            QuartetNods sign = Checks.typed("s1");
            sign.letter(code);
            c.due("4 behind a bar, code " + code, sign.fault(), code == ',' || code == ';' ? 3 : 2);
        }
    }

    private static void piece() {
        QuartetNods x = Checks.typed("s1,l1;");
        c.due("5 without LIMIT", x.piece(), STATE);
        c.due("5 the page stays", x.count(9), 6);
        x.letter('1');
        c.due("5 with it", x.piece(), 2);
        c.due("5 the page is empty then", x.count(9), 0);
        c.due("5 an empty page is none", x.piece(), STATE);
        c.due("5 THE PIECE stays", x.count(0), 2);
        c.due("5 read once", x.count(10), 1);
        x.player(PLAYER, 3);
        Checks.type(x, "r4;9");
        c.due("5 another one, shorter", x.piece(), 1);
        c.due("5 its LIMIT", x.count(1), 9);
        c.due("5 no bar of the other", x.bar(1, 0), UNKNOWN);
        c.due("5 no player of the other", x.about(0, 0), UNKNOWN);
        c.due("5 read twice", x.count(10), 2);
        withAllThatWas();
    }

    /** All was full: behind another PIECE it must answer as one that is new. */
    private static void withAllThatWas() {
        QuartetNods x = Checks.of(SIX, DREAMER, 9, SNORER, 9, DREAMER, 9, SNORER, 9);
        for (int i = 0; i < 6; i++) {
            x.tell(i, 4);
            x.coffee(i % 4);
            x.play();
            x.tire(i % 4, 9);
        }
        x.image();
        QuartetNods twin = new QuartetNods();
        for (QuartetNods one : new QuartetNods[] {x, twin}) {
            Checks.type(one, "l2,r3;5");
            c.due("5 another one", one.piece(), 2);
        }
        asTwins("5 with all that was", x, twin);
        for (int number = 0; number < 4; number++) {
            int at = number;
            for (QuartetNods one : new QuartetNods[] {x, twin}) {
                c.due("5 a player is new", one.player(at % 2, 4 + at), at);
            }
            asTwins("5 with all that was, " + number, x, twin);
        }
        for (int bar = 0; bar < 2; bar++) {
            c.due("5 play", x.play(), twin.play());
            asTwins("5 with all that was, behind BAR " + bar, x, twin);
        }
        c.due("5 no IMAGE", x.restore(), STATE);
    }

    /** All that can be asked, but how often PIECES were read, cups() and order() done. */
    private static void asTwins(String of, QuartetNods x, QuartetNods twin) {
        for (int what = 0; what <= 9; what++) {
            c.due(of + ", count(" + what + ")", x.count(what), twin.count(what));
        }
        for (int bar = 0; bar <= 6; bar++) {
            for (int what = 0; what <= 3; what++) {
                c.due(of + ", bar(" + bar + ", " + what + ")", x.bar(bar, what), twin.bar(bar, what));
            }
        }
        for (int player = 0; player <= 4; player++) {
            for (int what = 0; what <= 6; what++) {
                c.due(of + ", about(" + player + ", " + what + ")", x.about(player, what), twin.about(player, what));
            }
            c.due(of + ", guess(" + player + ")", x.guess(player), twin.guess(player));
            c.due(of + ", listen(" + player + ")", x.listen(player), twin.listen(player));
        }
    }

    private static void bar() {
        QuartetNods x = Checks.of("s1,s2,s3,s4,s1,s2;3", VIRTUOSO, 0);
        row("6 LOST in each, from BAR 0", losts(x), 0, 2, 3, 4, 1, 2);
        for (int bar = 0; bar < 6; bar++) {
            x.play();
        }
        row("6 all are played: from BAR 0 all the same", losts(x), 1, 2, 3, 4, 1, 2);
        row("6 nobody: all are LOST", losts(Checks.of(SIX)), 1, 2, 3, 4, 1, 2);
        row("6 none is LOST", losts(Checks.of("l4,l4,l4,l4,l4,l4;1", VIRTUOSO, 0)), 0, 0, 0, 0, 0, 0);
        c.due("6 nothing is TOLD of it", x.bar(5, 3), NONE);
        x.tell(5, 0);
        c.due("6 TOLD 0 isn't nothing", x.bar(5, 3), 0);
        c.due("6 nothing of the one ahead", x.bar(4, 3), NONE);
        x.tell(5, 4);
        x.tell(4, 1);
        c.due("6 TOLD last", x.bar(5, 3), 4);
    }

    // ---- players

    private static void player() {
        for (int kind = PLAYER; kind <= VIRTUOSO; kind++) {
            for (int tired = 0; tired <= 9; tired++) {
                QuartetNods x = Checks.of("s1;5");
                c.due("7 the first one's number", x.player(kind, tired), 0);
                c.due("7 kind", x.about(0, 0), kind);
                c.due("7 tired", x.about(0, 1), tired);
            }
        }
        QuartetNods x = Checks.of("s1,s1;5");
        for (int number = 0; number < 4; number++) {
            c.due("7 nobody of that number yet", x.about(number, 0), UNKNOWN);
            c.due("7 four at most", x.player(number, number), number);
        }
        c.due("7 a fifth", x.player(PLAYER, 0), FULL);
        x.play();
        c.due("7 a fifth behind a bar", x.player(PLAYER, 0), FULL);
        QuartetNods late = Checks.of("s2;5", PLAYER, 0);
        late.play();
        c.due("7 one comes behind the last bar", late.player(PLAYER, 0), 1);
        c.due("7 he took none", late.about(1, 5), 0);
    }

    private static void about() {
        QuartetNods x = Checks.of("l4,l3;5", VIRTUOSO, 0, PLAYER, 4);
        row("8 of the first bar", about(x, 4), 4, 0);
        x.play();
        row("8 of the last bar", about(x, 4), 3, 0);
        x.play();
        row("8 there is none", about(x, 4), 0, 0);
        row("8 took of both", about(x, 5), 7, 0);
        x.again();
        row("8 of the first bar again", about(x, 4), 4, 0);
        x.tire(0, 5);
        row("8 not HEARD: none", about(x, 4), 0, 1);
        row("8 COFFEES: none", about(x, 6), 0, 0);
    }

    private static void as() {
        int[][] such = {{0}, {0, 1}, {0, 2}, {0, 3}, {0, 1, 4}};
        for (int kind = PLAYER; kind <= VIRTUOSO; kind++) {
            QuartetNods x = Checks.of("s1;5", PLAYER, 0, PLAYER, 0, PLAYER, 0, kind, 9);
            for (int asked = PLAYER; asked <= VIRTUOSO; asked++) {
                boolean is = false;
                for (int one : such[kind]) {
                    is |= one == asked;
                }
                c.due("9 kind " + kind + " as " + asked, x.as(3, asked), is ? 3 : NONE);
            }
        }
        c.due("9 the number 0 isn't NONE", Checks.of("s1;5", CELLO, 0).as(0, CELLO), 0);
        c.due("9 a cello is no virtuoso", Checks.of("s1;5", CELLO, 0).as(0, VIRTUOSO), NONE);
    }

    private static void coffee() {
        int[] wants = {0, 0, 0, 0, 0, 1, 2, 3, 4, 5};
        for (int tired = 0; tired <= 9; tired++) {
            QuartetNods x = Checks.of("s1;5", PLAYER, tired, PLAYER, 9, PLAYER, 9, PLAYER, tired);
            c.due("10 COFFEE, 0 at least, from " + tired, x.coffee(0), wants[tired]);
            c.due("10 for the last one", x.coffee(3), wants[tired]);
            row("10 for no other", about(x, 1), wants[tired], 9, 9, wants[tired]);
            row("10 it counts, by how much ever it helps", about(x, 6), 1, 0, 0, 1);
        }
        QuartetNods y = Checks.of("s1;5", PLAYER, 9);
        y.play();
        c.due("10 behind the last bar", y.coffee(0), 5);
    }

    private static void tire() {
        QuartetNods x = Checks.of("s1;5", PLAYER, 9, PLAYER, 9, PLAYER, 9, PLAYER, 9);
        for (int tired = 0; tired <= 9; tired++) {
            c.due("11 by " + tired, x.tire(3, tired), tired == 0 ? 9 : tired - 1);
            row("11 he alone", about(x, 1), 9, 9, 9, tired);
        }
        c.due("11 by the same", x.tire(0, 9), 9);
    }

    private static void play() {
        QuartetNods x = Checks.of(SIX);
        int[] losts = {1, 2, 3, 4, 1, 2};
        for (int bar = 0; bar < 6; bar++) {
            c.due("12 BARS played ahead of it", x.count(5), bar);
            c.due("12 nobody plays", x.play(), losts[bar]);
        }
        c.due("12 all BARS were", x.play(), STATE);
        c.due("12 six", x.count(5), 6);
        c.due("12 LOST in all", x.count(6), 13);
        QuartetNods one = Checks.of("l4;9", VIRTUOSO, 8);
        c.due("12 one bar", one.play(), 0);
        c.due("12 all BARS were: it was one", one.play(), STATE);
        c.due("12 nothing is LOST", one.count(6), 0);
    }

    private static void again() {
        QuartetNods x = Checks.of(SIX, PLAYER, 0);
        c.due("13 none was played", x.again(), 0);
        for (int bar = 0; bar < 6; bar++) {
            x.play();
        }
        int tired = x.about(0, 1), lost = x.count(6);
        c.due("13 all were played", x.again(), 6);
        c.due("13 TIRED as he is", x.about(0, 1), tired);
        c.due("13 LOST in all that was played", x.count(6), lost);
        c.due("13 none was played since", x.again(), 0);
        c.due("13 BAR 0 is played", x.play(), x.count(6) - lost);
    }

    // ---- what would be

    private static void hearing() {
        QuartetNods x = Checks.of("l4,l4,l4,l4,l4,l4;1");
        row("14 all PARTS are LOST", new int[] {x.hearing(0), x.hearing(1)}, 24, 0);
        x.player(VIRTUOSO, 0);
        row("14 none is", new int[] {x.hearing(0), x.hearing(1)}, 0, NONE);
        x = Checks.of("r4,r4,r4,r4,r4,r4;9", VIRTUOSO, 0);
        row("14 in the last BAR: 0, 2, 4, 6, 8, 9", new int[] {x.hearing(0), x.hearing(1)}, 4, 5);
        x.tire(0, 9);
        row("14 in the first BAR", new int[] {x.hearing(0), x.hearing(1)}, 24, 0);
        x = Checks.of("l1;5");
        row("14 one PART", new int[] {x.hearing(0), x.hearing(1)}, 1, 0);
    }

    private static int[] ofCups(QuartetNods x) {
        return new int[] {x.cups(0), x.cups(10), x.cups(11), x.cups(12), x.cups(13), x.cups(14), x.cups(15)};
    }

    private static void cups() {
        row("15 none is needed", ofCups(Checks.of("l4,l4,l4,l4,l4,l4;1", VIRTUOSO, 0)), 0, NONE, NONE, NONE, NONE, NONE, NONE);
        row("15 one ahead of each BAR", ofCups(Checks.of("s1,s1,s1,s1,s1,s1;1", PLAYER, 4)), 6, 0, 0, 0, 0, 0, 0);
        row("15 ahead of the last alone: 0, 2, 4, 6, 8, 9", ofCups(Checks.of("r1,r1,r1,r1,r1,r1;9", PLAYER, 0)),
                1, NONE, NONE, NONE, NONE, NONE, 0);
        row("15 there are none: nobody", ofCups(Checks.of("l1;9")), NONE, NONE, NONE, NONE, NONE, NONE, NONE);
        row("15 there are none: too many PARTS in the last", ofCups(Checks.of("l1,l2;9", PLAYER, 0)), NONE, NONE, NONE, NONE, NONE, NONE, NONE);
        row("15 there are none: two ahead of one BAR", ofCups(Checks.of("l2;5", PLAYER, 5, PLAYER, 5)), NONE, NONE, NONE, NONE, NONE, NONE, NONE);
        row("15 there are none: twice for one ahead of one BAR", ofCups(Checks.of("l1;5", PLAYER, 9)), NONE, NONE, NONE, NONE, NONE, NONE, NONE);
        row("15 of like ones the least number", ofCups(Checks.of("l1;5", PLAYER, 9, PLAYER, 8, PLAYER, 8, PLAYER, 8)), 1, 1, NONE, NONE, NONE, NONE, NONE);
        row("15 the last one", ofCups(Checks.of("l1;1", PLAYER, 9, PLAYER, 9, PLAYER, 9, PLAYER, 4)), 1, 3, NONE, NONE, NONE, NONE, NONE);
        row("15 NONE ahead of BARS that aren't there", ofCups(Checks.of("l1;5", PLAYER, 8)), 1, 0, NONE, NONE, NONE, NONE, NONE);
        row("15 ahead of the last rather", ofCups(Checks.of("l1,l2;5", PLAYER, 8, PLAYER, 4)), 1, NONE, 0, NONE, NONE, NONE, NONE);
        row("15 for one TIRED by 1", ofCups(Checks.of("l1;1", PLAYER, 1)), 1, 0, NONE, NONE, NONE, NONE, NONE);
        // nobody, 0, 1 were the first by numbers
        row("15 fewer rather than the first by numbers", ofCups(Checks.of("r1,r1,l3;5", CELLO, 2, CELLO, 3)), 1, 1, NONE, NONE, NONE, NONE, NONE);
    }

    private static void cupsTwelveTimes() {
        QuartetNods x = Checks.of("l2;5", PLAYER, 0);
        for (int i = 1; i <= 12; i++) {
            x.cups(1);
            c.due("15 the " + i + "th time", x.cups(i % 2 == 0 ? 0 : 10), NONE);
            c.due("15 how often", x.count(11), i);
        }
        c.due("15 done 12 times", x.cups(0), STATE);
        c.due("15 how often", x.count(11), 12);
        x.image();
        x.restore();
        c.due("15 an IMAGE brings none back", x.cups(0), STATE);
        c.due("15 order() is counted for itself", x.order(0), 1);
    }

    private static int[] ofOrder(QuartetNods x) {
        return new int[] {x.order(0), x.order(10), x.order(11), x.order(12), x.order(13), x.order(14), x.order(15)};
    }

    private static void order() {
        row("16 one BAR", ofOrder(Checks.of("s1;5", PLAYER, 0)), 0, 0, NONE, NONE, NONE, NONE, NONE);
        row("16 one BAR by nobody", ofOrder(Checks.of("s4;5")), 4, 0, NONE, NONE, NONE, NONE, NONE);
        row("16 of like ones the first by numbers", ofOrder(Checks.of(SIX)), 13, 0, 1, 2, 3, 4, 5);
        row("16 all are LOST", ofOrder(Checks.of("l4,l4,l4,l4,l4,l4;1")), 24, 0, 1, 2, 3, 4, 5);
        row("16 the last BAR first", ofOrder(Checks.of("s1,s1,s1,s1,s1,s4;1", VIRTUOSO, 0)), 5, 5, 0, 1, 2, 3, 4);
        // 2 is awake for the rest alone, or for the accent, which leaves 0, and the rest
        row("16 the other way round", ofOrder(Checks.of("r1,a1;3", PLAYER, 2)), 0, 1, 0, NONE, NONE, NONE, NONE);
    }

    private static void orderTwentyTimes() {
        QuartetNods x = Checks.of("l2;5", PLAYER, 0);
        for (int i = 1; i <= 20; i++) {
            x.order(9);
            c.due("16 the " + i + "th time", x.order(i % 2 == 0 ? 0 : 15), i % 2 == 0 ? 1 : NONE);
            c.due("16 how often", x.count(12), i);
        }
        c.due("16 done 20 times", x.order(0), STATE);
        c.due("16 how often", x.count(12), 20);
        x.image();
        x.restore();
        c.due("16 an IMAGE brings none back", x.order(0), STATE);
        c.due("16 cups() is counted for itself", x.cups(0), NONE);
    }

    // ---- what is told

    private static void tell() {
        QuartetNods x = Checks.of(SIX);
        for (int i = 0; i < 6; i++) {
            c.due("17 six at most", x.tell(i, i % 5), i + 1);
        }
        c.due("17 a seventh", x.tell(0, 0), FULL);
        for (int i = 0; i < 6; i++) {
            c.due("17 what was TOLD, 0 to 4", x.bar(i, 3), i % 5);
        }
        c.due("17 forget", x.forget(), 6);
        c.due("17 room again", x.tell(5, 4), 1);
        QuartetNods one = Checks.of("s1;5", PLAYER, 0);
        for (int i = 1; i <= 6; i++) {
            c.due("17 of the same BAR", one.tell(0, 0), i);
        }
        c.due("17 a seventh of the same", one.tell(0, 0), FULL);
        c.due("17 more than its PARTS may be TOLD", Checks.of("s1;5").tell(0, 4), 1);
    }

    private static void forget() {
        QuartetNods x = Checks.of("s1;5", PLAYER, 0);
        c.due("18 nothing was TOLD", x.forget(), 0);
        x.tell(0, 4);
        c.due("18 one", x.forget(), 1);
        c.due("18 nothing any more", x.forget(), 0);
        c.due("18 of the bar", x.bar(0, 3), NONE);
        x.tell(0, 1);
        c.due("18 nothing of what was TOLD comes back", x.guess(0), 0b1111100000);
    }

    private static void guess() {
        QuartetNods low = Checks.of("l1;1", PLAYER, 9);
        c.due("19 nothing TOLD: 0 to 9", low.guess(0), 1023);
        low.tell(0, 0);
        c.due("19 by 0 alone", low.guess(0), 1);
        QuartetNods high = Checks.of("l1;9", PLAYER, 0);
        high.tell(0, 1);
        c.due("19 by 9 alone", high.guess(0), 512);
        high.tell(0, 0);
        c.due("19 by nothing", high.guess(0), 0);
        QuartetNods x = Checks.of("l1,l1,l1,l1,l1,l1;1", PLAYER, 9);
        for (int bar = 0; bar < 6; bar++) {
            x.tell(bar, bar < 5 ? 1 : 0);
        }
        c.due("19 six TOLD, in the last BAR none LOST", x.guess(0), 1 << 5);
        QuartetNods more = Checks.of("l1;5", PLAYER, 0);
        more.tell(0, 2);
        c.due("19 more than its PARTS", more.guess(0), 0);
        QuartetNods four = Checks.of("l4;5", PLAYER, 9, PLAYER, 9, PLAYER, 9, VIRTUOSO, 9);
        four.tell(0, 4);
        c.due("19 all four are LOST", four.guess(3), 0b1111100000);
        c.due("19 of the first, the last is TIRED as now", four.guess(0), 0b1111100000);
        QuartetNods played = Checks.of("l1,a1;5", PLAYER, 6);
        played.play();
        played.play();
        played.tell(0, 1);
        c.due("19 behind the last BAR, from BAR 0 all the same", played.guess(0), 0b1111100000);
    }

    private static void listen() {
        // bar k is played from 0 to k
        QuartetNods x = Checks.of("l1,l1,l1,l1,l1,l1;1", PLAYER, 9);
        c.due("20 of ten, five and five", x.listen(0), 4);
        x.tell(4, 1);
        c.due("20 the last BAR: of five, one and four", x.listen(0), 5);
        x.tell(5, 0);
        c.due("20 one is left: of like ones the least", x.listen(0), 0);
        x.tell(0, 0);
        c.due("20 none is left", x.listen(0), NONE);
        x.forget();
        x.tell(2, 0);
        // BAR 0 leaves 0, or 1 and 2; BAR 1 leaves 0 and 1, or 2
        c.due("20 by 0 he could be TIRED, too", x.listen(0), 0);
        c.due("20 one BAR", Checks.of("l1;5", PLAYER, 0).listen(0), 0);
        c.due("20 no BAR tells any from another", Checks.of("l1,l1,l1;5", VIRTUOSO, 0, PLAYER, 9).listen(1), 0);
        // BAR 0 leaves five or five (4 are LOST, or none), BAR 1 two (0 and 1 are 3 and 4 then) or eight
        c.due("20 by all four that are LOST", Checks.of("s4,r4;5", VIRTUOSO, 9).listen(0), 0);
    }

    private static void draughts() {
        QuartetNods x = Checks.of("l4,l4,l4,l4,l4,l4;1", PLAYER, 9, PLAYER, 9, PLAYER, 9, PLAYER, 9);
        drawn("21 the least", x, 1, 0, 4, 6);
        drawn("21 the most", x, 30, MAX, 4, 6);
        drawn("21 the least SEED, the most times", x, 30, 0, 4, 6);
        drawn("21 the greatest SEED, the least times", x, 1, MAX, 4, 6);
        QuartetNods one = Checks.of("l4;1", PLAYER, 0);
        drawn("21 one PLAYER, one BAR", one, 30, 1, 1, 1);
        c.due("21 PARTS: three each time", one.draughts(30, 1, 0), 90);
        c.due("21 all PARTS that may be LOST", Checks.of("s4,s4,s4,s4,s4,s4;1", PLAYER, 9).draughts(1, 0, 0), 24);
        QuartetNods played = Checks.of("l4;1", PLAYER, 0);
        played.play();
        c.due("21 behind the last BAR, from BAR 0 all the same", played.draughts(1, 0, 0), 3);
        c.due("21 again from how TIRED all are now", played.draughts(30, 5, 0), 90);
        // SEED 1: no COFFEE ahead of either; behind the first rest 2 is 4, and not AWAKE
        QuartetNods tires = Checks.of("r1,r1;4", PLAYER, 2);
        c.due("21 no COFFEE", tires.draughts(1, 1, 1), 0);
        c.due("21 from BAR to BAR", tires.draughts(1, 1, 0), 1);
    }

    /** COFFEES and the SEED, by numbers without bounds. */
    private static void drawn(String of, QuartetNods x, int times, int seed, int players, int bars) {
        BigInteger s = BigInteger.valueOf(seed);
        int coffees = 0;
        for (int i = 0; i < times * bars; i++) {
            s = next(next(s));
            if (s.divide(BigInteger.valueOf(65536)).mod(BigInteger.valueOf(6)).signum() == 0) {
                coffees++;
            }
        }
        c.due(of + ", PLAYERS", x.count(2), players);
        c.due(of + ", COFFEES", x.draughts(times, seed, 1), coffees);
        c.due(of + ", the SEED then", x.draughts(times, seed, 2), s.longValueExact());
        c.due(of + ", the same again", x.draughts(times, seed, 2), s.longValueExact());
    }

    private static BigInteger next(BigInteger seed) {
        return seed.multiply(BigInteger.valueOf(1103515245)).add(BigInteger.valueOf(12345)).mod(BigInteger.ONE.shiftLeft(31));
    }

    private static void draws() {
        QuartetNods x = Checks.of("l1;5", PLAYER, 0);
        for (int seed : new int[] {0, 1, 2, 65535, 65536, 1 << 30, MAX - 1, MAX}) {
            long want = next(next(BigInteger.valueOf(seed))).longValueExact();
            c.due("21 the rest by 2 to the 31, SEED " + seed, x.draughts(1, seed, 2), want);
        }
        // by whom the coffee is got: the four are awake by it in turn, as each takes other PARTS
        QuartetNods four = Checks.of("l4;1", VIRTUOSO, 4, CELLO, 4, PLAYER, 4, PLAYER, 5);
        int[] losts = {0, 2, 3, 4};
        for (int seed = 0; seed < 200; seed++) {
            BigInteger first = next(BigInteger.valueOf(seed)), second = next(first);
            int whom = first.shiftRight(16).mod(BigInteger.valueOf(4)).intValue();
            boolean given = second.shiftRight(16).mod(BigInteger.valueOf(6)).signum() == 0;
            c.due("21 whom, by SEED " + seed, four.draughts(1, seed, 0), given ? losts[whom] : 4);
        }
    }

    // ---- what is told of all

    private static void image() {
        QuartetNods x = Checks.of("l1,l1;5");
        c.due("22 of nobody, nothing played", x.image(), 0);
        x.player(PLAYER, 0);
        x.play();
        x.play();
        c.due("22 restore", x.restore(), 0);
        c.due("22 nobody", x.count(2), 0);
        x.player(PLAYER, 9);
        x.play();
        x.play();
        c.due("22 all BARS were played", x.image(), 2);
        x.again();
        x.tire(0, 0);
        c.due("22 the latest", x.restore(), 2);
        c.due("22 TIRED as then", x.about(0, 1), 7);
        c.due("22 no BAR is next", x.play(), STATE);
    }

    private static void restore() {
        QuartetNods x = Checks.of("l1,l1;5", PLAYER, 4);
        for (int i = 0; i < 6; i++) {
            x.tell(1, 0);
        }
        long then = x.digest();
        x.image();
        x.player(DREAMER, 9);
        x.player(DREAMER, 9);
        x.player(SNORER, 9);
        c.due("23 four", x.player(PLAYER, 0), FULL);
        x.forget();
        x.coffee(0);
        x.coffee(3);
        x.play();
        c.due("23 restore", x.restore(), 0);
        c.due("23 all as then", x.digest(), then);
        c.due("23 who came since is gone", x.about(1, 0), UNKNOWN);
        c.due("23 TOLD is full as then", x.tell(0, 0), FULL);
        c.due("23 there is room again", x.player(PLAYER, 9), 1);
        c.due("23 the new one was given nothing", x.about(1, 6), 0);
        c.due("23 restore without end", x.restore(), 0);
        c.due("23 all as then", x.digest(), then);
        Checks.type(x, "l1;");
        c.due("23 no PIECE", x.piece(), STATE);
        c.due("23 so there is no other", x.restore(), 0);
        x.letter('5');
        x.piece();
        c.due("23 there is another", x.restore(), STATE);
        c.due("23 nobody came with it", x.count(2), 0);
        c.due("23 an IMAGE of the other", x.image(), 0);
        c.due("23 is one", x.restore(), 0);
        fromEmptyAndFromFull();
    }

    /** An IMAGE of much, restored when all is empty, and one of nothing, restored when all is full. */
    private static void fromEmptyAndFromFull() {
        QuartetNods x = new QuartetNods(), twin = new QuartetNods();
        for (QuartetNods one : new QuartetNods[] {x, twin}) {
            Checks.type(one, SIX);
            one.piece();
        }
        x.image();
        fill(x);
        c.due("23 from full to nothing", x.restore(), 0);
        asTwins("23 from full to nothing", x, twin);
        for (QuartetNods one : new QuartetNods[] {x, twin}) {
            one.player(SNORER, 6);
            one.player(PLAYER, 9);
            one.tell(5, 2);
            one.coffee(1);
            one.play();
        }
        asTwins("23 they are alike", x, twin);
        x.image();
        x.forget();
        x.tire(0, 9);
        x.coffee(1);
        x.play();
        x.play();
        fill(x);
        c.due("23 back to some", x.restore(), 1);
        asTwins("23 back to some", x, twin);
        c.due("23 play", x.play(), twin.play());
        asTwins("23 back to some, and on", x, twin);
    }

    private static void fill(QuartetNods x) {
        for (int i = 0; i < 6; i++) {
            x.player(i % 2 == 0 ? DREAMER : SNORER, 9);
            x.tell(i, 4);
            x.coffee(i % 4);
            x.play();
        }
    }

    private static void count() {
        QuartetNods x = Checks.of(SIX, SNORER, 4, DREAMER, 5, PLAYER, 5, DREAMER, 9);
        c.due("24 the most BARS", x.count(0), 6);
        c.due("24 PLAYERS", x.count(2), 4);
        c.due("24 AWAKE", x.count(3), 1);
        c.due("24 HEARD", x.count(4), 2);
        x.tire(2, 0);
        c.due("24 AWAKE", x.count(3), 2);
        c.due("24 HEARD", x.count(4), 4);
        for (int i = 0; i < 6; i++) {
            x.play();
        }
        c.due("24 BARS played", x.count(5), 6);
        x.again();
        c.due("24 since it began again", x.count(5), 0);
        x.coffee(0);
        x.coffee(3);
        c.due("24 COFFEES", x.count(7), 2);
        c.due("24 the greatest what", x.count(12), 0);
        x.order(0);
        c.due("24 order()", x.count(12), 1);
        c.due("24 cups()", x.count(11), 0);
        for (int i = 2; i <= 5; i++) {
            Checks.type(x, "s1;5");
            x.piece();
            c.due("24 how often a PIECE was read", x.count(10), i);
        }
    }

    private static void digest() {
        QuartetNods x = new QuartetNods();
        c.due("25 of nothing, wrapping", x.digest(), digestOf(x, ""));
        c.due("25 of nothing", x.digest(), BigInteger.valueOf(859).multiply(BigInteger.valueOf(31).pow(13)).longValue());
        x = Checks.of("l1;5");
        c.due("25 a PIECE, nobody", x.digest(), digestOf(x, ""));
        x = Checks.of(SIX, VIRTUOSO, 9, SNORER, 9, DREAMER, 9, CELLO, 9);
        for (int i = 0; i < 6; i++) {
            x.tell(i, 4);
        }
        Checks.type(x, "~~~~~~~~~~~~~~~~~~~~~~");
        c.due("25 all is full", x.digest(), digestOf(x, "~~~~~~~~~~~~~~~~~~~~~~"));
        x.forget();
        x.tell(3, x.bar(3, 2));
        c.due("25 one TOLD, NONE else", x.digest(), digestOf(x, "~~~~~~~~~~~~~~~~~~~~~~"));
        x = Checks.of("r4,r4,r4,r4,r4,r4;9", VIRTUOSO, 0);
        c.due("25 the first BAR with such is the last", x.digest(), digestOf(x, ""));
        x = Checks.of("l4,l4;9", VIRTUOSO, 0);
        c.due("25 there is none with such", x.digest(), digestOf(x, ""));
    }

    /** By numbers without bounds; longValue wraps once, in the end. */
    private static long digestOf(QuartetNods x, String page) {
        BigInteger h = BigInteger.valueOf(859);
        for (int bar = 0; bar < x.count(0); bar++) {
            for (int what = 0; what <= 3; what++) {
                h = with(h, x.bar(bar, what));
            }
        }
        for (int player = 0; player < x.count(2); player++) {
            for (int what = 0; what <= 6; what++) {
                h = with(h, x.about(player, what));
            }
            h = with(with(h, x.guess(player)), x.listen(player));
        }
        if (x.count(0) > 0) {
            h = with(with(h, x.hearing(0)), x.hearing(1));
        }
        for (char letter : page.toCharArray()) {
            h = with(h, letter);
        }
        for (int what = 0; what <= 12; what++) {
            h = with(h, x.count(what));
        }
        return h.longValue();
    }

    private static BigInteger with(BigInteger h, int number) {
        return h.multiply(BigInteger.valueOf(31)).add(BigInteger.valueOf(number));
    }

    private static void fiveHundredAndTwelveCalls() {
        QuartetNods x = Checks.of("l4;1", PLAYER, 9);
        for (int call = 7; call <= 511; call++) {
            c.due("call " + call, x.coffee(0), Math.max(0, 9 - 4 * (call - 6)));
        }
        c.due("the 512th call", x.count(7), 505);
        QuartetNods y = Checks.of("s4;1");
        for (int call = 6; call < 512; call += 2) {
            c.due("call " + call, y.play(), 4);
            c.due("call " + (call + 1), y.again(), 1);
        }
        c.due("the 512th call", y.count(6), 4 * 253);
    }
}
