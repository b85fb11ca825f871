import java.util.Random;

/** Long runs of calls by chance (the same ones each time), on the class and on the plain model of it. */
public final class ModelTest {
    private static final Checks c = new Checks();
    private static final int RUNS = 400, CALLS = 480;

    public static void main(String[] args) {
        for (int run = 0; run < RUNS; run++) {
            new ModelTest(run).go();
        }
        c.end();
    }

    private final int run;
    private final Random chance;
    private final QuartetNods x = new QuartetNods();
    private final Model m = new Model();
    private int calls = 0;

    private ModelTest(int run) {
        this.run = run;
        this.chance = new Random(run);
    }

    private void go() {
        if (run % 8 != 0) {
            readPiece();
        }
        while (calls < CALLS) {
            int some = chance.nextInt(100);
            if (some == 0) {
                readPiece();
            } else if (some < 4) {
                typeSome();
            } else {
                callOne();
            }
            if (calls % 16 == 0) {
                due("digest()", x.digest(), m.digest());
            }
        }
    }

    private void due(String call, long got, long want) {
        calls++;
        c.due("run " + run + ", call " + calls + ": " + call, got, want);
    }

    private void readPiece() {
        due("blank()", x.blank(), m.blank());
        type(pieceByChance());
        due("piece()", x.piece(), m.piece());
        int players = chance.nextInt(5);
        for (int i = 0; i < players; i++) {
            player(chance.nextInt(5), chance.nextInt(10));
        }
    }

    private String pieceByChance() {
        StringBuilder text = new StringBuilder();
        int bars = 1 + chance.nextInt(6);
        for (int bar = 0; bar < bars; bar++) {
            text.append(bar == 0 ? "" : ",").append("slar".charAt(chance.nextInt(4))).append(1 + chance.nextInt(4));
        }
        return text.append(";").append(1 + chance.nextInt(9)).toString();
    }

    private void typeSome() {
        String text = pieceByChance();
        int cut = chance.nextInt(text.length() + 1);
        String signs = "slar,;0123456789x";
        type(text.substring(0, cut) + signs.charAt(chance.nextInt(signs.length())));
        due("fault()", x.fault(), m.fault());
        due("piece()", x.piece(), m.piece());
        if (chance.nextBoolean()) {
            due("blank()", x.blank(), m.blank());
        }
    }

    private void type(String text) {
        for (char letter : text.toCharArray()) {
            due("letter(" + (int) letter + ")", x.letter(letter), m.letter(letter));
            due("fault()", x.fault(), m.fault());
        }
    }

    private void player(int kind, int tired) {
        due("player(" + kind + ", " + tired + ")", x.player(kind, tired), m.player(kind, tired));
    }

    /** Mostly a number of 0 to below the bound, at times one beside it. */
    private int number(int bound) {
        int some = chance.nextInt(40);
        if (some == 0) return Integer.MIN_VALUE;
        if (some == 1) return Integer.MAX_VALUE;
        if (some == 2) return -1;
        if (some == 3) return bound;
        return chance.nextInt(bound);
    }

    private int ofRow() {
        return chance.nextInt(3) == 0 ? 0 : 9 + chance.nextInt(8);
    }

    private void callOne() {
        int bar = number(6), player = number(4), kind = number(5), tired = number(10), what = number(7);
        int row = ofRow(), times = number(31), counted = number(13), seed = chance.nextInt();
        switch (chance.nextInt(20)) {
            case 0: due("letter(" + seed % 128 + ")", x.letter(seed % 128), m.letter(seed % 128)); break;
            case 1: due("bar(" + bar + ", " + what % 5 + ")", x.bar(bar, what % 5), m.bar(bar, what % 5)); break;
            case 2: player(kind, tired); break;
            case 3: due("about(" + player + ", " + what + ")", x.about(player, what), m.about(player, what)); break;
            case 4: due("as(" + player + ", " + kind + ")", x.as(player, kind), m.as(player, kind)); break;
            case 5: due("coffee(" + player + ")", x.coffee(player), m.coffee(player)); break;
            case 6: due("tire(" + player + ", " + tired + ")", x.tire(player, tired), m.tire(player, tired)); break;
            case 7: case 8: due("play()", x.play(), m.play()); break;
            case 9: due("again()", x.again(), m.again()); break;
            case 10: due("hearing(" + what % 3 + ")", x.hearing(what % 3), m.hearing(what % 3)); break;
            case 11: due("cups(" + row + ")", x.cups(row), m.cups(row)); break;
            case 12: due("order(" + row + ")", x.order(row), m.order(row)); break;
            case 13: tellSome(bar, number(5)); break;
            case 14: due("forget()", x.forget(), m.forget()); break;
            case 15: due("guess(" + player + ")", x.guess(player), m.guess(player)); break;
            case 16: due("listen(" + player + ")", x.listen(player), m.listen(player)); break;
            case 17: due("draughts(" + times + ", " + seed + ", " + what % 4 + ")",
                    x.draughts(times, seed, what % 4), m.draughts(times, seed, what % 4)); break;
            case 18: imageOrRestore(); break;
            default: due("count(" + counted + ")", x.count(counted), m.count(counted)); break;
        }
    }

    /** What would be so is told more often than not, as else nothing is left to guess. */
    private void tellSome(int bar, int lost) {
        int so = m.bar(bar, 2);
        int said = so >= 0 && chance.nextInt(4) > 0 ? so : lost;
        due("tell(" + bar + ", " + said + ")", x.tell(bar, said), m.tell(bar, said));
    }

    private void imageOrRestore() {
        if (chance.nextInt(3) == 0) {
            due("image()", x.image(), m.image());
        } else {
            due("restore()", x.restore(), m.restore());
        }
    }
}
