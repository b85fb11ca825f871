/**
 * A quartet whose parts are played by whom the beat finds awake. The words in capitals are
 * those of the document; README.md says how to use it.
 */
public final class QuartetNods {
    public static final int NONE = -1, UNKNOWN = -101, OUTSIDE = -102, STATE = -103, FULL = -104;

    private static final int MAX_LETTERS = 22;
    private static final int MAX_BARS = 6;
    private static final int MAX_PARTS = 4;
    private static final int MAX_PLAYERS = 4;
    private static final int MAX_TOLD = 6;
    private static final int MOST_TIRED = 9;
    private static final int MAX_TIMES = 30;
    private static final int MAX_CUPS_DONE = 12;
    private static final int MAX_ORDERS_DONE = 20;

    private static final int KINDS = 5, CELLO = 1, DREAMER = 2, SNORER = 3, VIRTUOSO = 4;
    private static final int SORTS = 4;
    private static final int COFFEE_HELPS = 4;
    /** what = FIRST_PLACE + i asks cups() and order() for the place i of their row. */
    private static final int FIRST_PLACE = 10;
    private static final int DRAUGHT_ODDS = 6;

    /** By KIND: how many PARTS one takes at most. */
    private static final int[] MOST_TAKEN = {1, 2, 1, 1, 4};
    /** By SORT: its letter, and by how much it tires. */
    private static final char[] SORT_LETTERS = {'s', 'l', 'a', 'r'};
    private static final int[] SORT_TIRES = {2, -1, -3, 1};

    private final Page page;
    private final Score score;
    private final Evening now;
    private final Evening kept;
    private final Ensemble ensemble;
    private final CupSearch cupSearch;
    private final OrderSearch orderSearch;
    private final Listener listener;
    private final Draughts air;
    private boolean isKept;
    private int piecesRead;
    private int cupsDone;
    private int ordersDone;

    public QuartetNods() {
        page = new Page();
        score = new Score();
        now = new Evening();
        kept = new Evening();
        ensemble = new Ensemble(score, now);
        cupSearch = new CupSearch(score, now, ensemble);
        orderSearch = new OrderSearch(score, ensemble);
        listener = new Listener(score, now, ensemble);
        air = new Draughts(score, now, ensemble);
        isKept = false;
        piecesRead = 0;
        cupsDone = 0;
        ordersDone = 0;
    }

    // ---- the piece

    public int letter(int code) {
        if (code < 1 || code > 126) {
            return OUTSIDE;
        }
        if (page.length >= MAX_LETTERS) {
            return FULL;
        }
        page.write(code);
        return page.length;
    }

    public int blank() {
        int had = page.length;
        page.length = 0;
        return had;
    }

    public int fault() {
        return page.firstFault();
    }

    public int piece() {
        if (!page.isWhole()) {
            return STATE;
        }
        score.read(page);
        page.length = 0;
        now.beginAnew();
        isKept = false;
        piecesRead++;
        return score.bars;
    }

    public int bar(int bar, int what) {
        if (!score.has(bar)) {
            return UNKNOWN;
        }
        if (what < 0 || what > 3) {
            return OUTSIDE;
        }
        return ofBar(bar, what, ensemble.lossesFrom(now.tired));
    }

    private int ofBar(int bar, int what, int losses) {
        switch (what) {
            case 0:
                return score.sorts[bar];
            case 1:
                return score.parts[bar];
            case 2:
                return Nibbles.get(losses, bar);
            default:
                return now.lastToldOf(bar);
        }
    }

    // ---- players

    public int player(int kind, int tired) {
        if (!isKind(kind) || !isTiredness(tired)) {
            return OUTSIDE;
        }
        if (score.bars == 0) {
            return STATE;
        }
        if (now.players >= MAX_PLAYERS) {
            return FULL;
        }
        return now.welcome(kind, tired);
    }

    public int about(int player, int what) {
        if (!now.has(player)) {
            return UNKNOWN;
        }
        if (what < 0 || what > 6) {
            return OUTSIDE;
        }
        return ofPlayer(player, what);
    }

    private int ofPlayer(int player, int what) {
        switch (what) {
            case 0:
                return now.kinds[player];
            case 1:
                return Nibbles.get(now.tired, player);
            case 2:
                return ensemble.awakeOf(now.tired) >> player & 1;
            case 3:
                return ensemble.heardWith(ensemble.awakeOf(now.tired)) >> player & 1;
            case 4:
                return shareOfNext(player);
            case 5:
                return now.taken[player];
            default:
                return now.coffees[player];
        }
    }

    private int shareOfNext(int player) {
        if (!score.has(now.played)) {
            return 0;
        }
        return Nibbles.get(ensemble.sharesOf(now.played, now.tired), player);
    }

    public int as(int player, int kind) {
        if (!now.has(player)) {
            return UNKNOWN;
        }
        if (!isKind(kind)) {
            return OUTSIDE;
        }
        return isSuch(now.kinds[player], kind) ? player : NONE;
    }

    public int coffee(int player) {
        if (!now.has(player)) {
            return UNKNOWN;
        }
        now.tired = refreshed(now.tired, player);
        now.coffees[player]++;
        return Nibbles.get(now.tired, player);
    }

    public int tire(int player, int tired) {
        if (!now.has(player)) {
            return UNKNOWN;
        }
        if (!isTiredness(tired)) {
            return OUTSIDE;
        }
        int was = Nibbles.get(now.tired, player);
        now.tired = Nibbles.with(now.tired, player, tired);
        return was;
    }

    public int play() {
        int bar = now.played;
        if (!score.has(bar)) {
            return STATE;
        }
        int shares = ensemble.sharesOf(bar, now.tired);
        int lost = score.parts[bar] - Nibbles.sum(shares);
        for (int player = 0; player < now.players; player++) {
            now.taken[player] += Nibbles.get(shares, player);
        }
        now.tired = ensemble.tiredBehind(bar, now.tired, shares);
        now.lost += lost;
        now.played++;
        return lost;
    }

    public int again() {
        if (score.bars == 0) {
            return STATE;
        }
        int played = now.played;
        now.played = 0;
        return played;
    }

    // ---- what would be

    public int hearing(int what) {
        if (what < 0 || what > 1) {
            return OUTSIDE;
        }
        if (score.bars == 0) {
            return STATE;
        }
        return ofHearing(what, ensemble.lossesFrom(now.tired));
    }

    private static int ofHearing(int what, int losses) {
        return what == 0 ? Nibbles.sum(losses) : Nibbles.firstAboveZero(losses);
    }

    public int cups(int what) {
        if (!isOfRow(what)) {
            return OUTSIDE;
        }
        if (score.bars == 0 || cupsDone >= MAX_CUPS_DONE) {
            return STATE;
        }
        cupsDone++;
        cupSearch.run();
        return what == 0 ? cupSearch.fewest() : cupSearch.whomAheadOf(what - FIRST_PLACE);
    }

    public int order(int what) {
        if (!isOfRow(what)) {
            return OUTSIDE;
        }
        if (score.bars == 0 || ordersDone >= MAX_ORDERS_DONE) {
            return STATE;
        }
        ordersDone++;
        orderSearch.run(now.tired);
        return what == 0 ? orderSearch.leastLost : orderSearch.barAt(what - FIRST_PLACE);
    }

    // ---- what is told

    public int tell(int bar, int lost) {
        if (!score.has(bar)) {
            return UNKNOWN;
        }
        if (lost < 0 || lost > MAX_PARTS) {
            return OUTSIDE;
        }
        if (now.told >= MAX_TOLD) {
            return FULL;
        }
        now.hear(bar, lost);
        return now.told;
    }

    public int forget() {
        int told = now.told;
        now.told = 0;
        return told;
    }

    public int guess(int player) {
        if (!now.has(player)) {
            return UNKNOWN;
        }
        listener.study(player);
        return listener.possible;
    }

    public int listen(int player) {
        if (!now.has(player)) {
            return UNKNOWN;
        }
        listener.study(player);
        return listener.bestBar();
    }

    public int draughts(int times, int seed, int what) {
        if (times < 1 || times > MAX_TIMES || seed < 0 || what < 0 || what > 2) {
            return OUTSIDE;
        }
        if (now.players == 0) {
            return STATE;
        }
        air.blow(times, seed);
        switch (what) {
            case 0:
                return air.lost;
            case 1:
                return air.coffees;
            default:
                return air.seed;
        }
    }

    // ---- what is told of all

    public int image() {
        if (score.bars == 0) {
            return STATE;
        }
        kept.takeOver(now);
        isKept = true;
        return now.played;
    }

    public int restore() {
        if (!isKept) {
            return STATE;
        }
        now.takeOver(kept);
        return now.played;
    }

    public int count(int what) {
        if (what < 0 || what > 12) {
            return OUTSIDE;
        }
        return countOf(what);
    }

    private int countOf(int what) {
        switch (what) {
            case 0:
                return score.bars;
            case 1:
                return score.limit;
            case 2:
                return now.players;
            case 3:
                return Integer.bitCount(ensemble.awakeOf(now.tired));
            case 4:
                return Integer.bitCount(ensemble.heardWith(ensemble.awakeOf(now.tired)));
            case 5:
                return now.played;
            case 6:
                return now.lost;
            case 7:
                return now.coffeesGiven();
            case 8:
                return now.told;
            case 9:
                return page.length;
            case 10:
                return piecesRead;
            case 11:
                return cupsDone;
            default:
                return ordersDone;
        }
    }

    public long digest() {
        int losses = ensemble.lossesFrom(now.tired);
        long h = 859;
        for (int bar = 0; bar < score.bars; bar++) {
            for (int what = 0; what <= 3; what++) {
                h = 31 * h + ofBar(bar, what, losses);
            }
        }
        for (int player = 0; player < now.players; player++) {
            h = withPlayer(h, player);
        }
        if (score.bars > 0) {
            h = 31 * h + ofHearing(0, losses);
            h = 31 * h + ofHearing(1, losses);
        }
        for (int place = 0; place < page.length; place++) {
            h = 31 * h + page.letters[place];
        }
        for (int what = 0; what <= 12; what++) {
            h = 31 * h + countOf(what);
        }
        return h;
    }

    private long withPlayer(long before, int player) {
        long h = before;
        for (int what = 0; what <= 6; what++) {
            h = 31 * h + ofPlayer(player, what);
        }
        listener.study(player);
        h = 31 * h + listener.possible;
        return 31 * h + listener.bestBar();
    }

    private static boolean isKind(int kind) {
        return kind >= 0 && kind < KINDS;
    }

    private static boolean isTiredness(int tired) {
        return tired >= 0 && tired <= MOST_TIRED;
    }

    private static boolean isSuch(int kind, int asked) {
        return asked == 0 || asked == kind || asked == CELLO && kind == VIRTUOSO;
    }

    private static boolean isOfRow(int what) {
        return what == 0 || what >= FIRST_PLACE && what < FIRST_PLACE + MAX_BARS;
    }

    private static int refreshed(int tired, int player) {
        int less = Math.max(0, Nibbles.get(tired, player) - COFFEE_HELPS);
        return Nibbles.with(tired, player, less);
    }

    /**
     * Rows of up to eight small numbers (0 to 15) in one int: the searches go through
     * thousands of such rows, and so none of them makes or copies an array.
     */
    private static final class Nibbles {
        static int get(int row, int place) {
            return row >> 4 * place & 15;
        }

        static int with(int row, int place, int value) {
            return row & ~(15 << 4 * place) | value << 4 * place;
        }

        static int sum(int row) {
            int sum = 0;
            for (int place = 0; place < MAX_BARS; place++) {
                sum += get(row, place);
            }
            return sum;
        }

        static int firstAboveZero(int row) {
            for (int place = 0; place < MAX_BARS; place++) {
                if (get(row, place) > 0) {
                    return place;
                }
            }
            return NONE;
        }
    }

    /** THE PAGE. A BAR has three places: its SORT, its PARTS, and the sign behind it. */
    private static final class Page {
        final int[] letters = new int[MAX_LETTERS];
        int length;

        void write(int code) {
            if (length < MAX_LETTERS) {
                letters[length] = code;
                length++;
            }
        }

        int firstFault() {
            for (int place = 0; place < length; place++) {
                if (!fits(place)) {
                    return place;
                }
            }
            return length;
        }

        /** Without a fault, a letter behind ";" is LIMIT, and nothing is missing then. */
        boolean isWhole() {
            return length >= 2 && letters[length - 2] == ';' && firstFault() == length;
        }

        /** Whether the letter fits behind those ahead of it, if these fit. */
        private boolean fits(int place) {
            int code = letters[place];
            if (place >= 2 && letters[place - 2] == ';') {
                return false;
            }
            if (place >= 1 && letters[place - 1] == ';') {
                return code >= '1' && code <= '9';
            }
            switch (place % 3) {
                case 0:
                    return Score.sortOf(code) != NONE;
                case 1:
                    return code >= '1' && code <= '0' + MAX_PARTS;
                default:
                    return code == ';' || code == ',' && place / 3 + 1 < MAX_BARS;
            }
        }
    }

    /** THE PIECE; without BARS there is none. */
    private static final class Score {
        final int[] sorts = new int[MAX_BARS];
        final int[] parts = new int[MAX_BARS];
        int bars;
        int limit;

        static int sortOf(int code) {
            for (int sort = 0; sort < SORTS; sort++) {
                if (SORT_LETTERS[sort] == code) {
                    return sort;
                }
            }
            return NONE;
        }

        boolean has(int bar) {
            return bar >= 0 && bar < bars;
        }

        /** Of a page that is whole. */
        void read(Page page) {
            bars = Math.min(MAX_BARS, page.length / 3);
            for (int bar = 0; bar < bars; bar++) {
                sorts[bar] = Math.max(0, sortOf(page.letters[3 * bar]));
                parts[bar] = page.letters[3 * bar + 1] - '0';
            }
            limit = page.letters[3 * bars] - '0';
        }
    }

    /** How it stands with the players: all that an IMAGE keeps. */
    private static final class Evening {
        final int[] kinds = new int[MAX_PLAYERS];
        final int[] coffees = new int[MAX_PLAYERS];
        final int[] taken = new int[MAX_PLAYERS];
        final int[] toldBars = new int[MAX_TOLD];
        final int[] toldLosts = new int[MAX_TOLD];
        int told;
        int players;
        /** One nibble for each player. */
        int tired;
        /** One bit for each player who is such. */
        int dreamers;
        int snorers;
        int played;
        int lost;

        boolean has(int player) {
            return player >= 0 && player < players;
        }

        void beginAnew() {
            told = 0;
            players = 0;
            tired = 0;
            dreamers = 0;
            snorers = 0;
            played = 0;
            lost = 0;
        }

        int welcome(int kind, int tiredness) {
            int player = players;
            if (player >= MAX_PLAYERS) {
                return NONE;
            }
            kinds[player] = kind;
            coffees[player] = 0;
            taken[player] = 0;
            tired = Nibbles.with(tired, player, tiredness);
            dreamers |= kind == DREAMER ? 1 << player : 0;
            snorers |= kind == SNORER ? 1 << player : 0;
            players++;
            return player;
        }

        void hear(int bar, int lostThere) {
            if (told < MAX_TOLD) {
                toldBars[told] = bar;
                toldLosts[told] = lostThere;
                told++;
            }
        }

        int lastToldOf(int bar) {
            for (int i = told - 1; i >= 0; i--) {
                if (toldBars[i] == bar) {
                    return toldLosts[i];
                }
            }
            return NONE;
        }

        boolean isAsTold(int losses) {
            for (int i = 0; i < told; i++) {
                if (Nibbles.get(losses, toldBars[i]) != toldLosts[i]) {
                    return false;
                }
            }
            return true;
        }

        int coffeesGiven() {
            int given = 0;
            for (int player = 0; player < players; player++) {
                given += coffees[player];
            }
            return given;
        }

        void takeOver(Evening other) {
            System.arraycopy(other.kinds, 0, kinds, 0, MAX_PLAYERS);
            System.arraycopy(other.coffees, 0, coffees, 0, MAX_PLAYERS);
            System.arraycopy(other.taken, 0, taken, 0, MAX_PLAYERS);
            System.arraycopy(other.toldBars, 0, toldBars, 0, MAX_TOLD);
            System.arraycopy(other.toldLosts, 0, toldLosts, 0, MAX_TOLD);
            told = other.told;
            players = other.players;
            tired = other.tired;
            dreamers = other.dreamers;
            snorers = other.snorers;
            played = other.played;
            lost = other.lost;
        }
    }

    /** The rule of the quartet, for any row of how TIRED all are. */
    private static final class Ensemble {
        private final Score score;
        private final Evening evening;

        Ensemble(Score score, Evening evening) {
            this.score = score;
            this.evening = evening;
        }

        /** As bits. */
        int awakeOf(int tired) {
            int awake = 0;
            for (int player = 0; player < evening.players; player++) {
                if (Nibbles.get(tired, player) < score.limit) {
                    awake |= 1 << player;
                }
            }
            return awake;
        }

        /** As bits, as who is AWAKE. */
        int heardWith(int awake) {
            return awake | evening.dreamers & (awake << 1 | awake >> 1);
        }

        /** PARTS of a BAR that each takes. */
        int sharesOf(int bar, int tired) {
            int waiting = heardWith(awakeOf(tired));
            int left = score.parts[bar];
            int shares = 0;
            for (int turn = 0; turn < MAX_PLAYERS && left > 0 && waiting != 0; turn++) {
                int player = leastTired(waiting, tired);
                int share = Math.min(left, MOST_TAKEN[evening.kinds[player]]);
                shares = Nibbles.with(shares, player, share);
                left -= share;
                waiting &= ~(1 << player);
            }
            return shares;
        }

        private static int leastTired(int waiting, int tired) {
            int least = 0;
            int leastTiredness = MOST_TIRED + 1;
            for (int player = 0; player < MAX_PLAYERS; player++) {
                int tiredness = Nibbles.get(tired, player);
                if ((waiting >> player & 1) == 1 && tiredness < leastTiredness) {
                    least = player;
                    leastTiredness = tiredness;
                }
            }
            return least;
        }

        int tiredBehind(int bar, int tired, int shares) {
            int snoring = evening.snorers & ~awakeOf(tired);
            int tires = SORT_TIRES[score.sorts[bar]];
            int behind = 0;
            for (int player = 0; player < evening.players; player++) {
                int tiredness = Nibbles.get(tired, player) + tires;
                tiredness += Nibbles.get(shares, player) > 0 ? 1 : 0;
                tiredness -= snoring >> player + 1 & 1;
                tiredness -= snoring << 1 >> player & 1;
                tiredness = Math.max(0, Math.min(MOST_TIRED, tiredness));
                behind = Nibbles.with(behind, player, tiredness);
            }
            return behind;
        }

        /** PARTS that would be LOST in each BAR, from BAR 0 on. */
        int lossesFrom(int tiredAtFirst) {
            int tired = tiredAtFirst;
            int losses = 0;
            for (int bar = 0; bar < score.bars; bar++) {
                int shares = sharesOf(bar, tired);
                losses = Nibbles.with(losses, bar, score.parts[bar] - Nibbles.sum(shares));
                tired = tiredBehind(bar, tired, shares);
            }
            return losses;
        }
    }

    /** CUPS. Ways are tried in the order of their numbers, so only a better one replaces one. */
    private static final class CupSearch {
        private final Score score;
        private final Evening evening;
        private final Ensemble ensemble;
        private final int[] tried = new int[MAX_BARS];
        private final int[] best = new int[MAX_BARS];
        private int bestUsed;

        CupSearch(Score score, Evening evening, Ensemble ensemble) {
            this.score = score;
            this.evening = evening;
            this.ensemble = ensemble;
        }

        void run() {
            bestUsed = MAX_BARS + 1;
            tryFrom(0, evening.tired, 0);
        }

        int fewest() {
            return bestUsed > MAX_BARS ? NONE : bestUsed;
        }

        int whomAheadOf(int bar) {
            return bestUsed > MAX_BARS || !score.has(bar) ? NONE : best[bar];
        }

        private void tryFrom(int bar, int tired, int used) {
            if (used >= bestUsed) {
                return;
            }
            if (!score.has(bar)) {
                bestUsed = used;
                System.arraycopy(tried, 0, best, 0, MAX_BARS);
                return;
            }
            tried[bar] = NONE;
            tryBar(bar, tired, used);
            for (int player = 0; player < evening.players; player++) {
                // for one who isn't tired it is as for nobody, and a cup more
                if (Nibbles.get(tired, player) > 0) {
                    tried[bar] = player;
                    tryBar(bar, refreshed(tired, player), used + 1);
                }
            }
        }

        private void tryBar(int bar, int tired, int used) {
            int shares = ensemble.sharesOf(bar, tired);
            if (Nibbles.sum(shares) == score.parts[bar]) {
                tryFrom(bar + 1, ensemble.tiredBehind(bar, tired, shares), used);
            }
        }
    }

    /** ORDER. Rows are tried in the order of their numbers, so only a better one replaces one. */
    private static final class OrderSearch {
        private final Score score;
        private final Ensemble ensemble;
        private final int[] tried = new int[MAX_BARS];
        private final int[] best = new int[MAX_BARS];
        int leastLost;

        OrderSearch(Score score, Ensemble ensemble) {
            this.score = score;
            this.ensemble = ensemble;
        }

        void run(int tired) {
            leastLost = MAX_BARS * MAX_PARTS + 1;
            tryFrom(0, 0, tired, 0);
        }

        int barAt(int place) {
            return score.has(place) ? best[place] : NONE;
        }

        /** used: as bits, the BARS that stand ahead of the place. */
        private void tryFrom(int place, int used, int tired, int lost) {
            if (lost >= leastLost) {
                return;
            }
            if (!score.has(place)) {
                leastLost = lost;
                System.arraycopy(tried, 0, best, 0, MAX_BARS);
                return;
            }
            for (int bar = 0; bar < score.bars; bar++) {
                if ((used >> bar & 1) == 0) {
                    tried[place] = bar;
                    int shares = ensemble.sharesOf(bar, tired);
                    int lostThen = lost + score.parts[bar] - Nibbles.sum(shares);
                    int tiredThen = ensemble.tiredBehind(bar, tired, shares);
                    tryFrom(place + 1, used | 1 << bar, tiredThen, lostThen);
                }
            }
        }
    }

    /** GUESS and LISTEN, for the player that was studied last. */
    private static final class Listener {
        private final Score score;
        private final Evening evening;
        private final Ensemble ensemble;
        /** By how TIRED he were at first: PARTS LOST in each BAR. */
        private final int[] lossesBy = new int[MOST_TIRED + 1];
        private final int[] alike = new int[MAX_PARTS + 1];
        /** By how much he could be TIRED, as bits. */
        int possible;

        Listener(Score score, Evening evening, Ensemble ensemble) {
            this.score = score;
            this.evening = evening;
            this.ensemble = ensemble;
        }

        void study(int player) {
            possible = 0;
            for (int tired = 0; tired <= MOST_TIRED; tired++) {
                int losses = ensemble.lossesFrom(Nibbles.with(evening.tired, player, tired));
                lossesBy[tired] = losses;
                if (evening.isAsTold(losses)) {
                    possible |= 1 << tired;
                }
            }
        }

        int bestBar() {
            if (possible == 0) {
                return NONE;
            }
            int best = NONE;
            int bestLeft = MOST_TIRED + 2;
            for (int bar = 0; bar < score.bars; bar++) {
                int left = mostLeftBy(bar);
                if (left < bestLeft) {
                    best = bar;
                    bestLeft = left;
                }
            }
            return best;
        }

        private int mostLeftBy(int bar) {
            int most = 0;
            for (int lost = 0; lost <= MAX_PARTS; lost++) {
                alike[lost] = 0;
            }
            for (int tired = 0; tired <= MOST_TIRED; tired++) {
                int lost = Nibbles.get(lossesBy[tired], bar);
                if ((possible >> tired & 1) == 1 && lost <= MAX_PARTS) {
                    alike[lost]++;
                    most = Math.max(most, alike[lost]);
                }
            }
            return most;
        }
    }

    /** DRAUGHTS: what became of the last ones. */
    private static final class Draughts {
        private final Score score;
        private final Evening evening;
        private final Ensemble ensemble;
        int lost;
        int coffees;
        int seed;

        Draughts(Score score, Evening evening, Ensemble ensemble) {
            this.score = score;
            this.evening = evening;
            this.ensemble = ensemble;
        }

        void blow(int times, int firstSeed) {
            lost = 0;
            coffees = 0;
            seed = firstSeed;
            for (int time = 0; time < times; time++) {
                blowOnce();
            }
        }

        private void blowOnce() {
            int tired = evening.tired;
            for (int bar = 0; bar < score.bars; bar++) {
                int player = draw(evening.players);
                if (draw(DRAUGHT_ODDS) == 0) {
                    tired = refreshed(tired, player);
                    coffees++;
                }
                int shares = ensemble.sharesOf(bar, tired);
                lost += score.parts[bar] - Nibbles.sum(shares);
                tired = ensemble.tiredBehind(bar, tired, shares);
            }
        }

        private int draw(int of) {
            seed = (int) (1103515245L * seed + 12345L & 0x7fffffffL);
            return of > 0 ? seed / 65536 % of : 0;
        }
    }
}
