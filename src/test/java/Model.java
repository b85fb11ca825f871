import java.util.ArrayList;
import java.util.List;
import java.util.regex.Pattern;

/** The document told a second time, in its plainest form: every way is tried, nothing is kept for later. */
final class Model {
    private static final int NONE = -1, UNKNOWN = -101, OUTSIDE = -102, STATE = -103, FULL = -104;

    private static final class Musician {
        int kind, tired, took, cups;

        Musician(int kind, int tired) {
            this.kind = kind;
            this.tired = tired;
        }

        Musician copy() {
            Musician m = new Musician(kind, tired);
            m.took = took;
            m.cups = cups;
            return m;
        }
    }

    private static final class Situation {
        List<Musician> players = new ArrayList<>();
        List<int[]> told = new ArrayList<>();
        int at, lost;

        Situation copy() {
            Situation s = new Situation();
            for (Musician m : players) {
                s.players.add(m.copy());
            }
            s.told.addAll(told);
            s.at = at;
            s.lost = lost;
            return s;
        }
    }

    private String page = "";
    private String piece = "";
    private Situation now = new Situation();
    private Situation image = null;
    private int pieces, cupsDone, ordersDone;

    // ---- one bar

    private int bars() {
        return piece.length() / 3;
    }

    private char sort(int bar) {
        return piece.charAt(3 * bar);
    }

    private int parts(int bar) {
        return piece.charAt(3 * bar + 1) - '0';
    }

    private int limit() {
        return piece.isEmpty() ? 0 : piece.charAt(piece.length() - 1) - '0';
    }

    private boolean awake(List<Musician> all, int i) {
        return i >= 0 && i < all.size() && all.get(i).tired < limit();
    }

    private boolean heard(List<Musician> all, int i) {
        return awake(all, i) || all.get(i).kind == 2 && (awake(all, i - 1) || awake(all, i + 1));
    }

    private boolean snores(List<Musician> all, int i) {
        return i >= 0 && i < all.size() && all.get(i).kind == 3 && !awake(all, i);
    }

    private int[] shares(List<Musician> all, int bar) {
        int[] shares = new int[all.size()];
        int left = parts(bar);
        for (int tired = 0; tired <= 9; tired++) {
            for (int i = 0; i < all.size(); i++) {
                Musician m = all.get(i);
                if (m.tired == tired && heard(all, i)) {
                    shares[i] = Math.min(left, m.kind == 4 ? 4 : m.kind == 1 ? 2 : 1);
                    left -= shares[i];
                }
            }
        }
        return shares;
    }

    private int playBar(List<Musician> all, int bar) {
        int[] shares = shares(all, bar);
        int[] tired = new int[all.size()];
        int lost = parts(bar);
        for (int i = 0; i < all.size(); i++) {
            int t = all.get(i).tired;
            if (shares[i] > 0) t++;
            if (sort(bar) == 's') t += 2;
            if (sort(bar) == 'l') t -= 1;
            if (sort(bar) == 'a') t -= 3;
            if (sort(bar) == 'r') t += 1;
            if (snores(all, i - 1)) t--;
            if (snores(all, i + 1)) t--;
            tired[i] = t < 0 ? 0 : t > 9 ? 9 : t;
            lost -= shares[i];
        }
        for (int i = 0; i < all.size(); i++) {
            all.get(i).tired = tired[i];
            all.get(i).took += shares[i];
        }
        return lost;
    }

    private static int drink(Musician m) {
        m.tired = m.tired < 4 ? 0 : m.tired - 4;
        m.cups++;
        return m.tired;
    }

    private int[] lostEach(List<Musician> from) {
        int[] lost = new int[bars()];
        for (int bar = 0; bar < bars(); bar++) {
            lost[bar] = playBar(from, bar);
        }
        return lost;
    }

    // ---- the calls

    int letter(int code) {
        if (code < 1 || code > 126) return OUTSIDE;
        if (page.length() == 22) return FULL;
        page += (char) code;
        return page.length();
    }

    int blank() {
        int had = page.length();
        page = "";
        return had;
    }

    private static final Pattern WHOLE = Pattern.compile("[slar][1-4](,[slar][1-4]){0,5};[1-9]", Pattern.DOTALL);

    int fault() {
        for (int n = 1; n <= page.length(); n++) {
            java.util.regex.Matcher m = WHOLE.matcher(page.substring(0, n));
            if (!m.matches() && !m.hitEnd()) return n - 1;
        }
        return page.length();
    }

    int piece() {
        if (!WHOLE.matcher(page).matches()) return STATE;
        piece = page;
        page = "";
        now = new Situation();
        image = null;
        pieces++;
        return bars();
    }

    int bar(int bar, int what) {
        if (bar < 0 || bar >= bars()) return UNKNOWN;
        if (what < 0 || what > 3) return OUTSIDE;
        if (what == 0) return "slar".indexOf(sort(bar));
        if (what == 1) return parts(bar);
        if (what == 2) return lostEach(now.copy().players)[bar];
        int last = NONE;
        for (int[] t : now.told) {
            if (t[0] == bar) last = t[1];
        }
        return last;
    }

    int player(int kind, int tired) {
        if (kind < 0 || kind > 4 || tired < 0 || tired > 9) return OUTSIDE;
        if (piece.isEmpty()) return STATE;
        if (now.players.size() == 4) return FULL;
        now.players.add(new Musician(kind, tired));
        return now.players.size() - 1;
    }

    private boolean unknown(int player) {
        return player < 0 || player >= now.players.size();
    }

    int about(int player, int what) {
        if (unknown(player)) return UNKNOWN;
        Musician m = now.players.get(player);
        switch (what) {
            case 0: return m.kind;
            case 1: return m.tired;
            case 2: return awake(now.players, player) ? 1 : 0;
            case 3: return heard(now.players, player) ? 1 : 0;
            case 4: return now.at == bars() ? 0 : shares(now.players, now.at)[player];
            case 5: return m.took;
            case 6: return m.cups;
            default: return OUTSIDE;
        }
    }

    int as(int player, int kind) {
        if (unknown(player)) return UNKNOWN;
        if (kind < 0 || kind > 4) return OUTSIDE;
        String[] such = {"0", "01", "02", "03", "014"};
        return such[now.players.get(player).kind].indexOf('0' + kind) >= 0 ? player : NONE;
    }

    int coffee(int player) {
        return unknown(player) ? UNKNOWN : drink(now.players.get(player));
    }

    int tire(int player, int tired) {
        if (unknown(player)) return UNKNOWN;
        if (tired < 0 || tired > 9) return OUTSIDE;
        int was = now.players.get(player).tired;
        now.players.get(player).tired = tired;
        return was;
    }

    int play() {
        if (piece.isEmpty() || now.at == bars()) return STATE;
        int lost = playBar(now.players, now.at++);
        now.lost += lost;
        return lost;
    }

    int again() {
        if (piece.isEmpty()) return STATE;
        int was = now.at;
        now.at = 0;
        return was;
    }

    int hearing(int what) {
        if (what != 0 && what != 1) return OUTSIDE;
        if (piece.isEmpty()) return STATE;
        int[] lost = lostEach(now.copy().players);
        int sum = 0;
        int first = NONE;
        for (int bar = bars() - 1; bar >= 0; bar--) {
            sum += lost[bar];
            if (lost[bar] > 0) first = bar;
        }
        return what == 0 ? sum : first;
    }

    int cups(int what) {
        if (what != 0 && (what < 10 || what > 15)) return OUTSIDE;
        if (piece.isEmpty() || cupsDone == 12) return STATE;
        cupsDone++;
        int choices = now.players.size() + 1;
        int ways = 1;
        for (int bar = 0; bar < bars(); bar++) {
            ways *= choices;
        }
        int[] best = null;
        int fewest = 99;
        for (int way = 0; way < ways; way++) {
            int[] whom = new int[bars()];
            int cups = 0;
            for (int bar = bars() - 1, rest = way; bar >= 0; bar--, rest /= choices) {
                whom[bar] = rest % choices - 1;
                cups += whom[bar] >= 0 ? 1 : 0;
            }
            if (cups < fewest && allSounds(whom)) {
                best = whom;
                fewest = cups;
            }
        }
        if (best == null) return NONE;
        if (what == 0) return fewest;
        return what - 10 < bars() ? best[what - 10] : NONE;
    }

    private boolean allSounds(int[] whom) {
        List<Musician> all = now.copy().players;
        for (int bar = 0; bar < bars(); bar++) {
            if (whom[bar] >= 0) drink(all.get(whom[bar]));
            if (playBar(all, bar) > 0) return false;
        }
        return true;
    }

    int order(int what) {
        if (what != 0 && (what < 10 || what > 15)) return OUTSIDE;
        if (piece.isEmpty() || ordersDone == 20) return STATE;
        ordersDone++;
        List<List<Integer>> rows = new ArrayList<>();
        rowsOf(new ArrayList<>(), rows);
        List<Integer> best = null;
        int least = 99;
        for (List<Integer> row : rows) {
            List<Musician> all = now.copy().players;
            int lost = 0;
            for (int bar : row) {
                lost += playBar(all, bar);
            }
            if (lost < least) {
                least = lost;
                best = row;
            }
        }
        if (what == 0) return least;
        return what - 10 < bars() ? best.get(what - 10) : NONE;
    }

    private void rowsOf(List<Integer> begun, List<List<Integer>> rows) {
        if (begun.size() == bars()) {
            rows.add(begun);
            return;
        }
        for (int bar = 0; bar < bars(); bar++) {
            if (!begun.contains(bar)) {
                List<Integer> more = new ArrayList<>(begun);
                more.add(bar);
                rowsOf(more, rows);
            }
        }
    }

    int tell(int bar, int lost) {
        if (bar < 0 || bar >= bars()) return UNKNOWN;
        if (lost < 0 || lost > 4) return OUTSIDE;
        if (now.told.size() == 6) return FULL;
        now.told.add(new int[] {bar, lost});
        return now.told.size();
    }

    int forget() {
        int had = now.told.size();
        now.told = new ArrayList<>();
        return had;
    }

    private int[] lostIf(int player, int tired) {
        List<Musician> all = now.copy().players;
        all.get(player).tired = tired;
        return lostEach(all);
    }

    int guess(int player) {
        if (unknown(player)) return UNKNOWN;
        int bits = 0;
        for (int tired = 0; tired <= 9; tired++) {
            int[] lost = lostIf(player, tired);
            boolean so = true;
            for (int[] t : now.told) {
                so &= lost[t[0]] == t[1];
            }
            bits += so ? 1 << tired : 0;
        }
        return bits;
    }

    int listen(int player) {
        if (unknown(player)) return UNKNOWN;
        int bits = guess(player);
        if (bits == 0) return NONE;
        int best = NONE;
        int bestWorst = 99;
        for (int bar = 0; bar < bars(); bar++) {
            int worst = 0;
            for (int answer = 0; answer <= 4; answer++) {
                int left = 0;
                for (int tired = 0; tired <= 9; tired++) {
                    if ((bits & 1 << tired) != 0 && lostIf(player, tired)[bar] == answer) left++;
                }
                worst = Math.max(worst, left);
            }
            if (worst < bestWorst) {
                bestWorst = worst;
                best = bar;
            }
        }
        return best;
    }

    int draughts(int times, int seed, int what) {
        if (times < 1 || times > 30 || seed < 0 || what < 0 || what > 2) return OUTSIDE;
        if (now.players.isEmpty()) return STATE;
        long s = seed;
        int lost = 0;
        int cups = 0;
        for (int time = 0; time < times; time++) {
            List<Musician> all = now.copy().players;
            for (int bar = 0; bar < bars(); bar++) {
                s = (1103515245L * s + 12345L) % 2147483648L;
                int whom = (int) (s / 65536 % all.size());
                s = (1103515245L * s + 12345L) % 2147483648L;
                if (s / 65536 % 6 == 0) {
                    drink(all.get(whom));
                    cups++;
                }
                lost += playBar(all, bar);
            }
        }
        return what == 0 ? lost : what == 1 ? cups : (int) s;
    }

    int image() {
        if (piece.isEmpty()) return STATE;
        image = now.copy();
        return now.at;
    }

    int restore() {
        if (image == null) return STATE;
        now = image.copy();
        return now.at;
    }

    int count(int what) {
        int awake = 0;
        int heard = 0;
        int cups = 0;
        for (int i = 0; i < now.players.size(); i++) {
            awake += awake(now.players, i) ? 1 : 0;
            heard += heard(now.players, i) ? 1 : 0;
            cups += now.players.get(i).cups;
        }
        int[] all = {bars(), limit(), now.players.size(), awake, heard, now.at, now.lost, cups,
            now.told.size(), page.length(), pieces, cupsDone, ordersDone};
        return what < 0 || what > 12 ? OUTSIDE : all[what];
    }

    long digest() {
        List<Integer> row = new ArrayList<>();
        for (int bar = 0; bar < bars(); bar++) {
            for (int what = 0; what < 4; what++) row.add(bar(bar, what));
        }
        for (int i = 0; i < now.players.size(); i++) {
            for (int what = 0; what < 7; what++) row.add(about(i, what));
            row.add(guess(i));
            row.add(listen(i));
        }
        if (!piece.isEmpty()) {
            row.add(hearing(0));
            row.add(hearing(1));
        }
        for (int i = 0; i < page.length(); i++) row.add((int) page.charAt(i));
        for (int what = 0; what < 13; what++) row.add(count(what));
        long h = 859;
        for (int number : row) h = h * 31 + number;
        return h;
    }
}
