import java.util.ArrayList;
import java.util.Arrays;
import java.util.HashMap;
import java.util.HashSet;
import java.util.List;
import java.util.Map;
import java.util.Set;
import java.util.function.BiPredicate;
import java.util.regex.Matcher;
import java.util.regex.Pattern;

/** The document told a second time, as plainly as can be and slowly: every CAST is listed. */
final class Model {
    static final int THROWS = Integer.MIN_VALUE;
    private static final Set<String> RESERVED = new HashSet<>(Arrays.asList(("part fact clears man act scene shows needs"
            + " likes never foes rest as whisper curtain best or and not plays rested knows sure skill times claps number")
            .split(" ")));

    static final class Fault extends RuntimeException {
        private static final long serialVersionUID = 1;
        final int kind;
        final int place;

        Fault(int kind, int place) {
            this.kind = kind;
            this.place = place;
        }
    }

    static final class Token {
        final String text;
        final int place;

        Token(String text, int place) {
            this.text = text;
            this.place = place;
        }

        boolean isWord() {
            return text.matches("[a-z]{1,7}");
        }

        boolean isName() {
            return isWord() && !RESERVED.contains(text);
        }

        boolean isNumber() {
            return text.matches("[0-9]{1,2}");
        }
    }

    static final class Text {
        final List<Token> tokens = new ArrayList<>();
        int at = 0;

        Text(String text, int most) {
            Matcher matcher = Pattern.compile("[a-z0-9]+|[^ \n]", Pattern.DOTALL).matcher(text);
            while (matcher.find()) {
                if (matcher.start() < most) {
                    tokens.add(new Token(matcher.group(), matcher.start()));
                }
            }
            tokens.add(new Token(text.length() > most ? "?" : "", Math.min(most, text.length())));
        }

        Token peek() {
            return tokens.get(at);
        }

        boolean is(String text) {
            return peek().text.equals(text);
        }

        Token next() {
            return tokens.get(at++);
        }

        void sign(String text) {
            if (!is(text)) {
                throw new Fault(1, peek().place);
            }
            at++;
        }

        int number(int low, int high) {
            Token token = next();
            if (!token.isNumber()) {
                throw new Fault(1, token.place);
            }
            int n = Integer.parseInt(token.text);
            if (n < low || n > high) {
                throw new Fault(2, token.place);
            }
            return n;
        }

        int name(List<String> of) {
            Token token = next();
            if (!token.isName()) {
                throw new Fault(1, token.place);
            }
            if (!of.contains(token.text)) {
                throw new Fault(3, token.place);
            }
            return of.indexOf(token.text);
        }
    }

    static final class Play {
        final List<String> parts = new ArrayList<>();
        final List<String> facts = new ArrayList<>();
        final List<String> men = new ArrayList<>();
        final Map<String, Integer> numbers = new HashMap<>();
        final Set<String> pairs = new HashSet<>();
        final List<List<Integer>> acts = new ArrayList<>();
        final List<List<Integer>> sceneParts = new ArrayList<>();
        final List<List<Integer>> sceneFacts = new ArrayList<>();
        boolean rest = false;
        int lines = 0;

        boolean told(String pair) {
            return pairs.contains(pair);
        }

        int number(String key) {
            return numbers.getOrDefault(key, 0);
        }

        List<Integer> partsOf(int a) {
            List<Integer> found = new ArrayList<>();
            for (int p = 0; p < parts.size(); p++) {
                for (int s : acts.get(a)) {
                    if (sceneParts.get(s).contains(p) && !found.contains(p)) {
                        found.add(p);
                    }
                }
            }
            return found;
        }

        Set<Integer> factsOf(int a) {
            Set<Integer> found = new HashSet<>();
            for (int s : acts.get(a)) {
                found.addAll(sceneFacts.get(s));
            }
            return found;
        }

        boolean meet(int a, int p, int q) {
            for (int s : acts.get(a)) {
                if (sceneParts.get(s).contains(p) && sceneParts.get(s).contains(q)) {
                    return true;
                }
            }
            return false;
        }
    }

    static final class Evening {
        int next = 0;
        int joy = 0;
        int loss = 0;
        int whispers = 0;
        int money = 0;
        final Map<Integer, Integer> cast = new HashMap<>();
        final Map<Integer, Integer> last = new HashMap<>();
        final Set<Integer> ahead = new HashSet<>();
        final Set<Integer> ill = new HashSet<>();
        final Set<String> knows = new HashSet<>();
        final int[] times = new int[8];
        final int[] claps = new int[8];

        Evening copy() {
            Evening other = new Evening();
            other.next = next;
            other.joy = joy;
            other.loss = loss;
            other.whispers = whispers;
            other.money = money;
            other.cast.putAll(cast);
            other.last.putAll(last);
            other.ahead.addAll(ahead);
            other.ill.addAll(ill);
            other.knows.addAll(knows);
            System.arraycopy(times, 0, other.times, 0, 8);
            System.arraycopy(claps, 0, other.claps, 0, 8);
            return other;
        }
    }

    Play play = new Play();
    Evening evening = new Evening();
    String sentence = null;
    int fault = 0;
    private final List<Evening> past = new ArrayList<>();
    private Map<Integer, Integer> bestCast = new HashMap<>();
    private int[] bookAnswers = null;
    private int[] priceOf = null;
    private int[] wish = null;
    private final Object[][] images = new Object[2][];

    // ---- texts

    int play(String text) {
        try {
            play = readPlay(new Text(text, 900));
        } catch (Fault found) {
            fault = found.kind;
            return -1 - found.place;
        }
        fault = 0;
        evening = new Evening();
        sentence = null;
        past.clear();
        return play.lines;
    }

    private static Play readPlay(Text text) {
        Play play = new Play();
        while (!text.is("")) {
            Token first = text.next();
            boolean ok = first.isWord() && RESERVED.contains(first.text);
            if (!ok || !readLine(play, text, first)) {
                throw new Fault(1, first.place);
            }
            text.sign(";");
            play.lines++;
        }
        return play;
    }

    private static boolean readLine(Play play, Text text, Token first) {
        switch (first.text) {
            case "part":
                newName(play, play.parts, 6, text, first);
                play.numbers.put("part" + (play.parts.size() - 1), text.number(0, 9));
                return true;
            case "fact":
                newName(play, play.facts, 6, text, first);
                return true;
            case "man":
                newName(play, play.men, 8, text, first);
                play.numbers.put("skill" + (play.men.size() - 1), text.number(0, 9));
                play.numbers.put("seat" + (play.men.size() - 1), text.number(1, 9));
                return true;
            case "clears":
                pair(play, "clears", play.facts, play.parts, text);
                return true;
            case "needs":
                pair(play, "needs", play.parts, play.facts, text);
                return true;
            case "never":
                pair(play, "never", play.men, play.parts, text);
                return true;
            case "likes":
                String key = pair(play, "likes", play.men, play.parts, text);
                play.numbers.put(key, text.number(1, 9));
                return true;
            case "foes":
                String[] two = pair(play, "foes", play.men, play.men, text).split(" ");
                play.pairs.add("foes " + two[2] + " " + two[1]);
                return true;
            case "act":
                limit(play.acts.size(), 6, first);
                play.acts.add(new ArrayList<>());
                return true;
            case "scene":
                return readScene(play, text, first);
            case "shows":
                return readShows(play, text);
            case "rest":
                if (play.rest) {
                    throw new Fault(3, first.place);
                }
                play.rest = true;
                return true;
            default:
                return false;
        }
    }

    private static void limit(int n, int most, Token first) {
        if (n >= most) {
            throw new Fault(4, first.place);
        }
    }

    private static void newName(Play play, List<String> into, int most, Text text, Token first) {
        limit(into.size(), most, first);
        Token token = text.next();
        if (!token.isName()) {
            throw new Fault(1, token.place);
        }
        if (play.parts.contains(token.text) || play.facts.contains(token.text) || play.men.contains(token.text)) {
            throw new Fault(3, token.place);
        }
        into.add(token.text);
    }

    private static String pair(Play play, String word, List<String> a, List<String> b, Text text) {
        int i = text.name(a);
        int place = text.peek().place;
        int k = text.name(b);
        String key = word + " " + i + " " + k;
        if (word.equals("foes") && i == k || !play.pairs.add(key)) {
            throw new Fault(3, place);
        }
        return key;
    }

    private static boolean readScene(Play play, Text text, Token first) {
        if (play.acts.isEmpty()) {
            return false;
        }
        limit(play.sceneParts.size(), 12, first);
        List<Integer> parts = new ArrayList<>();
        do {
            int place = text.peek().place;
            int p = text.name(play.parts);
            if (parts.contains(p)) {
                throw new Fault(3, place);
            }
            parts.add(p);
        } while (!text.is(";"));
        play.acts.get(play.acts.size() - 1).add(play.sceneParts.size());
        play.sceneParts.add(parts);
        play.sceneFacts.add(new ArrayList<>());
        return true;
    }

    private static boolean readShows(Play play, Text text) {
        if (play.acts.isEmpty() || play.acts.get(play.acts.size() - 1).isEmpty()) {
            return false;
        }
        List<Integer> facts = play.sceneFacts.get(play.sceneFacts.size() - 1);
        int place = text.peek().place;
        int f = text.name(play.facts);
        if (facts.contains(f)) {
            throw new Fault(3, place);
        }
        facts.add(f);
        return true;
    }

    // ---- the EVENING

    private boolean noMan(int m) {
        return m < 0 || m >= play.men.size();
    }

    private boolean noPart(int p) {
        return p < 0 || p >= play.parts.size();
    }

    private boolean over(Evening e) {
        return e.next >= play.acts.size();
    }

    private int skill(int m) {
        return play.number("skill" + m);
    }

    private int liking(int m, int p) {
        return play.number("likes " + m + " " + p);
    }

    private boolean knows(Evening e, int m, int f) {
        return e.knows.contains(m + " " + f);
    }

    private int missing(Evening e, int m, int p) {
        int n = 0;
        for (int f = 0; f < play.facts.size(); f++) {
            if (play.told("needs " + p + " " + f) && !knows(e, m, f)) {
                n++;
            }
        }
        return n;
    }

    private boolean holds(Evening e, int reason, int m, int p) {
        switch (reason) {
            case 1:
                return over(e);
            case 2:
                return !play.partsOf(e.next).contains(p);
            case 3:
                return play.told("never " + m + " " + p);
            case 4:
                return skill(m) < play.number("part" + p);
            case 5:
                return play.rest && e.ahead.contains(m);
            case 6:
                return missing(e, m, p) > 0;
            case 7:
                return e.cast.containsValue(m);
            case 8:
                return e.cast.containsKey(p);
            case 9:
                for (int q : e.cast.keySet()) {
                    if (play.told("foes " + m + " " + e.cast.get(q)) && play.meet(e.next, p, q)) {
                        return true;
                    }
                }
                return false;
            default:
                return e.ill.contains(m);
        }
    }

    private int why(Evening e, int m, int p) {
        for (int reason = 1; reason <= 10; reason++) {
            if (holds(e, reason, m, p)) {
                return reason;
            }
        }
        return 0;
    }

    int why(int m, int p) {
        return noMan(m) || noPart(p) ? -1 : why(evening, m, p);
    }

    private void keep() {
        past.add(evening.copy());
        if (past.size() > 8) {
            past.remove(0);
        }
    }

    int cast(int m, int p) {
        int reason = why(m, p);
        if (reason == 0) {
            keep();
            evening.cast.put(p, m);
        }
        return reason;
    }

    int drop(int p) {
        if (!evening.cast.containsKey(p)) {
            return -1;
        }
        keep();
        return evening.cast.remove(p);
    }

    private boolean canEnd(Evening e) {
        return !over(e) && e.cast.keySet().containsAll(play.partsOf(e.next));
    }

    private void endAct(Evening e) {
        Set<Integer> on = new HashSet<>(e.cast.values());
        for (int p : e.cast.keySet()) {
            int m = e.cast.get(p);
            e.joy += liking(m, p);
            if (e.last.containsKey(p) && e.last.get(p) != m) {
                e.loss += Math.abs(skill(e.last.get(p)) - skill(m));
            }
            e.times[m]++;
            for (int s : play.acts.get(e.next)) {
                if (play.sceneParts.get(s).contains(p)) {
                    learn(e, m, play.sceneFacts.get(s));
                }
            }
        }
        for (int m = 0; m < play.men.size(); m++) {
            if (on.contains(m)) {
                continue;
            }
            e.money += play.number("seat" + m);
            learn(e, m, play.factsOf(e.next));
            for (int like = 9; like > 0; like--) {
                int p = firstLiked(e, m, like);
                if (p >= 0) {
                    e.claps[e.cast.get(p)]++;
                    break;
                }
            }
        }
        e.last.putAll(e.cast);
        e.ahead.clear();
        e.ahead.addAll(on);
        e.cast.clear();
        e.ill.clear();
        e.next++;
    }

    private int firstLiked(Evening e, int m, int like) {
        for (int p = 0; p < play.parts.size(); p++) {
            if (e.cast.containsKey(p) && liking(m, p) == like) {
                return p;
            }
        }
        return -1;
    }

    private static void learn(Evening e, int m, Iterable<Integer> facts) {
        for (int f : facts) {
            e.knows.add(m + " " + f);
        }
    }

    int curtain() {
        if (!canEnd(evening)) {
            return -1;
        }
        keep();
        endAct(evening);
        return evening.next;
    }

    private boolean tell(Evening e, int m, int f) {
        if (over(e) || knows(e, m, f)) {
            return false;
        }
        e.knows.add(m + " " + f);
        e.whispers++;
        return true;
    }

    boolean whisper(int m, int f) {
        if (noMan(m) || f < 0 || f >= play.facts.size()) {
            return false;
        }
        Evening then = evening.copy();
        if (!tell(then, m, f)) {
            return false;
        }
        keep();
        evening = then;
        return true;
    }

    int undo() {
        if (past.isEmpty()) {
            return -1;
        }
        evening = past.remove(past.size() - 1);
        return past.size();
    }

    // ---- what is told of it

    private static int bits(Iterable<Integer> numbers) {
        int bits = 0;
        for (int k : numbers) {
            bits |= 1 << k;
        }
        return bits;
    }

    int part(int p, int what) {
        if (noPart(p)) {
            return -1;
        }
        Set<Integer> found = new HashSet<>();
        switch (what) {
            case 0:
                return play.number("part" + p);
            case 1:
                for (int f = 0; f < play.facts.size(); f++) {
                    if (play.told("needs " + p + " " + f)) {
                        found.add(f);
                    }
                }
                return bits(found);
            case 2:
                return evening.cast.getOrDefault(p, -1);
            case 3:
                return evening.last.getOrDefault(p, -1);
            case 4:
                for (int a = 0; a < play.acts.size(); a++) {
                    if (play.partsOf(a).contains(p)) {
                        found.add(a);
                    }
                }
                return bits(found);
            default:
                return -1;
        }
    }

    int man(int m, int what) {
        if (noMan(m)) {
            return THROWS;
        }
        switch (what) {
            case 0:
                return skill(m);
            case 1:
                return play.number("seat" + m);
            case 2:
                for (int p : evening.cast.keySet()) {
                    if (evening.cast.get(p) == m) {
                        return p;
                    }
                }
                return -1;
            case 3:
                Set<Integer> known = new HashSet<>();
                for (int f = 0; f < play.facts.size(); f++) {
                    if (knows(evening, m, f)) {
                        known.add(f);
                    }
                }
                return bits(known);
            case 4:
                return evening.times[m];
            case 5:
                return evening.claps[m];
            case 6:
                return evening.ahead.contains(m) ? 1 : 0;
            case 7:
                return evening.ill.contains(m) ? 1 : 0;
            default:
                return THROWS;
        }
    }

    int act(int a, int what) {
        if (a < 0 || a >= play.acts.size()) {
            return -1;
        }
        return what == 0 ? play.acts.get(a).size() : what == 1 ? bits(play.partsOf(a))
                : what == 2 ? bits(play.factsOf(a)) : -1;
    }

    int scene(int s, int what) {
        if (s < 0 || s >= play.sceneParts.size()) {
            return -1;
        }
        int act = 0;
        while (!play.acts.get(act).contains(s)) {
            act++;
        }
        return what == 0 ? act : what == 1 ? bits(play.sceneParts.get(s)) : what == 2 ? bits(play.sceneFacts.get(s)) : -1;
    }

    int now(int what) {
        switch (what) {
            case 0:
                return evening.next;
            case 1:
                return evening.joy;
            case 2:
                return evening.loss;
            case 3:
                return bits(evening.cast.values());
            case 4:
                return evening.whispers;
            case 5:
                return evening.money;
            case 6:
                return Arrays.stream(evening.claps).sum();
            default:
                return -1;
        }
    }

    int count(int what) {
        int[] all = {play.parts.size(), play.facts.size(), play.men.size(), play.acts.size(), play.sceneParts.size(),
            play.rest ? 1 : 0};
        return what >= 0 && what < all.length ? all[what] : -1;
    }

    int favourite(int what) {
        int first = -1;
        for (int m = 0; m < play.men.size() && what >= 0 && what < 3; m++) {
            int[] of = what == 0 ? evening.claps : evening.times;
            if (first < 0 || (what == 2 ? of[m] < of[first] : of[m] > of[first])) {
                first = m;
            }
        }
        return first;
    }

    // ---- CASTS

    /** All CASTS in their order; each MAN is tried behind those ahead of him. */
    private List<Map<Integer, Integer>> list(Evening e, boolean whispering) {
        List<Map<Integer, Integer>> all = new ArrayList<>();
        if (!over(e)) {
            Evening empty = e.copy();
            empty.cast.clear();
            extend(empty, play.partsOf(e.next), 0, whispering, all);
        }
        return all;
    }

    private void extend(Evening e, List<Integer> parts, int k, boolean whispering, List<Map<Integer, Integer>> all) {
        if (k == parts.size()) {
            all.add(new HashMap<>(e.cast));
            return;
        }
        for (int m = 0; m < play.men.size(); m++) {
            boolean fits = true;
            for (int reason = 1; reason <= 10; reason++) {
                fits &= reason == 6 && whispering || !holds(e, reason, m, parts.get(k));
            }
            if (fits) {
                e.cast.put(parts.get(k), m);
                extend(e, parts, k + 1, whispering, all);
                e.cast.remove(parts.get(k));
            }
        }
    }

    private int joyOf(Map<Integer, Integer> cast) {
        int sum = 0;
        for (int p : cast.keySet()) {
            sum += liking(cast.get(p), p);
        }
        return sum;
    }

    private Map<Integer, Integer> bestOf(Evening e) {
        Map<Integer, Integer> found = null;
        for (Map<Integer, Integer> cast : list(e, false)) {
            if (found == null || joyOf(cast) > joyOf(found)) {
                found = cast;
            }
        }
        return found;
    }

    int best() {
        Map<Integer, Integer> found = bestOf(evening);
        if (found == null) {
            return -1;
        }
        bestCast = found;
        return joyOf(found);
    }

    int bestAs(int p) {
        return noPart(p) ? -1 : bestCast.getOrDefault(p, -1);
    }

    int casts() {
        return list(evening, false).size();
    }

    int someCast(int k) {
        List<Map<Integer, Integer>> all = list(evening, false);
        return all.isEmpty() ? 0 : bits(all.get(k % all.size()).values());
    }

    int bowed(int men) {
        if (men < 0 || men >= 1 << play.men.size()) {
            return -1;
        }
        int n = 0;
        for (Map<Integer, Integer> cast : list(evening, false)) {
            if (bits(cast.values()) == men) {
                n++;
            }
        }
        return n;
    }

    int surely() {
        int men = -1;
        for (Map<Integer, Integer> cast : list(evening, false)) {
            men &= bits(cast.values());
        }
        return men;
    }

    private boolean fits(int m, int p) {
        Evening alone = evening.copy();
        alone.cast.clear();
        return why(alone, m, p) == 0;
    }

    private boolean fill(List<Integer> parts, int k, Set<Integer> used) {
        if (k == parts.size()) {
            return true;
        }
        for (int m = 0; m < play.men.size(); m++) {
            if (fits(m, parts.get(k)) && used.add(m)) {
                boolean filled = fill(parts, k + 1, used);
                used.remove(m);
                if (filled) {
                    return true;
                }
            }
        }
        return false;
    }

    int lacks() {
        if (over(evening)) {
            return 0;
        }
        int all = bits(play.partsOf(evening.next));
        for (int size = 1; size <= 6; size++) {
            for (int set = 1; set < 64; set++) {
                if ((set & ~all) == 0 && Integer.bitCount(set) == size) {
                    List<Integer> parts = new ArrayList<>();
                    for (int p = 0; p < 6; p++) {
                        if ((set >> p & 1) != 0) {
                            parts.add(p);
                        }
                    }
                    if (!fill(parts, 0, new HashSet<>())) {
                        return set;
                    }
                }
            }
        }
        return 0;
    }

    int least() {
        int least = Integer.MAX_VALUE;
        for (Map<Integer, Integer> cast : list(evening, false)) {
            Evening then = evening.copy();
            then.cast.clear();
            then.cast.putAll(cast);
            endAct(then);
            least = Math.min(least, then.loss - evening.loss);
        }
        return least == Integer.MAX_VALUE ? -1 : least;
    }

    int whispers() {
        int least = Integer.MAX_VALUE;
        for (Map<Integer, Integer> cast : list(evening, true)) {
            int n = 0;
            for (int p : cast.keySet()) {
                n += missing(evening, cast.get(p), p);
            }
            least = Math.min(least, n);
        }
        return least == Integer.MAX_VALUE ? -1 : least;
    }

    // ---- suspicion

    private int suspects(Evening e, int m) {
        Set<Integer> found = new HashSet<>();
        for (int p = 0; p < play.parts.size(); p++) {
            boolean cleared = false;
            for (int f = 0; f < play.facts.size(); f++) {
                cleared |= knows(e, m, f) && play.told("clears " + f + " " + p);
            }
            if (!cleared) {
                found.add(p);
            }
        }
        return bits(found);
    }

    private boolean isSure(Evening e, int m) {
        return Integer.bitCount(suspects(e, m)) == 1;
    }

    int suspects(int m) {
        return noMan(m) ? -1 : suspects(evening, m);
    }

    int sure() {
        Set<Integer> found = new HashSet<>();
        for (int m = 0; m < play.men.size(); m++) {
            if (isSure(evening, m)) {
                found.add(m);
            }
        }
        return bits(found);
    }

    int tells(int m) {
        if (noMan(m)) {
            return -1;
        }
        if (isSure(evening, m)) {
            return -2;
        }
        Evening then = evening.copy();
        for (int a = evening.next; a < play.acts.size(); a++) {
            learn(then, m, play.factsOf(a));
            if (isSure(then, m)) {
                return a;
            }
        }
        return -1;
    }

    // ---- PRICES

    int prices() {
        if (over(evening)) {
            return -1;
        }
        priceOf = new int[6];
        for (int round = 1; round <= 99; round++) {
            wish = new int[8];
            int[] wishes = new int[6];
            for (int m = 0; m < 8; m++) {
                wish[m] = m < play.men.size() ? wishOf(m) : -1;
                if (wish[m] >= 0) {
                    wishes[wish[m]]++;
                }
            }
            boolean rest = true;
            for (int p = 0; p < 6; p++) {
                if (wishes[p] > 1) {
                    priceOf[p]++;
                    rest = false;
                }
            }
            if (rest) {
                return round;
            }
        }
        return 99;
    }

    private int wishOf(int m) {
        int found = -1;
        for (int p : play.partsOf(evening.next)) {
            int gain = liking(m, p) - priceOf[p];
            if (fits(m, p) && gain >= 0 && (found < 0 || gain > liking(m, found) - priceOf[found])) {
                found = p;
            }
        }
        return found;
    }

    int price(int p) {
        return noPart(p) || priceOf == null ? -1 : priceOf[p];
    }

    int wants(int m) {
        return noMan(m) || wish == null ? -1 : wish[m];
    }

    // ---- from now on

    private boolean playBest(Evening e) {
        Map<Integer, Integer> found = bestOf(e);
        e.cast.clear();
        if (found == null) {
            return false;
        }
        e.cast.putAll(found);
        endAct(e);
        return true;
    }

    private Evening onByBest() {
        Evening then = evening.copy();
        boolean on = true;
        while (on) {
            on = playBest(then);
        }
        return then;
    }

    int goesOn() {
        return onByBest().next - evening.next;
    }

    int joy() {
        return onByBest().joy - evening.joy;
    }

    private void draw(Evening e, int seed) {
        int x = seed;
        boolean on = true;
        while (on && !over(e)) {
            for (int m = 0; m < play.men.size(); m++) {
                x = x * 1103515245 + 12345;
                if ((x >>> 8) % 6 == 0) {
                    e.ill.add(m);
                }
            }
            on = playBest(e);
        }
    }

    int drawn(int seed) {
        if (play.men.isEmpty() || over(evening)) {
            return -1;
        }
        keep();
        int from = evening.next;
        draw(evening, seed);
        return evening.next - from;
    }

    int odds(int n, int seed) {
        if (n < 1 || n > 40 || play.men.isEmpty() || over(evening)) {
            return -1;
        }
        int whole = 0;
        for (int k = 0; k < n; k++) {
            Evening then = evening.copy();
            draw(then, seed + k);
            if (over(then)) {
                whole++;
            }
        }
        return whole;
    }

    // ---- a BOOK

    int book(String told, int lives) {
        List<int[]> lines;
        try {
            lines = readBook(new Text(told, 400));
        } catch (Fault found) {
            fault = found.kind;
            return -2 - found.place;
        }
        fault = 0;
        Evening then = evening.copy();
        int why = 0;
        int right = 0;
        for (int[] line : lines) {
            why = wrong(then, line);
            if (why != 0) {
                break;
            }
            right++;
        }
        bookAnswers = new int[] {why, right, then.next, then.joy - evening.joy};
        if (lives == 1) {
            keep();
            evening = then;
        }
        return why == 0 ? -1 : right;
    }

    private List<int[]> readBook(Text text) {
        List<int[]> lines = new ArrayList<>();
        while (!text.is("")) {
            Token first = text.peek();
            boolean named = first.isName();
            if (!named && !text.is("whisper") && !text.is("curtain") && !text.is("best")) {
                throw new Fault(1, first.place);
            }
            int m = named ? text.name(play.men) : -1;
            if (lines.size() == 40) {
                throw new Fault(4, first.place);
            }
            if (named) {
                text.sign("as");
                lines.add(new int[] {0, m, text.name(play.parts)});
            } else if (text.next().text.equals("whisper")) {
                lines.add(new int[] {1, text.name(play.men), text.name(play.facts)});
            } else {
                lines.add(new int[] {first.text.equals("curtain") ? 2 : 3});
            }
            text.sign(";");
        }
        return lines;
    }

    private int wrong(Evening e, int[] line) {
        switch (line[0]) {
            case 0:
                int reason = why(e, line[1], line[2]);
                if (reason == 0) {
                    e.cast.put(line[2], line[1]);
                }
                return reason;
            case 1:
                return tell(e, line[1], line[2]) ? 0 : 12;
            case 2:
                if (!canEnd(e)) {
                    return 11;
                }
                endAct(e);
                return 0;
            default:
                Map<Integer, Integer> found = bestOf(e);
                if (found == null) {
                    return 13;
                }
                e.cast.clear();
                e.cast.putAll(found);
                return 0;
        }
    }

    int booked(int what) {
        return bookAnswers == null || what < 0 || what > 3 ? -1 : bookAnswers[what];
    }

    // ---- a SENTENCE: read anew for each MAN

    private int ones;

    int sentence(String told) {
        try {
            readSentence(told, (word, rest) -> true);
        } catch (Fault found) {
            fault = found.kind;
            return -1 - found.place;
        }
        fault = 0;
        sentence = told;
        return ones;
    }

    private boolean readSentence(String told, BiPredicate<String, int[]> holds) {
        Text text = new Text(told, 200);
        ones = 0;
        boolean answer = cond(text, 0, holds);
        if (!text.is("")) {
            throw new Fault(1, text.peek().place);
        }
        return answer;
    }

    private boolean cond(Text text, int within, BiPredicate<String, int[]> holds) {
        boolean any = all(text, within, holds);
        while (text.is("or")) {
            text.next();
            any |= all(text, within, holds);
        }
        return any;
    }

    private boolean all(Text text, int within, BiPredicate<String, int[]> holds) {
        boolean every = one(text, within + 1, holds);
        while (text.is("and")) {
            text.next();
            every &= one(text, within + 1, holds);
        }
        return every;
    }

    private boolean one(Text text, int within, BiPredicate<String, int[]> holds) {
        Token first = text.peek();
        if (!first.text.matches("not|\\(|plays|rested|knows|sure|skill|times|claps|number")) {
            throw new Fault(1, first.place);
        }
        if (++ones > 20 || within > 8) {
            throw new Fault(4, first.place);
        }
        text.next();
        switch (first.text) {
            case "not":
                return !one(text, within + 1, holds);
            case "(":
                boolean inner = cond(text, within, holds);
                text.sign(")");
                return inner;
            case "plays":
            case "rested":
            case "sure":
                return holds.test(first.text, new int[0]);
            case "knows":
                return holds.test(first.text, new int[] {text.name(play.facts)});
            default:
                Token sign = text.next();
                if (!sign.text.matches("[<=>]")) {
                    throw new Fault(1, sign.place);
                }
                return holds.test(first.text, new int[] {sign.text.charAt(0), text.number(0, 99)});
        }
    }

    private boolean saidOf(int m, String word, int[] rest) {
        switch (word) {
            case "plays":
                return evening.cast.containsValue(m);
            case "rested":
                return !evening.ahead.contains(m);
            case "sure":
                return isSure(evening, m);
            case "knows":
                return knows(evening, m, rest[0]);
            default:
                int n = word.equals("skill") ? skill(m) : word.equals("times") ? evening.times[m]
                        : word.equals("claps") ? evening.claps[m] : m;
                return rest[0] == '<' ? n < rest[1] : rest[0] == '=' ? n == rest[1] : n > rest[1];
        }
    }

    int said(int k) {
        if (sentence == null) {
            return -1;
        }
        List<Integer> found = new ArrayList<>();
        for (int m = 0; m < play.men.size(); m++) {
            int man = m;
            if (readSentence(sentence, (word, rest) -> saidOf(man, word, rest))) {
                found.add(m);
            }
        }
        return k == -1 ? found.size() : k >= 0 && k < found.size() ? found.get(k) : -1;
    }

    // ---- images

    boolean image(int k) {
        if (k != 0 && k != 1) {
            return false;
        }
        images[k] = new Object[] {play, evening.copy(), sentence};
        return true;
    }

    boolean restore(int k) {
        if (k != 0 && k != 1 || images[k] == null) {
            return false;
        }
        play = (Play) images[k][0];
        evening = ((Evening) images[k][1]).copy();
        sentence = (String) images[k][2];
        past.clear();
        return true;
    }
}
