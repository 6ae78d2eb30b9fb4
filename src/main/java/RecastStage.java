import java.util.Arrays;
import java.util.NoSuchElementException;

public final class RecastStage {
    public static final int NONE = -1;

    private static final int MOST_PARTS = 6;
    private static final int MOST_FACTS = 6;
    private static final int MOST_MEN = 8;
    private static final int MOST_ACTS = 6;
    private static final int MOST_SCENES = 12;
    private static final int MOST_TAPE = 940;
    private static final int MOST_PLAY = 900;
    private static final int MOST_BOOK = 400;
    private static final int MOST_SENTENCE = 200;
    private static final int MOST_LINES = 40;
    private static final int MOST_ONES = 20;
    private static final int MOST_WITHIN = 8;
    private static final int MOST_UNDONE = 8;
    private static final int MOST_ROUNDS = 99;
    private static final int MOST_SEEDS = 40;
    private static final int IMAGES = 2;
    private static final int OTHER_LIVES = -1000;

    // The kinds of FAULTS.
    private static final int CANT_COME = 1;
    private static final int WRONG_NUMBER = 2;
    private static final int WRONG_NAME = 3;
    private static final int TOO_MANY = 4;

    // Why a MAN can't be cast, and why a LINE of a BOOK is WRONG.
    private static final int ALL_OVER = 1;
    private static final int NOT_IN_ACT = 2;
    private static final int NEVER_PLAYS = 3;
    private static final int UNSKILLED = 4;
    private static final int MUST_REST = 5;
    private static final int UNKNOWING = 6;
    private static final int MAN_TAKEN = 7;
    private static final int PART_TAKEN = 8;
    private static final int FOE_NEAR = 9;
    private static final int IS_ILL = 10;
    private static final int NO_CURTAIN = 11;
    private static final int NO_WHISPER = 12;
    private static final int NO_BEST = 13;

    // The words that no NAME may be; a word's number is its place in this text.
    private static final String WORDS = "part fact clears man act scene shows needs likes never foes rest as whisper curtain best or and not plays rested knows sure skill times claps number";
    private static final int WORD_COUNT = 27;
    private static final int PART = 0;
    private static final int FACT = 1;
    private static final int CLEARS = 2;
    private static final int MAN = 3;
    private static final int ACT = 4;
    private static final int SCENE = 5;
    private static final int SHOWS = 6;
    private static final int NEEDS = 7;
    private static final int LIKES = 8;
    private static final int NEVER = 9;
    private static final int FOES = 10;
    private static final int REST = 11;
    private static final int AS = 12;
    private static final int WHISPER = 13;
    private static final int CURTAIN = 14;
    private static final int BEST = 15;
    private static final int OR = 16;
    private static final int AND = 17;
    private static final int NOT = 18;
    private static final int PLAYS = 19;
    private static final int RESTED = 20;
    private static final int KNOWS = 21;
    private static final int SURE = 22;
    private static final int SKILL = 23;
    private static final int TIMES = 24;
    private static final int CLAPS = 25;
    private static final int NUMBER = 26;

    private final Reader reader = new Reader();
    private final PlayReader playReader = new PlayReader();
    private final Play play = new Play();
    private final Evening evening = new Evening();
    private final Evening trial = new Evening();
    private final History history = new History();
    private final Sentence sentence = new Sentence();
    private final Sentence newSentence = new Sentence();
    private final Casting casting = new Casting();
    private final Market market = new Market();
    private final Book book = new Book();
    private final Image[] images = new Image[IMAGES];
    private final int[] bestMen = new int[MOST_PARTS];
    private int latestFault = 0;

    public RecastStage() {
        for (int k = 0; k < IMAGES; k++) {
            images[k] = new Image();
        }
        Arrays.fill(bestMen, NONE);
    }

    public int feed(int a, int b, int c, int d, int e) {
        if (!reader.tape.hasRoom(20)) {
            return NONE;
        }
        reader.tape.append(a);
        reader.tape.append(b);
        reader.tape.append(c);
        reader.tape.append(d);
        reader.tape.append(e);
        return reader.tape.length;
    }

    public boolean end(int n) {
        if (n < 0 || n > reader.tape.length) {
            return false;
        }
        reader.tape.length = n;
        return true;
    }

    public int play() {
        reader.open(MOST_PLAY);
        int lines = playReader.read(reader);
        reader.tape.length = 0;
        latestFault = reader.fault;
        if (reader.fault != 0) {
            return -1 - reader.faultPlace;
        }
        play.copyFrom(playReader.told);
        evening.begin();
        sentence.clear();
        history.forget();
        return lines;
    }

    public int fault() {
        return latestFault;
    }

    public int part(int p, int what) {
        if (!play.hasPart(p)) {
            return NONE;
        }
        switch (what) {
            case 0:
                return play.partSkill[p];
            case 1:
                return play.partNeeds[p];
            case 2:
                return evening.manAs[p];
            case 3:
                return evening.lastAs[p];
            case 4:
                return play.actsWith(p);
            default:
                return NONE;
        }
    }

    public int man(int m, int what) throws NoSuchElementException {
        if (!play.hasMan(m) || what < 0 || what > 7) {
            throw new NoSuchElementException();
        }
        switch (what) {
            case 0:
                return play.manSkill[m];
            case 1:
                return play.manSeat[m];
            case 2:
                return evening.partOf(m);
            case 3:
                return evening.known[m];
            case 4:
                return evening.times[m];
            case 5:
                return evening.clapsFor[m];
            case 6:
                return has(evening.ahead, m) ? 1 : 0;
            default:
                return has(evening.ill, m) ? 1 : 0;
        }
    }

    public int act(int a, int what) {
        if (a < 0 || a >= play.acts) {
            return NONE;
        }
        switch (what) {
            case 0:
                return play.scenesOf(a);
            case 1:
                return play.partsOf(a);
            case 2:
                return play.factsOf(a);
            default:
                return NONE;
        }
    }

    public int scene(int s, int what) {
        if (s < 0 || s >= play.scenes) {
            return NONE;
        }
        switch (what) {
            case 0:
                return play.sceneAct[s];
            case 1:
                return play.sceneParts[s];
            case 2:
                return play.sceneFacts[s];
            default:
                return NONE;
        }
    }

    public int now(int what) {
        switch (what) {
            case 0:
                return evening.next;
            case 1:
                return evening.joySoFar;
            case 2:
                return evening.lossSoFar;
            case 3:
                return evening.menOn();
            case 4:
                return evening.whispered;
            case 5:
                return evening.money;
            case 6:
                return evening.clapsSoFar;
            default:
                return NONE;
        }
    }

    public int why(int m, int p) {
        if (!play.hasMan(m) || !play.hasPart(p)) {
            return NONE;
        }
        return evening.whyNot(play, m, p);
    }

    public int cast(int m, int p) {
        if (!play.hasMan(m) || !play.hasPart(p)) {
            return NONE;
        }
        int reason = evening.whyNot(play, m, p);
        if (reason == 0) {
            history.keep(evening);
            evening.manAs[p] = m;
        }
        return reason;
    }

    public int drop(int p) {
        if (!play.hasPart(p) || evening.manAs[p] == NONE) {
            return NONE;
        }
        history.keep(evening);
        int m = evening.manAs[p];
        evening.manAs[p] = NONE;
        return m;
    }

    public int curtain() {
        if (!evening.canEndAct(play)) {
            return NONE;
        }
        history.keep(evening);
        evening.endAct(play);
        return evening.next;
    }

    public boolean whisper(int m, int f) {
        if (!play.hasMan(m) || !play.hasFact(f) || !evening.canTell(play, m, f)) {
            return false;
        }
        history.keep(evening);
        evening.tell(m, f);
        return true;
    }

    public int undo() {
        if (!history.takeBack(evening)) {
            return NONE;
        }
        return history.kept;
    }

    public int best() {
        if (!casting.findBest(play, evening)) {
            return NONE;
        }
        casting.castInto(bestMen);
        return casting.joyOfBest();
    }

    public int bestAs(int p) {
        return play.hasPart(p) ? bestMen[p] : NONE;
    }

    public int casts() {
        return casting.countBy(play, evening, play.allMen());
    }

    public int bowed(int men) {
        int all = play.allMen();
        if ((men & all) != men) {
            return NONE;
        }
        if (evening.isOver(play) || Integer.bitCount(men) != Integer.bitCount(play.partsOf(evening.next))) {
            return 0;
        }
        return casting.countBy(play, evening, men);
    }

    public int surely() {
        return casting.countBy(play, evening, play.allMen()) == 0 ? NONE : casting.always;
    }

    public int lacks() {
        return casting.shortSet(play, evening);
    }

    public int least() {
        return casting.leastLoss(play, evening);
    }

    public int whispers() {
        return casting.fewestWhispers(play, evening);
    }

    public int suspects(int m) {
        return play.hasMan(m) ? play.suspectsWith(evening.known[m]) : NONE;
    }

    public int sure() {
        return evening.sureMen(play);
    }

    public int tells(int m) {
        if (!play.hasMan(m)) {
            return NONE;
        }
        int known = evening.known[m];
        if (play.isSureWith(known)) {
            return -2;
        }
        for (int a = evening.next; a < play.acts; a++) {
            known |= play.factsOf(a);
            if (play.isSureWith(known)) {
                return a;
            }
        }
        return NONE;
    }

    public int prices() {
        return market.trade(play, evening, casting);
    }

    public int price(int p) {
        return market.told && play.hasPart(p) ? market.priceOf[p] : NONE;
    }

    public int wants(int m) {
        return market.told && play.hasMan(m) ? market.wantedBy[m] : NONE;
    }

    public int goesOn() {
        goOnByBest();
        return trial.next - evening.next;
    }

    public int joy() {
        goOnByBest();
        return trial.joySoFar - evening.joySoFar;
    }

    public int favourite(int what) {
        switch (what) {
            case 0:
                return firstWithMost(evening.clapsFor, 1);
            case 1:
                return firstWithMost(evening.times, 1);
            case 2:
                return firstWithMost(evening.times, -1);
            default:
                return NONE;
        }
    }

    public int drawn(int seed) {
        if (play.men == 0 || evening.isOver(play)) {
            return NONE;
        }
        history.keep(evening);
        int from = evening.next;
        playDrawn(evening, seed);
        return evening.next - from;
    }

    public int odds(int n, int seed) {
        if (n < 1 || n > MOST_SEEDS || play.men == 0 || evening.isOver(play)) {
            return NONE;
        }
        int whole = 0;
        for (int i = 0; i < n; i++) {
            trial.copyFrom(evening);
            playDrawn(trial, seed + i);
            if (trial.isOver(play)) {
                whole++;
            }
        }
        return whole;
    }

    public int book(int lives) {
        if (lives != 0 && lives != 1) {
            return OTHER_LIVES;
        }
        reader.open(MOST_BOOK);
        book.read(reader, play);
        reader.tape.length = 0;
        latestFault = reader.fault;
        if (reader.fault != 0) {
            return -2 - reader.faultPlace;
        }
        trial.copyFrom(evening);
        int wrong = book.judge(play, trial, casting);
        if (lives == 1) {
            history.keep(evening);
            evening.copyFrom(trial);
        }
        return wrong;
    }

    public int booked(int what) {
        if (!book.judged) {
            return NONE;
        }
        switch (what) {
            case 0:
                return book.reason;
            case 1:
                return book.rightLines;
            case 2:
                return book.nextThen;
            case 3:
                return book.joyInIt;
            default:
                return NONE;
        }
    }

    public int sentence() {
        reader.open(MOST_SENTENCE);
        newSentence.read(reader, play);
        reader.tape.length = 0;
        latestFault = reader.fault;
        if (reader.fault != 0) {
            return -1 - reader.faultPlace;
        }
        sentence.copyFrom(newSentence);
        return sentence.ones;
    }

    public int said(int k) {
        if (sentence.ones == 0) {
            return NONE;
        }
        int men = sentence.menOf(play, evening);
        if (k == NONE) {
            return Integer.bitCount(men);
        }
        int left = k;
        for (int m = 0; m < play.men; m++) {
            if (has(men, m)) {
                if (left == 0) {
                    return m;
                }
                left--;
            }
        }
        return NONE;
    }

    public boolean image(int k) {
        if (k < 0 || k >= IMAGES) {
            return false;
        }
        Image place = images[k];
        place.play.copyFrom(play);
        place.evening.copyFrom(evening);
        place.sentence.copyFrom(sentence);
        place.filled = true;
        return true;
    }

    public boolean restore(int k) {
        if (k < 0 || k >= IMAGES || !images[k].filled) {
            return false;
        }
        Image place = images[k];
        play.copyFrom(place.play);
        evening.copyFrom(place.evening);
        sentence.copyFrom(place.sentence);
        history.forget();
        return true;
    }

    public int count(int what) {
        switch (what) {
            case 0:
                return play.parts;
            case 1:
                return play.facts;
            case 2:
                return play.men;
            case 3:
                return play.acts;
            case 4:
                return play.scenes;
            case 5:
                return play.rest ? 1 : 0;
            case 6:
                return reader.tape.length;
            default:
                return NONE;
        }
    }

    private static boolean has(int bits, int k) {
        return (bits >> k & 1) != 0;
    }

    private int firstWithMost(int[] amounts, int factor) {
        int first = NONE;
        for (int m = 0; m < play.men; m++) {
            if (first == NONE || amounts[m] * factor > amounts[first] * factor) {
                first = m;
            }
        }
        return first;
    }

    private boolean playBest(Evening where) {
        if (!casting.findBest(play, where)) {
            return false;
        }
        casting.castInto(where.manAs);
        where.endAct(play);
        return true;
    }

    private void goOnByBest() {
        trial.copyFrom(evening);
        for (int a = 0; a < MOST_ACTS; a++) {
            if (!playBest(trial)) {
                return;
            }
        }
    }

    private void playDrawn(Evening where, int seed) {
        int x = seed;
        where.sendOff();
        for (int a = where.next; a < play.acts; a++) {
            for (int m = 0; m < play.men; m++) {
                x = x * 1103515245 + 12345;
                if ((x >>> 8) % 6 == 0) {
                    where.ill |= 1 << m;
                }
            }
            if (!playBest(where)) {
                return;
            }
        }
    }

    private static final class Tape {
        final byte[] bytes = new byte[MOST_TAPE];
        int length = 0;

        boolean hasRoom(int more) {
            return length + more <= bytes.length;
        }

        void append(int number) {
            if (!hasRoom(4)) {
                return;
            }
            bytes[length] = (byte) (number >> 24);
            bytes[length + 1] = (byte) (number >> 16);
            bytes[length + 2] = (byte) (number >> 8);
            bytes[length + 3] = (byte) number;
            length += 4;
        }

        int byteAt(int k) {
            return k >= 0 && k < bytes.length ? bytes[k] & 255 : 0;
        }
    }

    // Stands at one TOKEN of a text and keeps the first FAULT that it is told of.
    private static final class Reader {
        static final int AT_END = 0;
        static final int AT_WORD = 1;
        static final int AT_NUMBER = 2;
        static final int AT_SIGN = 3;
        static final int AT_NONSENSE = 4;

        private final long[] reserved;
        final Tape tape = new Tape();
        private int most = 0;
        private int behind = 0;
        int kind = AT_END;
        int place = 0;
        int value = 0;
        int word = NONE;
        long name = 0;
        int fault = 0;
        int faultPlace = 0;

        Reader() {
            reserved = namesOf(WORDS);
        }

        private static long[] namesOf(String text) {
            long[] names = new long[WORD_COUNT];
            int k = 0;
            for (int i = 0; i < text.length(); i++) {
                char c = text.charAt(i);
                if (c == ' ') {
                    k++;
                } else if (k < names.length) {
                    names[k] = withLetter(names[k], c);
                }
            }
            return names;
        }

        private static long withLetter(long name, int letter) {
            return name * 32 + (letter - 'a' + 1);
        }

        void open(int mostBytes) {
            most = mostBytes;
            behind = 0;
            fault = 0;
            faultPlace = 0;
            step();
        }

        void step() {
            while (behind < tape.length && isBlank(tape.byteAt(behind))) {
                behind++;
            }
            if (tape.length > most && behind >= most) {
                kind = AT_NONSENSE;
                place = most;
                return;
            }
            place = behind;
            if (behind >= tape.length) {
                kind = AT_END;
                return;
            }
            int c = tape.byteAt(behind);
            if (isLetter(c) || isDigit(c)) {
                readRun();
            } else {
                kind = isSign(c) ? AT_SIGN : AT_NONSENSE;
                value = c;
                behind++;
            }
        }

        private void readRun() {
            int letters = 0;
            int digits = 0;
            name = 0;
            value = 0;
            for (; behind < tape.length; behind++) {
                int c = tape.byteAt(behind);
                if (isLetter(c)) {
                    letters++;
                    name = withLetter(name, c);
                } else if (isDigit(c)) {
                    digits++;
                    value = value * 10 + (c - '0');
                } else {
                    break;
                }
            }
            if (digits == 0 && letters <= 7) {
                kind = AT_WORD;
                word = indexOf(reserved, reserved.length, name);
            } else if (letters == 0 && digits <= 2) {
                kind = AT_NUMBER;
            } else {
                kind = AT_NONSENSE;
            }
        }

        static int indexOf(long[] names, int count, long name) {
            for (int k = 0; k < count && k < names.length; k++) {
                if (names[k] == name) {
                    return k;
                }
            }
            return NONE;
        }

        private static boolean isBlank(int c) {
            return c == 32 || c == 10;
        }

        private static boolean isLetter(int c) {
            return c >= 'a' && c <= 'z';
        }

        private static boolean isDigit(int c) {
            return c >= '0' && c <= '9';
        }

        private static boolean isSign(int c) {
            return c == ';' || c == '<' || c == '=' || c == '>' || c == '(' || c == ')' || c == '.';
        }

        boolean isFine() {
            return fault == 0;
        }

        void fail(int faultKind) {
            if (fault == 0) {
                fault = faultKind;
                faultPlace = place;
            }
        }

        boolean isAtName() {
            return kind == AT_WORD && word == NONE;
        }

        boolean isAtWord(int wanted) {
            return kind == AT_WORD && word == wanted;
        }

        boolean isAtSign(int sign) {
            return kind == AT_SIGN && value == sign;
        }

        int wordHere() {
            return kind == AT_WORD ? word : NONE;
        }

        // Tells which of these names stands here and stays at it: what the two of a pair say is judged at the second.
        int nameHere(long[] names, int count) {
            if (!isAtName()) {
                fail(CANT_COME);
                return NONE;
            }
            int k = indexOf(names, count, name);
            if (k == NONE) {
                fail(WRONG_NAME);
            }
            return k;
        }

        int takeName(long[] names, int count) {
            int k = nameHere(names, count);
            if (k != NONE) {
                step();
            }
            return k;
        }

        void takeSign(int sign) {
            if (isAtSign(sign)) {
                step();
            } else {
                fail(CANT_COME);
            }
        }

        void takeWord(int wanted) {
            if (isAtWord(wanted)) {
                step();
            } else {
                fail(CANT_COME);
            }
        }

        int takeNumber(int low, int high) {
            if (kind != AT_NUMBER) {
                fail(CANT_COME);
                return NONE;
            }
            if (value < low || value > high) {
                fail(WRONG_NUMBER);
                return NONE;
            }
            int number = value;
            step();
            return number;
        }
    }

    private static final class Play {
        int parts = 0;
        int facts = 0;
        int men = 0;
        int acts = 0;
        int scenes = 0;
        boolean rest = false;
        final long[] partNames = new long[MOST_PARTS];
        final long[] factNames = new long[MOST_FACTS];
        final long[] manNames = new long[MOST_MEN];
        final int[] partSkill = new int[MOST_PARTS];
        final int[] partNeeds = new int[MOST_PARTS];
        final int[] factClears = new int[MOST_FACTS];
        final int[] manSkill = new int[MOST_MEN];
        final int[] manSeat = new int[MOST_MEN];
        final int[] manNever = new int[MOST_MEN];
        final int[] manFoes = new int[MOST_MEN];
        final int[] likes = new int[MOST_MEN * MOST_PARTS];
        final int[] sceneAct = new int[MOST_SCENES];
        final int[] sceneParts = new int[MOST_SCENES];
        final int[] sceneFacts = new int[MOST_SCENES];

        void clear() {
            parts = 0;
            facts = 0;
            men = 0;
            acts = 0;
            scenes = 0;
            rest = false;
            Arrays.fill(partNeeds, 0);
            Arrays.fill(factClears, 0);
            Arrays.fill(manNever, 0);
            Arrays.fill(manFoes, 0);
            Arrays.fill(likes, 0);
            Arrays.fill(sceneParts, 0);
            Arrays.fill(sceneFacts, 0);
        }

        void copyFrom(Play other) {
            parts = other.parts;
            facts = other.facts;
            men = other.men;
            acts = other.acts;
            scenes = other.scenes;
            rest = other.rest;
            System.arraycopy(other.partNames, 0, partNames, 0, MOST_PARTS);
            System.arraycopy(other.factNames, 0, factNames, 0, MOST_FACTS);
            System.arraycopy(other.manNames, 0, manNames, 0, MOST_MEN);
            System.arraycopy(other.partSkill, 0, partSkill, 0, MOST_PARTS);
            System.arraycopy(other.partNeeds, 0, partNeeds, 0, MOST_PARTS);
            System.arraycopy(other.factClears, 0, factClears, 0, MOST_FACTS);
            System.arraycopy(other.manSkill, 0, manSkill, 0, MOST_MEN);
            System.arraycopy(other.manSeat, 0, manSeat, 0, MOST_MEN);
            System.arraycopy(other.manNever, 0, manNever, 0, MOST_MEN);
            System.arraycopy(other.manFoes, 0, manFoes, 0, MOST_MEN);
            System.arraycopy(other.likes, 0, likes, 0, MOST_MEN * MOST_PARTS);
            System.arraycopy(other.sceneAct, 0, sceneAct, 0, MOST_SCENES);
            System.arraycopy(other.sceneParts, 0, sceneParts, 0, MOST_SCENES);
            System.arraycopy(other.sceneFacts, 0, sceneFacts, 0, MOST_SCENES);
        }

        boolean hasPart(int p) {
            return p >= 0 && p < parts;
        }

        boolean hasFact(int f) {
            return f >= 0 && f < facts;
        }

        boolean hasMan(int m) {
            return m >= 0 && m < men;
        }

        boolean hasName(long name) {
            return Reader.indexOf(partNames, parts, name) != NONE
                    || Reader.indexOf(factNames, facts, name) != NONE
                    || Reader.indexOf(manNames, men, name) != NONE;
        }

        int allMen() {
            return (1 << men) - 1;
        }

        int liking(int m, int p) {
            return likes[m * MOST_PARTS + p];
        }

        int scenesOf(int a) {
            int sum = 0;
            for (int s = 0; s < scenes; s++) {
                if (sceneAct[s] == a) {
                    sum++;
                }
            }
            return sum;
        }

        int partsOf(int a) {
            int bits = 0;
            for (int s = 0; s < scenes; s++) {
                if (sceneAct[s] == a) {
                    bits |= sceneParts[s];
                }
            }
            return bits;
        }

        int factsOf(int a) {
            int bits = 0;
            for (int s = 0; s < scenes; s++) {
                if (sceneAct[s] == a) {
                    bits |= sceneFacts[s];
                }
            }
            return bits;
        }

        int actsWith(int p) {
            int bits = 0;
            for (int s = 0; s < scenes; s++) {
                if (has(sceneParts[s], p)) {
                    bits |= 1 << sceneAct[s];
                }
            }
            return bits;
        }

        int partsBeside(int p, int a) {
            int bits = 0;
            for (int s = 0; s < scenes; s++) {
                if (sceneAct[s] == a && has(sceneParts[s], p)) {
                    bits |= sceneParts[s];
                }
            }
            return bits;
        }

        int suspectsWith(int known) {
            int bits = (1 << parts) - 1;
            for (int f = 0; f < facts; f++) {
                if (has(known, f)) {
                    bits &= ~factClears[f];
                }
            }
            return bits;
        }

        boolean isSureWith(int known) {
            return Integer.bitCount(suspectsWith(known)) == 1;
        }
    }

    private static final class PlayReader {
        final Play told = new Play();

        int read(Reader reader) {
            told.clear();
            int lines = 0;
            for (int k = 0; k <= MOST_PLAY && reader.kind != Reader.AT_END; k++) {
                readLine(reader);
                if (reader.isFine()) {
                    reader.takeSign(';');
                }
                if (!reader.isFine()) {
                    return lines;
                }
                lines++;
            }
            return lines;
        }

        private void readLine(Reader reader) {
            switch (reader.wordHere()) {
                case PART:
                    readPart(reader);
                    break;
                case FACT:
                    readFact(reader);
                    break;
                case CLEARS:
                    readClears(reader);
                    break;
                case MAN:
                    readMan(reader);
                    break;
                case ACT:
                    readAct(reader);
                    break;
                case SCENE:
                    readScene(reader);
                    break;
                case SHOWS:
                    readShows(reader);
                    break;
                case NEEDS:
                    readNeeds(reader);
                    break;
                case LIKES:
                    readLikes(reader);
                    break;
                case NEVER:
                    readNever(reader);
                    break;
                case FOES:
                    readFoes(reader);
                    break;
                case REST:
                    readRest(reader);
                    break;
                default:
                    reader.fail(CANT_COME);
            }
        }

        // Steps over the LINE's first word, where one more of its sort may be.
        private static boolean takeOneOf(Reader reader, int count, int most) {
            if (count >= most) {
                reader.fail(TOO_MANY);
                return false;
            }
            reader.step();
            return true;
        }

        private boolean takeNewName(Reader reader, long[] names, int k) {
            if (!reader.isAtName()) {
                reader.fail(CANT_COME);
                return false;
            }
            if (told.hasName(reader.name)) {
                reader.fail(WRONG_NAME);
                return false;
            }
            if (k < names.length) {
                names[k] = reader.name;
            }
            reader.step();
            return true;
        }

        // The second of a pair stands here: which are told already, as bits, with it.
        private static int takeOnce(Reader reader, int bits, int k) {
            if (has(bits, k)) {
                reader.fail(WRONG_NAME);
                return bits;
            }
            reader.step();
            return bits | 1 << k;
        }

        private void readPart(Reader reader) {
            if (!takeOneOf(reader, told.parts, MOST_PARTS) || !takeNewName(reader, told.partNames, told.parts)) {
                return;
            }
            told.partSkill[told.parts] = reader.takeNumber(0, 9);
            told.parts++;
        }

        private void readFact(Reader reader) {
            if (takeOneOf(reader, told.facts, MOST_FACTS) && takeNewName(reader, told.factNames, told.facts)) {
                told.facts++;
            }
        }

        private void readClears(Reader reader) {
            reader.step();
            int f = reader.takeName(told.factNames, told.facts);
            if (f == NONE) {
                return;
            }
            int p = reader.nameHere(told.partNames, told.parts);
            if (p != NONE) {
                told.factClears[f] = takeOnce(reader, told.factClears[f], p);
            }
        }

        private void readMan(Reader reader) {
            if (!takeOneOf(reader, told.men, MOST_MEN) || !takeNewName(reader, told.manNames, told.men)) {
                return;
            }
            told.manSkill[told.men] = reader.takeNumber(0, 9);
            if (reader.isFine()) {
                told.manSeat[told.men] = reader.takeNumber(1, 9);
            }
            told.men++;
        }

        private void readAct(Reader reader) {
            if (takeOneOf(reader, told.acts, MOST_ACTS)) {
                told.acts++;
            }
        }

        private void readScene(Reader reader) {
            if (told.acts == 0) {
                reader.fail(CANT_COME);
                return;
            }
            if (!takeOneOf(reader, told.scenes, MOST_SCENES)) {
                return;
            }
            int s = told.scenes;
            told.sceneAct[s] = told.acts - 1;
            told.scenes++;
            for (int k = 0; k <= MOST_PARTS && reader.isFine(); k++) {
                if (k > 0 && reader.isAtSign(';')) {
                    return;
                }
                int p = reader.nameHere(told.partNames, told.parts);
                if (p != NONE) {
                    told.sceneParts[s] = takeOnce(reader, told.sceneParts[s], p);
                }
            }
        }

        private void readShows(Reader reader) {
            int s = told.scenes - 1;
            if (s < 0 || told.sceneAct[s] != told.acts - 1) {
                reader.fail(CANT_COME);
                return;
            }
            reader.step();
            int f = reader.nameHere(told.factNames, told.facts);
            if (f != NONE) {
                told.sceneFacts[s] = takeOnce(reader, told.sceneFacts[s], f);
            }
        }

        private void readNeeds(Reader reader) {
            reader.step();
            int p = reader.takeName(told.partNames, told.parts);
            if (p == NONE) {
                return;
            }
            int f = reader.nameHere(told.factNames, told.facts);
            if (f != NONE) {
                told.partNeeds[p] = takeOnce(reader, told.partNeeds[p], f);
            }
        }

        private void readLikes(Reader reader) {
            reader.step();
            int m = reader.takeName(told.manNames, told.men);
            if (m == NONE) {
                return;
            }
            int p = reader.nameHere(told.partNames, told.parts);
            if (p == NONE) {
                return;
            }
            if (told.liking(m, p) != 0) {
                reader.fail(WRONG_NAME);
                return;
            }
            reader.step();
            told.likes[m * MOST_PARTS + p] = reader.takeNumber(1, 9);
        }

        private void readNever(Reader reader) {
            reader.step();
            int m = reader.takeName(told.manNames, told.men);
            if (m == NONE) {
                return;
            }
            int p = reader.nameHere(told.partNames, told.parts);
            if (p != NONE) {
                told.manNever[m] = takeOnce(reader, told.manNever[m], p);
            }
        }

        private void readFoes(Reader reader) {
            reader.step();
            int m = reader.takeName(told.manNames, told.men);
            if (m == NONE) {
                return;
            }
            int other = reader.nameHere(told.manNames, told.men);
            if (other == NONE) {
                return;
            }
            if (other == m) {
                reader.fail(WRONG_NAME);
                return;
            }
            told.manFoes[m] = takeOnce(reader, told.manFoes[m], other);
            told.manFoes[other] |= 1 << m;
        }

        private void readRest(Reader reader) {
            if (told.rest) {
                reader.fail(WRONG_NAME);
                return;
            }
            told.rest = true;
            reader.step();
        }
    }

    private static final class Evening {
        int next = 0;
        int joySoFar = 0;
        int lossSoFar = 0;
        int whispered = 0;
        int money = 0;
        int clapsSoFar = 0;
        int ahead = 0;
        int ill = 0;
        final int[] manAs = new int[MOST_PARTS];
        final int[] lastAs = new int[MOST_PARTS];
        final int[] known = new int[MOST_MEN];
        final int[] times = new int[MOST_MEN];
        final int[] clapsFor = new int[MOST_MEN];

        Evening() {
            Arrays.fill(manAs, NONE);
            Arrays.fill(lastAs, NONE);
        }

        void begin() {
            next = 0;
            joySoFar = 0;
            lossSoFar = 0;
            whispered = 0;
            money = 0;
            clapsSoFar = 0;
            ahead = 0;
            ill = 0;
            Arrays.fill(manAs, NONE);
            Arrays.fill(lastAs, NONE);
            Arrays.fill(known, 0);
            Arrays.fill(times, 0);
            Arrays.fill(clapsFor, 0);
        }

        void copyFrom(Evening other) {
            next = other.next;
            joySoFar = other.joySoFar;
            lossSoFar = other.lossSoFar;
            whispered = other.whispered;
            money = other.money;
            clapsSoFar = other.clapsSoFar;
            ahead = other.ahead;
            ill = other.ill;
            System.arraycopy(other.manAs, 0, manAs, 0, MOST_PARTS);
            System.arraycopy(other.lastAs, 0, lastAs, 0, MOST_PARTS);
            System.arraycopy(other.known, 0, known, 0, MOST_MEN);
            System.arraycopy(other.times, 0, times, 0, MOST_MEN);
            System.arraycopy(other.clapsFor, 0, clapsFor, 0, MOST_MEN);
        }

        void sendOff() {
            Arrays.fill(manAs, NONE);
        }

        boolean isOver(Play play) {
            return next >= play.acts;
        }

        int menOn() {
            int men = 0;
            for (int p = 0; p < MOST_PARTS; p++) {
                if (manAs[p] != NONE) {
                    men |= 1 << manAs[p];
                }
            }
            return men;
        }

        int partOf(int m) {
            for (int p = 0; p < MOST_PARTS; p++) {
                if (manAs[p] == m) {
                    return p;
                }
            }
            return NONE;
        }

        int whyNot(Play play, int m, int p) {
            int reason = whyUnfit(play, m, p);
            if (reason != 0) {
                return reason;
            }
            if (partOf(m) != NONE) {
                return MAN_TAKEN;
            }
            if (manAs[p] != NONE) {
                return PART_TAKEN;
            }
            if (meetsFoe(play, m, p)) {
                return FOE_NEAR;
            }
            return has(ill, m) ? IS_ILL : 0;
        }

        int castUnlessWhy(Play play, int m, int p) {
            int reason = whyNot(play, m, p);
            if (reason == 0) {
                manAs[p] = m;
            }
            return reason;
        }

        // Of the reasons those that are ahead of who else is cast.
        int whyUnfit(Play play, int m, int p) {
            if (isOver(play)) {
                return ALL_OVER;
            }
            if (!has(play.partsOf(next), p)) {
                return NOT_IN_ACT;
            }
            if (has(play.manNever[m], p)) {
                return NEVER_PLAYS;
            }
            if (play.manSkill[m] < play.partSkill[p]) {
                return UNSKILLED;
            }
            if (play.rest && has(ahead, m)) {
                return MUST_REST;
            }
            return unknownTo(play, m, p) != 0 ? UNKNOWING : 0;
        }

        int unknownTo(Play play, int m, int p) {
            return play.partNeeds[p] & ~known[m];
        }

        private boolean meetsFoe(Play play, int m, int p) {
            int beside = play.partsBeside(p, next);
            for (int q = 0; q < play.parts; q++) {
                if (has(beside, q) && manAs[q] != NONE && has(play.manFoes[m], manAs[q])) {
                    return true;
                }
            }
            return false;
        }

        boolean canTell(Play play, int m, int f) {
            return !isOver(play) && !has(known[m], f);
        }

        void tell(int m, int f) {
            known[m] |= 1 << f;
            whispered++;
        }

        int sureMen(Play play) {
            int men = 0;
            for (int m = 0; m < play.men; m++) {
                if (play.isSureWith(known[m])) {
                    men |= 1 << m;
                }
            }
            return men;
        }

        boolean canEndAct(Play play) {
            if (isOver(play)) {
                return false;
            }
            int wanted = play.partsOf(next);
            for (int p = 0; p < play.parts; p++) {
                if (has(wanted, p) && manAs[p] == NONE) {
                    return false;
                }
            }
            return true;
        }

        void endAct(Play play) {
            int on = menOn();
            for (int m = 0; m < play.men; m++) {
                if (!has(on, m)) {
                    money += play.manSeat[m];
                    clap(play, m);
                }
                learn(play, m);
            }
            for (int p = 0; p < play.parts; p++) {
                if (manAs[p] != NONE) {
                    joySoFar += play.liking(manAs[p], p);
                    lossSoFar += lossBy(play, manAs[p], p);
                    times[manAs[p]]++;
                    lastAs[p] = manAs[p];
                }
            }
            ahead = on;
            ill = 0;
            next++;
            sendOff();
        }

        // What is lost when this PART goes from who played it last to this MAN.
        int lossBy(Play play, int m, int p) {
            return lastAs[p] == NONE ? 0 : Math.abs(play.manSkill[lastAs[p]] - play.manSkill[m]);
        }

        private void clap(Play play, int m) {
            int liked = NONE;
            int most = 0;
            for (int p = 0; p < play.parts; p++) {
                if (manAs[p] != NONE && play.liking(m, p) > most) {
                    most = play.liking(m, p);
                    liked = p;
                }
            }
            if (liked != NONE) {
                clapsFor[manAs[liked]]++;
                clapsSoFar++;
            }
        }

        private void learn(Play play, int m) {
            int own = partOf(m);
            for (int s = 0; s < play.scenes; s++) {
                if (play.sceneAct[s] == next && (own == NONE || has(play.sceneParts[s], own))) {
                    known[m] |= play.sceneFacts[s];
                }
            }
        }
    }

    // Seeks through the CASTS of the next ACT, PART by PART: a level is a PART of that ACT.
    private static final class Casting {
        private static final int IMPOSSIBLE = 1000000;

        private int men = 0;
        private final int[] foes = new int[MOST_MEN];
        int levels = 0;
        final int[] partAt = new int[MOST_PARTS];
        final int[] ableAt = new int[MOST_PARTS];
        private final int[] besideAt = new int[MOST_PARTS];
        private final int[] costs = new int[MOST_PARTS * MOST_MEN];
        private final int[] cheapestFrom = new int[MOST_PARTS + 1];
        private final int[] manAt = new int[MOST_PARTS];
        private final int[] foundAt = new int[MOST_PARTS];
        private int cheapest = IMPOSSIBLE;
        private int total = 0;
        int always = 0;

        // False: all ACTS are over.
        boolean prepare(Play play, Evening evening, boolean whispering) {
            levels = 0;
            men = play.men;
            System.arraycopy(play.manFoes, 0, foes, 0, MOST_MEN);
            if (evening.isOver(play)) {
                return false;
            }
            int wanted = play.partsOf(evening.next);
            for (int p = 0; p < play.parts; p++) {
                if (has(wanted, p)) {
                    partAt[levels] = p;
                    ableAt[levels] = ableMen(play, evening, p, whispering);
                    besideAt[levels] = play.partsBeside(p, evening.next);
                    levels++;
                }
            }
            return true;
        }

        private static int ableMen(Play play, Evening evening, int p, boolean whispering) {
            int able = 0;
            for (int m = 0; m < play.men; m++) {
                int reason = evening.whyUnfit(play, m, p);
                boolean fit = reason == 0 || whispering && reason == UNKNOWING;
                if (fit && !has(evening.ill, m)) {
                    able |= 1 << m;
                }
            }
            return able;
        }

        private int freeMen(int level, int used) {
            int free = ableAt[level] & ~used;
            for (int k = 0; k < level; k++) {
                if (has(besideAt[level], partAt[k])) {
                    free &= ~foes[manAt[k]];
                }
            }
            return free;
        }

        boolean findBest(Play play, Evening evening) {
            if (!prepare(play, evening, false)) {
                return false;
            }
            for (int k = 0; k < levels; k++) {
                for (int m = 0; m < play.men; m++) {
                    costs[k * MOST_MEN + m] = -play.liking(m, partAt[k]);
                }
            }
            return findCheapest();
        }

        int joyOfBest() {
            return -cheapest;
        }

        void castInto(int[] manAs) {
            Arrays.fill(manAs, NONE);
            for (int k = 0; k < levels; k++) {
                if (partAt[k] < manAs.length) {
                    manAs[partAt[k]] = foundAt[k];
                }
            }
        }

        int leastLoss(Play play, Evening evening) {
            if (!prepare(play, evening, false)) {
                return NONE;
            }
            for (int k = 0; k < levels; k++) {
                for (int m = 0; m < play.men; m++) {
                    costs[k * MOST_MEN + m] = evening.lossBy(play, m, partAt[k]);
                }
            }
            return findCheapest() ? cheapest : NONE;
        }

        int fewestWhispers(Play play, Evening evening) {
            if (!prepare(play, evening, true)) {
                return NONE;
            }
            for (int k = 0; k < levels; k++) {
                for (int m = 0; m < play.men; m++) {
                    costs[k * MOST_MEN + m] = Integer.bitCount(evening.unknownTo(play, m, partAt[k]));
                }
            }
            return findCheapest() ? cheapest : NONE;
        }

        private boolean findCheapest() {
            cheapestFrom[levels] = 0;
            for (int k = levels - 1; k >= 0; k--) {
                cheapestFrom[k] = cheapestFrom[k + 1] + cheapestAt(k);
            }
            cheapest = IMPOSSIBLE;
            seekCheapest(0, 0, 0);
            return cheapest < IMPOSSIBLE;
        }

        private int cheapestAt(int level) {
            int least = IMPOSSIBLE * 2;
            for (int m = 0; m < men; m++) {
                if (has(ableAt[level], m)) {
                    least = Math.min(least, costs[level * MOST_MEN + m]);
                }
            }
            return least;
        }

        // Goes through the CASTS in their order, so the first of like ones is the one that stays.
        private void seekCheapest(int level, int used, int cost) {
            if (cost + cheapestFrom[level] >= cheapest) {
                return;
            }
            if (level >= levels) {
                cheapest = cost;
                System.arraycopy(manAt, 0, foundAt, 0, levels);
                return;
            }
            int free = freeMen(level, used);
            for (int m = 0; m < men; m++) {
                if (has(free, m)) {
                    manAt[level] = m;
                    seekCheapest(level + 1, used | 1 << m, cost + costs[level * MOST_MEN + m]);
                }
            }
        }

        // How many CASTS by these MEN there are; who is in each of them is kept as 'always'.
        int countBy(Play play, Evening evening, int allowed) {
            total = 0;
            always = play.allMen();
            if (prepare(play, evening, false)) {
                for (int k = 0; k < levels; k++) {
                    ableAt[k] &= allowed;
                }
                seekAll(0, 0);
            }
            return total;
        }

        private void seekAll(int level, int used) {
            if (level >= levels) {
                total++;
                always &= used;
                return;
            }
            int free = freeMen(level, used);
            if (level == levels - 1) {
                addLast(free, used);
                return;
            }
            for (int m = 0; m < men; m++) {
                if (has(free, m)) {
                    manAt[level] = m;
                    seekAll(level + 1, used | 1 << m);
                }
            }
        }

        // Most CASTS differ by the last PART alone: they are counted together.
        private void addLast(int free, int used) {
            int ways = Integer.bitCount(free);
            total += ways;
            if (ways > 0) {
                always &= ways == 1 ? used | free : used;
            }
        }

        // A smallest set that can't be filled is one with fewer MEN than PARTS: by Hall's theorem one of those
        // stands in each set that can't be filled.
        int shortSet(Play play, Evening evening) {
            if (!prepare(play, evening, false)) {
                return 0;
            }
            int found = 0;
            for (int set = 1; set < 1 << levels; set++) {
                boolean smaller = found == 0 || Integer.bitCount(set) < Integer.bitCount(found);
                if (smaller && Integer.bitCount(ableForAny(set)) < Integer.bitCount(set)) {
                    found = set;
                }
            }
            return partsAt(found);
        }

        private int ableForAny(int set) {
            int able = 0;
            for (int k = 0; k < levels; k++) {
                if (has(set, k)) {
                    able |= ableAt[k];
                }
            }
            return able;
        }

        private int partsAt(int set) {
            int bits = 0;
            for (int k = 0; k < levels; k++) {
                if (has(set, k)) {
                    bits |= 1 << partAt[k];
                }
            }
            return bits;
        }
    }

    private static final class Market {
        boolean told = false;
        final int[] priceOf = new int[MOST_PARTS];
        final int[] wantedBy = new int[MOST_MEN];

        int trade(Play play, Evening evening, Casting casting) {
            if (!casting.prepare(play, evening, false)) {
                return NONE;
            }
            told = true;
            Arrays.fill(priceOf, 0);
            Arrays.fill(wantedBy, NONE);
            int rounds = 0;
            boolean resting = false;
            while (!resting && rounds < MOST_ROUNDS) {
                rounds++;
                for (int m = 0; m < play.men; m++) {
                    wantedBy[m] = wishOf(m, play, casting);
                }
                resting = !raise(play);
            }
            return rounds;
        }

        private int wishOf(int m, Play play, Casting casting) {
            int wish = NONE;
            int most = -1;
            for (int k = 0; k < casting.levels; k++) {
                int p = casting.partAt[k];
                int gain = play.liking(m, p) - priceOf[p];
                if (has(casting.ableAt[k], m) && gain > most) {
                    most = gain;
                    wish = p;
                }
            }
            return wish;
        }

        private boolean raise(Play play) {
            boolean raised = false;
            for (int p = 0; p < play.parts; p++) {
                int wishes = 0;
                for (int m = 0; m < play.men; m++) {
                    if (wantedBy[m] == p) {
                        wishes++;
                    }
                }
                if (wishes > 1) {
                    priceOf[p]++;
                    raised = true;
                }
            }
            return raised;
        }
    }

    private static final class Book {
        private int lines = 0;
        private final int[] deeds = new int[MOST_LINES];
        private final int[] men = new int[MOST_LINES];
        private final int[] things = new int[MOST_LINES];
        boolean judged = false;
        int reason = 0;
        int rightLines = 0;
        int nextThen = 0;
        int joyInIt = 0;

        void read(Reader reader, Play play) {
            lines = 0;
            for (int k = 0; k <= MOST_BOOK && reader.kind != Reader.AT_END; k++) {
                readLine(reader, play);
                if (reader.isFine()) {
                    reader.takeSign(';');
                }
                if (!reader.isFine()) {
                    return;
                }
                lines++;
            }
        }

        private void readLine(Reader reader, Play play) {
            int deed = reader.isAtName() ? AS : reader.wordHere();
            if (!canBegin(reader, deed)) {
                reader.fail(CANT_COME);
                return;
            }
            int m = NONE;
            if (deed == AS) {
                m = reader.nameHere(play.manNames, play.men);
            }
            if (lines >= MOST_LINES) {
                reader.fail(TOO_MANY);
            }
            if (!reader.isFine()) {
                return;
            }
            reader.step();
            deeds[lines] = deed;
            men[lines] = m;
            if (deed == AS) {
                reader.takeWord(AS);
                if (reader.isFine()) {
                    things[lines] = reader.takeName(play.partNames, play.parts);
                }
            } else if (deed == WHISPER) {
                men[lines] = reader.takeName(play.manNames, play.men);
                if (reader.isFine()) {
                    things[lines] = reader.takeName(play.factNames, play.facts);
                }
            }
        }

        private static boolean canBegin(Reader reader, int deed) {
            return reader.isAtName() || deed == WHISPER || deed == CURTAIN || deed == BEST;
        }

        int judge(Play play, Evening evening, Casting casting) {
            int joyAhead = evening.joySoFar;
            judged = true;
            reason = 0;
            rightLines = 0;
            for (int k = 0; k < lines && reason == 0; k++) {
                reason = whyWrong(k, play, evening, casting);
                if (reason == 0) {
                    rightLines++;
                }
            }
            nextThen = evening.next;
            joyInIt = evening.joySoFar - joyAhead;
            return reason == 0 ? NONE : rightLines;
        }

        // Does what the LINE says, if it can be done.
        private int whyWrong(int k, Play play, Evening evening, Casting casting) {
            int m = men[k];
            int thing = things[k];
            switch (deeds[k]) {
                case AS:
                    return evening.castUnlessWhy(play, m, thing);
                case WHISPER:
                    if (!evening.canTell(play, m, thing)) {
                        return NO_WHISPER;
                    }
                    evening.tell(m, thing);
                    return 0;
                case CURTAIN:
                    if (!evening.canEndAct(play)) {
                        return NO_CURTAIN;
                    }
                    evening.endAct(play);
                    return 0;
                default:
                    if (!casting.findBest(play, evening)) {
                        return NO_BEST;
                    }
                    casting.castInto(evening.manAs);
                    return 0;
            }
        }
    }

    // A SENTENCE behind its reading: each step works on sets of MEN, of whom what was read so far may be said.
    private static final class Sentence {
        private static final int MOST_STEPS = 2 * MOST_ONES;

        int ones = 0;
        private int steps = 0;
        private final int[] kinds = new int[MOST_STEPS];
        private final int[] signs = new int[MOST_STEPS];
        private final int[] numbers = new int[MOST_STEPS];
        private final int[] sets = new int[MOST_STEPS];

        void clear() {
            ones = 0;
            steps = 0;
        }

        void copyFrom(Sentence other) {
            ones = other.ones;
            steps = other.steps;
            System.arraycopy(other.kinds, 0, kinds, 0, MOST_STEPS);
            System.arraycopy(other.signs, 0, signs, 0, MOST_STEPS);
            System.arraycopy(other.numbers, 0, numbers, 0, MOST_STEPS);
        }

        void read(Reader reader, Play play) {
            clear();
            readCond(reader, play, 0);
            if (reader.isFine() && reader.kind != Reader.AT_END) {
                reader.fail(CANT_COME);
            }
        }

        private void readCond(Reader reader, Play play, int within) {
            readAll(reader, play, within);
            for (int k = 0; k < MOST_ONES && reader.isFine() && reader.isAtWord(OR); k++) {
                reader.step();
                readAll(reader, play, within);
                addStep(OR, 0, 0);
            }
        }

        private void readAll(Reader reader, Play play, int within) {
            readOne(reader, play, within + 1);
            for (int k = 0; k < MOST_ONES && reader.isFine() && reader.isAtWord(AND); k++) {
                reader.step();
                readOne(reader, play, within + 1);
                addStep(AND, 0, 0);
            }
        }

        private void readOne(Reader reader, Play play, int within) {
            int word = reader.wordHere();
            boolean bracket = reader.isAtSign('(');
            if (!bracket && (word < NOT || word > NUMBER)) {
                reader.fail(CANT_COME);
                return;
            }
            if (ones >= MOST_ONES || within > MOST_WITHIN) {
                reader.fail(TOO_MANY);
                return;
            }
            ones++;
            reader.step();
            if (bracket) {
                readCond(reader, play, within);
                if (reader.isFine()) {
                    reader.takeSign(')');
                }
            } else if (word == NOT) {
                readOne(reader, play, within + 1);
                addStep(NOT, 0, 0);
            } else {
                readPlainOne(reader, play, word);
            }
        }

        private void readPlainOne(Reader reader, Play play, int word) {
            if (word == PLAYS || word == RESTED || word == SURE) {
                addStep(word, 0, 0);
            } else if (word == KNOWS) {
                addStep(word, 0, reader.takeName(play.factNames, play.facts));
            } else {
                int sign = reader.value;
                if (!reader.isAtSign('<') && !reader.isAtSign('=') && !reader.isAtSign('>')) {
                    reader.fail(CANT_COME);
                    return;
                }
                reader.step();
                addStep(word, sign, reader.takeNumber(0, 99));
            }
        }

        private void addStep(int kind, int sign, int number) {
            if (steps < MOST_STEPS) {
                kinds[steps] = kind;
                signs[steps] = sign;
                numbers[steps] = number;
                steps++;
            }
        }

        int menOf(Play play, Evening evening) {
            int top = -1;
            for (int k = 0; k < steps; k++) {
                int kind = kinds[k];
                if (kind == NOT && top >= 0) {
                    sets[top] = play.allMen() & ~sets[top];
                } else if (kind == AND && top >= 1) {
                    top--;
                    sets[top] &= sets[top + 1];
                } else if (kind == OR && top >= 1) {
                    top--;
                    sets[top] |= sets[top + 1];
                } else if (top + 1 < MOST_STEPS) {
                    top++;
                    sets[top] = menOfOne(k, play, evening);
                }
            }
            return top >= 0 ? sets[top] : 0;
        }

        private int menOfOne(int k, Play play, Evening evening) {
            switch (kinds[k]) {
                case PLAYS:
                    return evening.menOn();
                case RESTED:
                    return play.allMen() & ~evening.ahead;
                case SURE:
                    return evening.sureMen(play);
                default:
                    int men = 0;
                    for (int m = 0; m < play.men; m++) {
                        if (holdsFor(m, k, play, evening)) {
                            men |= 1 << m;
                        }
                    }
                    return men;
            }
        }

        private boolean holdsFor(int m, int k, Play play, Evening evening) {
            switch (kinds[k]) {
                case KNOWS:
                    return has(evening.known[m], numbers[k]);
                case SKILL:
                    return compares(play.manSkill[m], k);
                case TIMES:
                    return compares(evening.times[m], k);
                case CLAPS:
                    return compares(evening.clapsFor[m], k);
                default:
                    return compares(m, k);
            }
        }

        private boolean compares(int amount, int k) {
            if (signs[k] == '<') {
                return amount < numbers[k];
            }
            return signs[k] == '=' ? amount == numbers[k] : amount > numbers[k];
        }
    }

    // EVENINGS as they were ahead of the latest calls that can be undone; the oldest gives way.
    private static final class History {
        private final Evening[] evenings = new Evening[MOST_UNDONE];
        private int oldest = 0;
        int kept = 0;

        History() {
            for (int k = 0; k < MOST_UNDONE; k++) {
                evenings[k] = new Evening();
            }
        }

        void forget() {
            kept = 0;
        }

        void keep(Evening evening) {
            if (kept == MOST_UNDONE) {
                oldest = (oldest + 1) % MOST_UNDONE;
                kept--;
            }
            evenings[(oldest + kept) % MOST_UNDONE].copyFrom(evening);
            kept++;
        }

        boolean takeBack(Evening evening) {
            if (kept == 0) {
                return false;
            }
            kept--;
            evening.copyFrom(evenings[(oldest + kept) % MOST_UNDONE]);
            return true;
        }
    }

    private static final class Image {
        boolean filled = false;
        final Play play = new Play();
        final Evening evening = new Evening();
        final Sentence sentence = new Sentence();
    }
}
