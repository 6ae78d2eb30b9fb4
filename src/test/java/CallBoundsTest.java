/**
 * The boundary cases that the promises of a new object, the tape, the PLAY, BOOKS, SENTENCES, images and counts name
 * (1 to 5, 8, 9, 36 to 42), and an object's 512 calls. Each function has the document's sentence above it.
 */
public final class CallBoundsTest {
    private static final Check CHECK = new Check();
    private static final int[] NO_NUMBERS = {-1, -2, Integer.MIN_VALUE, Integer.MAX_VALUE};
    private static final String PLAY = "part p 0;part q 3;fact f;fact g;clears f p;man a 2 1;man b 3 2;man c 9 4;likes a p 5;"
            + "likes b q 4;likes c q 2;needs q g;act;scene p;shows f;act;scene p q;shows g;act;";

    public static void main(String[] args) {
        newObject();
        feedTo940();
        feedHighestByteFirst();
        endOfSoManyBytes();
        playOfAnEmptyTape();
        playIsNew();
        playWithAFaultStays();
        tapeIsEmptyThen();
        faultOfTheLatest();
        actOfNoSuchOnes();
        sceneOfNoSuchOnes();
        bookOfAnotherLives();
        bookWithoutLines();
        bookIsJudged();
        bookIsLivedAsFarAsItIsNotWrong();
        bookIsWrongForEachReason();
        bookWithAFault();
        bookedOfAnotherWhat();
        bookedAheadOfAny();
        bestOfABook();
        sentenceOfNothing();
        sentenceWithAFaultStays();
        saidAtItsBounds();
        saidOfNone();
        restedAndSure();
        signsAtTheirBounds();
        saidByTwentyOnes();
        imageInNoSuchPlace();
        restoreOfNothing();
        restoreKeepsWhatOtherCallsTold();
        imagesAreApart();
        countOfAnotherWhat();
        after512Calls();
        CHECK.finish();
    }

    private static String now(RecastStage x) {
        StringBuilder row = new StringBuilder();
        for (int what = 0; what < 7; what++) {
            row.append(what == 0 ? "" : " ").append(x.now(what));
        }
        return row.toString();
    }

    private static String counts(RecastStage x) {
        StringBuilder row = new StringBuilder();
        for (int what = 0; what < 7; what++) {
            row.append(what == 0 ? "" : " ").append(x.count(what));
        }
        return row.toString();
    }

    /** "An empty PLAY; an empty tape" */
    private static void newObject() {
        RecastStage x = new RecastStage();
        CHECK.row("counts", counts(x), "0 0 0 0 0 0 0");
        CHECK.row("now", now(x), "0 0 0 0 0 0 0");
        CHECK.due("fault()", x.fault(), 0);
        CHECK.due("undo()", x.undo(), -1);
        CHECK.due("goesOn()", x.goesOn(), 0);
        CHECK.due("sure()", x.sure(), 0);
        CHECK.due("said(-1)", x.said(-1), -1);
        CHECK.due("booked(0)", x.booked(0), -1);
        CHECK.due("an empty PLAY can be kept", x.image(1), true);
        CHECK.due("and restored", x.restore(1), true);
        CHECK.row("counts", counts(x), "0 0 0 0 0 0 0");
    }

    /** "how many it has; NONE, and none come, if it would have more than 940" */
    private static void feedTo940() {
        int blanks = 0x20202020;
        RecastStage x = new RecastStage();
        for (int k = 1; k <= 46; k++) {
            CHECK.due("feed " + k, x.feed(blanks, blanks, blanks, blanks, blanks), 20L * k);
        }
        CHECK.due("just 940", x.feed(blanks, blanks, blanks, blanks, blanks), 940);
        CHECK.due("960", x.feed(0, 0, 0, 0, 0), -1);
        CHECK.due("none come", x.count(6), 940);
        CHECK.due("959", x.end(939), true);
        CHECK.due("959", x.feed(0, 0, 0, 0, 0), -1);
        CHECK.due("none come", x.count(6), 939);
        x.end(921);
        CHECK.due("941", x.feed(0, 0, 0, 0, 0), -1);
        CHECK.due("none come", x.count(6), 921);
        x.end(920);
        CHECK.due("940 again", x.feed(blanks, blanks, blanks, blanks, blanks), 940);
        x.end(919);
        CHECK.due("939", x.feed(blanks, blanks, blanks, blanks, blanks), 939);
        CHECK.due("959", x.feed(0, 0, 0, 0, 0), -1);
        x.end(900);
        CHECK.due("none of those that did not come is read", x.play(), 0);
        CHECK.due("an empty tape again", x.feed(0, 0, 0, 0, 0), 20);
    }

    /** "of each number the highest first"; "come behind the tape" */
    private static void feedHighestByteFirst() {
        RecastStage x = new RecastStage();
        // "part" " abc" "d  9" ";fac" "t f;", and behind it "act;" and blanks
        CHECK.due("feed()", x.feed(0x70617274, 0x20616263, 0x64202039, 0x3b666163, 0x7420663b), 20);
        CHECK.due("feed()", x.feed(0x6163743b, 0x20202020, 0x20202020, 0x20202020, 0x0a0a0a0a), 40);
        CHECK.due("play()", x.play(), 3);
        CHECK.row("counts", counts(x), "1 1 0 1 0 0 0");
        CHECK.due("SKILL", x.part(0, 0), 9);
        // bytes above 127 are bytes, too, but no TOKEN
        CHECK.due("feed()", x.feed(0x6163743b, 0xffffffff, 0x80808080, 0, 0), 20);
        CHECK.due("play()", x.play(), -5);
        CHECK.due("fault()", x.fault(), 1);
        CHECK.due("feed()", x.feed(0x6163743b, 0, 0, 0, 0), 20);
        CHECK.due("byte 0 is no blank", x.play(), -5);
    }

    /** "The tape has its first n bytes alone: true; false, if it has not so many, or n is below 0" */
    private static void endOfSoManyBytes() {
        RecastStage x = new RecastStage();
        CHECK.due("0 of 0", x.end(0), true);
        CHECK.due("1 of 0", x.end(1), false);
        x.feed(0x6163743b, 0x6163743b, 0x6163743b, 0x6163743b, 0x6163743b);
        for (int k : NO_NUMBERS) {
            CHECK.due("end(" + k + ")", x.end(k), false);
        }
        CHECK.due("21 of 20", x.end(21), false);
        CHECK.due("all stay", x.count(6), 20);
        CHECK.due("20 of 20", x.end(20), true);
        CHECK.due("all stay", x.count(6), 20);
        CHECK.due("19 of 20", x.end(19), true);
        CHECK.due("19", x.count(6), 19);
        CHECK.due("20 of 19", x.end(20), false);
        CHECK.due("the first 8", x.end(8), true);
        x.feed(0x72657374, 0x3b202020, 0x20202020, 0x20202020, 0x20202020);
        CHECK.due("behind the first 8", x.play(), 3);
        CHECK.row("two ACTS, 'rest'", counts(x), "0 0 0 2 0 1 0");
        x.feed(0x6163743b, 0x6163743b, 0, 0, 0);
        CHECK.due("none", x.end(0), true);
        CHECK.due("empty", x.count(6), 0);
        CHECK.due("an empty PLAY", x.play(), 0);
    }

    /** "The tape .. is the PLAY now: how many LINES" */
    private static void playOfAnEmptyTape() {
        RecastStage x = Check.stage(PLAY);
        x.cast(0, 0);
        CHECK.due("no LINES", x.play(), 0);
        CHECK.due("no FAULT", x.fault(), 0);
        CHECK.row("an empty PLAY", counts(x), "0 0 0 0 0 0 0");
        CHECK.row("a new EVENING", now(x), "0 0 0 0 0 0 0");
        CHECK.due("no PART", x.part(0, 0), -1);
        CHECK.throwsNoSuch("no MAN", x, 0, 0);
        CHECK.due("blanks alone", Check.play(x, " \n"), 0);
        CHECK.due("one LINE", Check.play(x, "act;"), 1);
        CHECK.due("the same NAMES may be told anew", Check.play(x, PLAY), 19);
        CHECK.due("and again", Check.play(x, PLAY), 19);
        CHECK.row("counts", counts(x), "2 2 3 3 2 0 0");
    }

    /** "A new PLAY: ACT 0 is next, nobody cast, ill or knowing anything, no SENTENCE" */
    private static void playIsNew() {
        String text = "part p 0;part q 0;fact f;fact g;needs q g;man a 0 1;man b 4 2;man c 9 4;likes b p 3;likes c p 2;act;"
                + "scene p;shows f;act;scene p;act;scene p q;";
        RecastStage x = Check.stage(text);
        Check.book(x, "a as p;curtain;b as p;curtain;", 1);
        x.whisper(2, 1);
        Check.sentence(x, "number < 9");
        int seed = 0;
        while (x.man(0, 7) == 1 || x.man(1, 7) == 0) {
            x.undo();
            x.drawn(seed);
            seed++;
        }
        x.whisper(2, 1);
        x.cast(0, 0);
        CHECK.row("much went on", now(x), "2 3 4 1 1 11 3");
        CHECK.due("the same anew", Check.play(x, text), 17);
        CHECK.row("ACT 0 is next", now(x), "0 0 0 0 0 0 0");
        for (int m = 0; m < 3; m++) {
            CHECK.due("nobody cast", x.man(m, 2), -1);
            for (int what = 3; what < 8; what++) {
                CHECK.due("man(" + m + ", " + what + ")", x.man(m, what), 0);
            }
        }
        for (int p = 0; p < 2; p++) {
            CHECK.due("nobody cast", x.part(p, 2), -1);
            CHECK.due("nobody played", x.part(p, 3), -1);
        }
        CHECK.due("no SENTENCE", x.said(-1), -1);
        CHECK.due("nothing can be undone", x.undo(), -1);
        CHECK.due("told with 'rest', 'never', 'foes'", Check.play(x, text + "rest;never a p;foes a b;"), 20);
        CHECK.due("and without", Check.play(x, text), 17);
        CHECK.due("no 'rest'", x.count(5), 0);
        CHECK.due("no 'never'", x.cast(0, 0), 0);
        String more = "rest;never a p;likes a p 9;needs p f;clears g p;";
        CHECK.due("with a FAULT", Check.play(x, text + more + "?"), -1 - text.length() - more.length());
        CHECK.due("and again without", Check.play(x, text), 17);
        CHECK.due("nothing of it is left", x.count(5) + x.why(0, 0) + x.part(0, 1), 0);
        CHECK.due("nobody likes p more", x.best(), 3);
        x.whisper(0, 1);
        CHECK.due("g clears none", x.suspects(0), 3);
    }

    /** "-1 less the place of a FAULT: it stays" */
    private static void playWithAFaultStays() {
        RecastStage x = Check.stage(PLAY);
        x.cast(0, 0);
        x.whisper(1, 1);
        Check.sentence(x, "plays");
        String ahead = now(x);
        CHECK.due("a FAULT at 0", Check.play(x, "?"), -1);
        CHECK.due("a FAULT at 1", Check.play(x, " ?"), -2);
        CHECK.due("a FAULT behind much", Check.play(x, "rest;part x 9;fact y;man z 9 9;act;scene x;shows y;foes z z;"), -59);
        CHECK.row("the PLAY stays", counts(x), "2 2 3 3 2 0 0");
        CHECK.row("the EVENING stays", now(x), ahead);
        CHECK.due("the SENTENCE stays", x.said(-1), 1);
        CHECK.due("NAMES stay", Check.book(x, "b as p;", 0), 0);
        CHECK.due("NAMES of the FAULT do not come", Check.book(x, "z as x;", 0), -2);
        CHECK.due("what can be undone stays", x.undo(), 1);
        CHECK.due("a FAULT at 899", Check.play(x, Check.times(" ", 899) + "?"), -900);
        CHECK.due("a FAULT at 900", Check.play(x, Check.times(" ", 940)), -901);
    }

    /** "The tape (empty then, here and below)" */
    private static void tapeIsEmptyThen() {
        RecastStage x = Check.stage(PLAY);
        CHECK.due("behind a PLAY", x.count(6), 0);
        Check.play(x, "act");
        CHECK.due("behind a FAULT", x.count(6), 0);
        Check.book(x, "a as p;", 0);
        CHECK.due("behind a BOOK", x.count(6), 0);
        Check.book(x, "a as p;", 1);
        CHECK.due("behind a BOOK", x.count(6), 0);
        Check.book(x, "a as", 0);
        CHECK.due("behind a FAULT", x.count(6), 0);
        Check.sentence(x, "plays");
        CHECK.due("behind a SENTENCE", x.count(6), 0);
        Check.sentence(x, "plays and");
        CHECK.due("behind a FAULT", x.count(6), 0);
        Check.book(x, "a as p;", 2);
        CHECK.due("behind another lives it stays", x.count(6), 7);
    }

    /** "The kind of the FAULT of the latest play(), book() or sentence() (a book() of -1000 leaves it); 0 without one" */
    private static void faultOfTheLatest() {
        RecastStage x = new RecastStage();
        CHECK.due("ahead of any", x.fault(), 0);
        CHECK.due("another lives", x.book(2), -1000);
        CHECK.due("ahead of any, still", x.fault(), 0);
        Check.play(x, "?");
        CHECK.due("1", x.fault(), 1);
        CHECK.due("another lives", x.book(-1), -1000);
        CHECK.due("leaves it", x.fault(), 1);
        Check.play(x, "part p 10;");
        CHECK.due("2", x.fault(), 2);
        x.count(6);
        x.best();
        CHECK.due("asked again", x.fault(), 2);
        Check.play(x, "rest;rest;");
        CHECK.due("3", x.fault(), 3);
        Check.play(x, Check.times("act;", 7));
        CHECK.due("4", x.fault(), 4);
        Check.play(x, "act;");
        CHECK.due("without one", x.fault(), 0);
        Check.sentence(x, "knows f");
        CHECK.due("of a SENTENCE", x.fault(), 3);
        Check.book(x, "curtain;", 0);
        CHECK.due("of a BOOK without one", x.fault(), 0);
        Check.book(x, "a as p;", 0);
        CHECK.due("of a BOOK", x.fault(), 3);
        Check.book(x, "curtain;curtain;", 0);
        CHECK.due("WRONG is no FAULT", x.fault(), 0);
        Check.book(x, "curtain", 1);
        CHECK.due("of a BOOK", x.fault(), 1);
        Check.sentence(x, "sure");
        CHECK.due("of a SENTENCE without one", x.fault(), 0);
        Check.sentence(x, "?");
        x.image(0);
        x.restore(0);
        CHECK.due("restore() leaves it", x.fault(), 1);
    }

    /** "act: .. NONE: no such ones" */
    private static void actOfNoSuchOnes() {
        RecastStage x = Check.stage(PLAY);
        int[][] told = {{1, 1, 1}, {1, 3, 2}, {0, 0, 0}};
        for (int a = 0; a < 3; a++) {
            for (int what = 0; what < 3; what++) {
                CHECK.due("act(" + a + ", " + what + ")", x.act(a, what), told[a][what]);
            }
            CHECK.due("one what beyond", x.act(a, 3), -1);
            for (int k : NO_NUMBERS) {
                CHECK.due("act(" + a + ", " + k + ")", x.act(a, k), -1);
            }
        }
        for (int what = -1; what < 4; what++) {
            CHECK.due("one ACT beyond", x.act(3, what), -1);
            for (int k : NO_NUMBERS) {
                CHECK.due("act(" + k + ", " + what + ")", x.act(k, what), -1);
            }
        }
    }

    /** "scene: .. NONE: no such ones" */
    private static void sceneOfNoSuchOnes() {
        RecastStage x = Check.stage(PLAY);
        int[][] told = {{0, 1, 1}, {1, 3, 2}};
        for (int s = 0; s < 2; s++) {
            for (int what = 0; what < 3; what++) {
                CHECK.due("scene(" + s + ", " + what + ")", x.scene(s, what), told[s][what]);
            }
            CHECK.due("one what beyond", x.scene(s, 3), -1);
            for (int k : NO_NUMBERS) {
                CHECK.due("scene(" + s + ", " + k + ")", x.scene(s, k), -1);
            }
        }
        for (int what = -1; what < 4; what++) {
            CHECK.due("one SCENE beyond", x.scene(2, what), -1);
            for (int k : NO_NUMBERS) {
                CHECK.due("scene(" + k + ", " + what + ")", x.scene(k, what), -1);
            }
        }
    }

    /** "-1000: another lives (the tape stays)" */
    private static void bookOfAnotherLives() {
        RecastStage x = Check.stage(PLAY);
        Check.tape(x, "a as p;curtain;");
        for (int lives : new int[] {-1, 2, -2, Integer.MIN_VALUE, Integer.MAX_VALUE}) {
            CHECK.due("book(" + lives + ")", x.book(lives), -1000);
            CHECK.due("the tape stays", x.count(6), 15);
            CHECK.due("nothing is booked", x.booked(1), -1);
        }
        CHECK.due("nothing is lived", x.now(3), 0);
        CHECK.due("book(0)", x.book(0), -1);
        CHECK.due("two LINES", x.booked(1), 2);
        Check.tape(x, "a as p;curtain;");
        CHECK.due("book(1)", x.book(1), -1);
        CHECK.due("is lived", x.now(0), 1);
        Check.tape(x, "?");
        CHECK.due("another lives", x.book(2), -1000);
        CHECK.due("booked() is of the latest but that", x.booked(2), 1);
        CHECK.due("the tape can still be a BOOK", x.book(1), -2);
    }

    private static void bookWithoutLines() {
        RecastStage x = Check.stage(PLAY);
        x.cast(0, 0);
        x.curtain();
        CHECK.due("book(0)", x.book(0), -1);
        int[] booked = {0, 0, 1, 0};
        for (int what = 0; what < 4; what++) {
            CHECK.due("booked(" + what + ")", x.booked(what), booked[what]);
        }
        CHECK.due("nothing new to undo", x.undo(), 1);
        CHECK.due("no PLAY, too", new RecastStage().book(1), -1);
    }

    /** "it is judged, all staying as it is (lives 0)" */
    private static void bookIsJudged() {
        RecastStage x = Check.stage(PLAY);
        x.whisper(0, 1);
        x.cast(1, 0);
        String ahead = now(x);
        CHECK.due("book(0)", Check.book(x, "curtain;whisper c g;best;curtain;curtain;", 0), -1);
        int[] booked = {0, 5, 3, 7};
        for (int what = 0; what < 4; what++) {
            CHECK.due("booked(" + what + ")", x.booked(what), booked[what]);
        }
        CHECK.row("all stays", now(x), ahead);
        CHECK.due("as p", x.part(0, 2), 1);
        CHECK.due("c knows", x.man(2, 3), 0);
        CHECK.due("two can be undone", x.undo(), 1);
    }

    /** "or lived as far as it is not WRONG (1): the LINE that is WRONG; NONE: none" */
    private static void bookIsLivedAsFarAsItIsNotWrong() {
        RecastStage x = Check.stage(PLAY);
        CHECK.due("the first LINE", Check.book(x, "a as q;b as p;", 1), 0);
        CHECK.due("nothing is lived", x.now(3), 0);
        CHECK.due("booked(1)", x.booked(1), 0);
        CHECK.due("the second LINE", Check.book(x, "b as p;a as p;curtain;", 1), 1);
        CHECK.due("the first is lived", x.now(3), 2);
        CHECK.due("booked(1)", x.booked(1), 1);
        CHECK.due("the last of three", Check.book(x, "curtain;whisper b g;a as q;", 1), 2);
        CHECK.due("two are lived", x.now(0), 1);
        CHECK.due("two are lived", x.now(4), 1);
        CHECK.due("none", Check.book(x, "b as q;", 1), -1);
        CHECK.due("all are lived", x.part(1, 2), 1);
        CHECK.due("the 40th", Check.book(x, Check.times("best;", 39) + "a as p;", 1), 39);
        CHECK.due("booked(1)", x.booked(1), 39);
        CHECK.due("the latest of five", x.undo(), 4);
    }

    private static void wrong(int reason, String book, int line) {
        RecastStage x = Check.stage("part p 0;part q 3;part r 0;fact f;needs r f;man a 2 1;man b 3 2;man c 9 4;never c p;foes a b;"
                + "rest;act;scene p q;shows f;act;scene p q r;shows f;act;scene q;");
        CHECK.due("book(0) of " + book, Check.book(x, book, 0), line);
        CHECK.due("booked(0) of " + book, x.booked(0), reason);
        CHECK.due("booked(1) of " + book, x.booked(1), line);
    }

    /** "0 why it was WRONG (0: it was not; 1 to 10 as for casting; 11 ..; 12 ..; 13 ..)" */
    private static void bookIsWrongForEachReason() {
        wrong(2, "a as r;", 0);
        wrong(3, "c as p;", 0);
        wrong(4, "a as q;", 0);
        wrong(5, "a as p;c as q;curtain;a as p;", 3);
        wrong(5, "a as p;c as q;curtain;b as r;c as r;", 4);
        wrong(7, "b as p;b as q;", 1);
        wrong(8, "b as p;a as p;", 1);
        wrong(9, "a as p;b as q;", 1);
        wrong(11, "a as p;curtain;", 1);
        wrong(11, "curtain;", 0);
        wrong(12, "whisper a f;whisper a f;", 1);
        wrong(13, "a as p;c as q;curtain;best;", 3);
        RecastStage x = Check.stage("part p 0;part r 0;fact f;needs r f;man a 0 1;act;scene p r;act;");
        CHECK.due("6", Check.book(x, "a as r;", 0), 0);
        CHECK.due("6", x.booked(0), 6);
        RecastStage ill = Check.stage("part p 0;man a 0 1;act;scene p;");
        int seed = 0;
        while (ill.drawn(seed) != 0) {
            ill.undo();
            seed++;
        }
        CHECK.due("10", Check.book(ill, "a as p;", 1), 0);
        CHECK.due("10", ill.booked(0), 10);
        CHECK.due("13", Check.book(ill, "best;", 1), 0);
        CHECK.due("13", ill.booked(0), 13);
        RecastStage over = Check.stage("part p 0;fact f;man a 0 1;act;");
        CHECK.due("1", Check.book(over, "curtain;a as p;", 0), 1);
        CHECK.due("1", over.booked(0), 1);
        CHECK.due("11 when all are over", Check.book(over, "curtain;curtain;", 0), 1);
        CHECK.due("11", over.booked(0), 11);
        CHECK.due("12 when all are over", Check.book(over, "curtain;whisper a f;", 0), 1);
        CHECK.due("12", over.booked(0), 12);
        CHECK.due("13 when all are over", Check.book(over, "curtain;best;", 0), 1);
        CHECK.due("13", over.booked(0), 13);
        CHECK.due("0", Check.book(over, "curtain;", 0), -1);
        CHECK.due("0", over.booked(0), 0);
    }

    /** "-2 less the place of a FAULT"; "Of the latest book() that had no FAULT" */
    private static void bookWithAFault() {
        RecastStage x = Check.stage(PLAY);
        CHECK.due("a FAULT at 0", Check.book(x, "?", 1), -2);
        CHECK.due("a FAULT at 0 of lives 0", Check.book(x, "?", 0), -2);
        CHECK.due("ahead of any", x.booked(0), -1);
        CHECK.due("book(1)", Check.book(x, "a as p;curtain;", 1), -1);
        CHECK.due("a FAULT at 13", Check.book(x, "best;curtain;as", 1), -15);
        CHECK.due("nothing is lived", x.now(0), 1);
        int[] booked = {0, 2, 1, 5};
        for (int what = 0; what < 4; what++) {
            CHECK.due("booked(" + what + ")", x.booked(what), booked[what]);
        }
        CHECK.due("a FAULT at 400", Check.book(x, Check.times(" ", 401), 1), -402);
        CHECK.due("one can be undone", x.undo(), 0);
    }

    /** "booked: .. NONE: another what, or ahead of any" */
    private static void bookedOfAnotherWhat() {
        RecastStage x = Check.stage(PLAY);
        Check.book(x, "a as p;curtain;b as q;", 0);
        int[] booked = {6, 2, 1, 5};
        for (int what = 0; what < 4; what++) {
            CHECK.due("booked(" + what + ")", x.booked(what), booked[what]);
        }
        CHECK.due("one beyond", x.booked(4), -1);
        for (int k : NO_NUMBERS) {
            CHECK.due("booked(" + k + ")", x.booked(k), -1);
        }
    }

    private static void bookedAheadOfAny() {
        RecastStage x = Check.stage(PLAY);
        for (int what = -1; what < 5; what++) {
            CHECK.due("ahead of any", x.booked(what), -1);
        }
    }

    /** "('best': those of the BEST CAST are cast, whoever was.)" */
    private static void bestOfABook() {
        RecastStage x = Check.stage(PLAY);
        x.cast(1, 0);
        CHECK.due("'best' alone", Check.book(x, "best;", 1), -1);
        CHECK.due("a is cast", x.part(0, 2), 0);
        CHECK.due("b was", x.now(3), 1);
        CHECK.due("again", Check.book(x, "best;best;curtain;b as p;best;", 1), 4);
        CHECK.due("there is none: whoever was stays", x.part(0, 2), 1);
        CHECK.due("13", x.booked(0), 13);
    }

    /** "how many ONES (each not, bracket and other one); -1 less the place of a FAULT" */
    private static void sentenceOfNothing() {
        RecastStage x = Check.stage(PLAY);
        CHECK.due("no ONE", x.sentence(), -1);
        CHECK.due("fault()", x.fault(), 1);
        CHECK.due("there is no SENTENCE", x.said(-1), -1);
        CHECK.due("one ONE", Check.sentence(x, "plays"), 1);
        CHECK.due("a not is one", Check.sentence(x, "not plays"), 2);
        CHECK.due("a bracket is one", Check.sentence(x, "(plays)"), 2);
        CHECK.due("'and', 'or' are none", Check.sentence(x, "plays and plays or plays"), 3);
    }

    private static void sentenceWithAFaultStays() {
        RecastStage x = Check.stage(PLAY);
        CHECK.due("sentence()", Check.sentence(x, "number > 0"), 1);
        CHECK.due("a FAULT at 0", Check.sentence(x, "?"), -1);
        CHECK.due("a FAULT at 11", Check.sentence(x, "number = 0 ?"), -12);
        CHECK.due("a FAULT at 200", Check.sentence(x, "plays" + Check.times(" ", 196)), -201);
        CHECK.due("it stays", x.said(-1), 2);
        CHECK.due("b", x.said(0), 1);
        CHECK.due("c", x.said(1), 2);
        CHECK.due("a new one", Check.sentence(x, "number = 0"), 1);
        CHECK.due("it is the new one", x.said(-1), 1);
        CHECK.due("a", x.said(0), 0);
        CHECK.due("another PLAY with a FAULT", Check.play(x, "act"), -4);
        CHECK.due("it stays", x.said(-1), 1);
        CHECK.due("the same PLAY anew", Check.play(x, PLAY), 19);
        CHECK.due("no SENTENCE", x.said(-1), -1);
        CHECK.due("no SENTENCE", x.said(0), -1);
    }

    /** "how many (k NONE), or the k-th. NONE: there is no SENTENCE, none such" */
    private static void saidAtItsBounds() {
        StringBuilder men = new StringBuilder();
        for (int m = 0; m < 8; m++) {
            men.append("man ").append((char) ('a' + m)).append(" 0 1;");
        }
        RecastStage x = Check.stage(men.toString());
        CHECK.due("no SENTENCE", x.said(-1), -1);
        Check.sentence(x, "number < 99");
        CHECK.due("all", x.said(-1), 8);
        for (int k = 0; k < 8; k++) {
            CHECK.due("the k-th", x.said(k), k);
        }
        CHECK.due("one beyond", x.said(8), -1);
        CHECK.due("below NONE", x.said(-2), -1);
        CHECK.due("far below", x.said(Integer.MIN_VALUE), -1);
        CHECK.due("far beyond", x.said(Integer.MAX_VALUE), -1);
        Check.sentence(x, "number = 2 or number = 7");
        CHECK.due("two", x.said(-1), 2);
        CHECK.due("the first", x.said(0), 2);
        CHECK.due("the second", x.said(1), 7);
        CHECK.due("one beyond", x.said(2), -1);
    }

    private static void saidOfNone() {
        RecastStage x = Check.stage("man a 0 1;");
        Check.sentence(x, "plays");
        CHECK.due("nobody", x.said(-1), 0);
        CHECK.due("no first", x.said(0), -1);
        RecastStage none = new RecastStage();
        CHECK.due("no MEN", Check.sentence(none, "not plays"), 2);
        CHECK.due("nobody", none.said(-1), 0);
        CHECK.due("no first", none.said(0), -1);
    }

    /** "'rested' (was not in the ACT ahead) | .. | 'sure' (it can suspect one PART alone)" */
    private static void restedAndSure() {
        RecastStage x = Check.stage(PLAY);
        Check.sentence(x, "rested");
        CHECK.due("no ACT ahead", x.said(-1), 3);
        Check.book(x, "a as p;curtain;", 1);
        CHECK.due("b, c", x.said(-1), 2);
        CHECK.due("b", x.said(0), 1);
        Check.sentence(x, "sure");
        CHECK.due("all saw f", x.said(-1), 3);
        Check.sentence(x, "knows g or times = 1");
        CHECK.due("a", x.said(-1), 1);
        Check.book(x, "whisper c g;c as q;b as p;", 1);
        Check.sentence(x, "plays and knows g");
        CHECK.due("c", x.said(0), 2);
        CHECK.due("c alone", x.said(-1), 1);
        Check.book(x, "curtain;", 1);
        Check.sentence(x, "rested");
        CHECK.due("a was in the ACT ahead of that", x.said(0), 0);
        CHECK.due("a alone", x.said(-1), 1);
        Check.sentence(x, "plays");
        CHECK.due("nobody is cast now", x.said(-1), 0);
    }

    /** "SIGN: < = >" */
    private static void signsAtTheirBounds() {
        RecastStage x = Check.stage(PLAY);
        Check.book(x, "a as p;curtain;", 1);
        String[] texts = {"skill < 2", "skill < 3", "skill = 2", "skill = 3", "skill > 8", "skill > 9", "skill > 2", "times < 1",
            "times = 1", "times > 0", "times > 1", "claps < 1", "claps = 0", "claps > 0", "number < 1", "number = 2", "number > 2",
            "number > 1", "skill < 0", "number < 0", "skill < 10"};
        int[] due = {0, 1, 1, 1, 1, 0, 2, 2, 1, 1, 0, 3, 3, 0, 1, 1, 0, 1, 0, 0, 3};
        for (int k = 0; k < due.length; k++) {
            CHECK.due("sentence() of " + texts[k], Check.sentence(x, texts[k]), 1);
            CHECK.due("said(-1) of " + texts[k], x.said(-1), due[k]);
        }
    }

    private static void saidBy(RecastStage x, String text, int ones, int men) {
        CHECK.due("sentence() of " + text, Check.sentence(x, text), ones);
        CHECK.due("said(-1) of " + text, x.said(-1), men);
    }

    /** "20 ONES, 8 within one another": the last counts as the first does */
    private static void saidByTwentyOnes() {
        RecastStage x = Check.stage(PLAY);
        saidBy(x, Check.times("plays or ", 19) + "plays", 20, 0);
        saidBy(x, Check.times("plays or ", 19) + "rested", 20, 3);
        saidBy(x, "rested" + Check.times(" or plays", 19), 20, 3);
        saidBy(x, Check.times("not plays and ", 9) + "not plays", 20, 3);
        saidBy(x, Check.times("not plays and ", 9) + "not rested", 20, 0);
        saidBy(x, "not rested" + Check.times(" and not plays", 9), 20, 0);
        saidBy(x, Check.times("not ", 7) + "plays", 8, 3);
        saidBy(x, Check.times("not ", 6) + "plays", 7, 0);
        saidBy(x, Check.times("(", 7) + "plays or rested" + Check.times(")", 7), 9, 3);
        saidBy(x, Check.times("(", 7) + "plays and rested" + Check.times(")", 7), 9, 0);
        saidBy(x, "not (not (not (not plays or plays)))", 9, 0);
    }

    /** "image: .. false: no such one" */
    private static void imageInNoSuchPlace() {
        RecastStage x = Check.stage(PLAY);
        for (int k : NO_NUMBERS) {
            CHECK.due("image(" + k + ")", x.image(k), false);
            CHECK.due("restore(" + k + ")", x.restore(k), false);
        }
        CHECK.due("image(2)", x.image(2), false);
        CHECK.due("restore(2)", x.restore(2), false);
        CHECK.due("image(0)", x.image(0), true);
        CHECK.due("image(1)", x.image(1), true);
    }

    /** "restore: .. false: no such one, or nothing is kept there" */
    private static void restoreOfNothing() {
        RecastStage x = Check.stage(PLAY);
        x.cast(0, 0);
        CHECK.due("restore(0)", x.restore(0), false);
        CHECK.due("restore(1)", x.restore(1), false);
        CHECK.due("image(1)", x.image(1), true);
        CHECK.due("restore(0)", x.restore(0), false);
        CHECK.due("all stays", x.now(3), 1);
        CHECK.due("and can be undone", x.undo(), 0);
        CHECK.due("restore(1)", x.restore(1), true);
        CHECK.due("a is cast", x.now(3), 1);
        Check.play(x, "act;");
        CHECK.due("a new PLAY leaves what is kept", x.restore(1), true);
        CHECK.row("the PLAY", counts(x), "2 2 3 3 2 0 0");
    }

    /** "(the tape, and what other calls told last, stays; nothing can be undone)" */
    private static void restoreKeepsWhatOtherCallsTold() {
        RecastStage x = Check.stage(PLAY);
        x.image(0);
        Check.sentence(x, "sure");
        x.cast(1, 0);
        CHECK.due("best()", x.best(), 5);
        CHECK.due("prices()", x.prices(), 2);
        CHECK.due("book(1)", Check.book(x, "curtain;whisper a f;", 1), 1);
        CHECK.due("a FAULT", Check.sentence(x, "skill"), -6);
        Check.tape(x, "act;");
        CHECK.due("restore(0)", x.restore(0), true);
        CHECK.row("the EVENING is as kept", now(x), "0 0 0 0 0 0 0");
        CHECK.due("no SENTENCE was kept", x.said(-1), -1);
        CHECK.due("the tape stays", x.count(6), 4);
        CHECK.due("bestAs(0)", x.bestAs(0), 0);
        CHECK.due("price(0)", x.price(0), 1);
        CHECK.due("wants(0)", x.wants(0), 0);
        CHECK.due("booked(0)", x.booked(0), 12);
        CHECK.due("booked(2)", x.booked(2), 1);
        CHECK.due("fault()", x.fault(), 1);
        CHECK.due("nothing can be undone", x.undo(), -1);
        CHECK.due("the tape is a PLAY", x.play(), 1);
    }

    /** "PLAY, EVENING and SENTENCE are kept in place k (0, 1)" */
    private static void imagesAreApart() {
        RecastStage x = Check.stage(PLAY);
        Check.sentence(x, "number = 1");
        x.cast(0, 0);
        x.image(0);
        x.curtain();
        Check.sentence(x, "number > 1 or number = 0");
        x.image(1);
        Check.play(x, "act;rest;");
        x.restore(0);
        CHECK.row("the PLAY of 0", counts(x), "2 2 3 3 2 0 0");
        CHECK.row("the EVENING of 0", now(x), "0 0 0 1 0 0 0");
        CHECK.due("the SENTENCE of 0", x.said(-1), 1);
        x.drop(0);
        x.restore(1);
        CHECK.row("the EVENING of 1", now(x), "1 5 0 0 0 6 0");
        CHECK.due("the SENTENCE of 1", x.said(-1), 2);
        CHECK.due("what the MEN knew", x.man(0, 3), 1);
        CHECK.due("who played last", x.part(0, 3), 0);
        x.restore(0);
        CHECK.due("as it was kept, not as it was left", x.now(3), 1);
        x.curtain();
        x.image(0);
        x.restore(0);
        CHECK.row("kept anew", now(x), "1 5 0 0 0 6 0");
        CHECK.due("who is ill is kept, too", illIsKept(), true);
    }

    private static boolean illIsKept() {
        RecastStage x = Check.stage("part p 0;man a 0 1;act;scene p;");
        int seed = 0;
        while (x.drawn(seed) != 0) {
            x.undo();
            seed++;
        }
        x.image(1);
        x.undo();
        boolean well = x.why(0, 0) == 0;
        return well && x.restore(1) && x.man(0, 7) == 1 && x.why(0, 0) == 10;
    }

    /** "count: .. NONE for another what" */
    private static void countOfAnotherWhat() {
        RecastStage x = Check.stage(PLAY + "rest;");
        x.feed(0, 0, 0, 0, 0);
        CHECK.row("counts", counts(x), "2 2 3 3 2 1 20");
        CHECK.due("one beyond", x.count(7), -1);
        for (int k : NO_NUMBERS) {
            CHECK.due("count(" + k + ")", x.count(k), -1);
        }
    }

    /** "An object is used for at most 512 calls after it has been made" */
    private static void after512Calls() {
        RecastStage x = new RecastStage();
        // "part" " p 0" ";man" " a 0" " 1; "
        x.feed(0x70617274, 0x20702030, 0x3b6d616e, 0x20612030, 0x20313b20);
        // "act;" "scen" "e p;" and blanks
        x.feed(0x6163743b, 0x7363656e, 0x6520703b, 0x20202020, 0x20202020);
        CHECK.due("call 3", x.play(), 4);
        for (int call = 4; call <= 502; call++) {
            long got = call % 2 == 0 ? x.cast(0, 0) : x.drop(0);
            CHECK.due("call " + call, got, 0);
        }
        for (int call = 503; call <= 510; call++) {
            CHECK.due("call " + call, x.undo(), 510 - call);
        }
        CHECK.due("call 511", x.undo(), -1);
        CHECK.due("call 512", x.now(3), 1);
    }
}
