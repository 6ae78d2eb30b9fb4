/** Tape, PLAY and FAULTS: promises 1 to 9 and 42. */
public final class TextTest {
    private static final Check CHECK = new Check();

    public static void main(String[] args) {
        newObject();
        tape();
        tokens();
        faultsOfNames();
        faultsOfNumbers();
        faultsOfOrder();
        faultsOfPairs();
        tooMany();
        leastOfOneToken();
        mostBytes();
        playIsTold();
        playIsNew();
        faultIsLatest();
        CHECK.finish();
    }

    /** The text has its FAULT of this kind just where the mark ^ stands. */
    private static void fault(int kind, String marked) {
        int place = marked.indexOf('^');
        String text = marked.replace("^", "");
        RecastStage x = new RecastStage();
        CHECK.due("play() of " + marked, Check.play(x, text), -1 - place);
        CHECK.due("fault() of " + marked, x.fault(), kind);
        CHECK.due("the tape behind " + marked, x.count(6), 0);
    }

    private static void fine(int lines, String text) {
        RecastStage x = new RecastStage();
        CHECK.due("play() of " + text, Check.play(x, text), lines);
        CHECK.due("fault() of " + text, x.fault(), 0);
    }

    private static void newObject() {
        RecastStage x = new RecastStage();
        for (int what = 0; what < 7; what++) {
            CHECK.due("new count(" + what + ")", x.count(what), 0);
            CHECK.due("new now(" + what + ")", x.now(what), 0);
        }
        CHECK.due("new count(-1)", x.count(-1), -1);
        CHECK.due("new count(7)", x.count(7), -1);
        CHECK.due("new now(-1)", x.now(-1), -1);
        CHECK.due("new fault()", x.fault(), 0);
        CHECK.due("new part(0, 0)", x.part(0, 0), -1);
        CHECK.due("new act(0, 0)", x.act(0, 0), -1);
        CHECK.due("new scene(0, 0)", x.scene(0, 0), -1);
        CHECK.throwsNoSuch("new man(0, 0)", x, 0, 0);
        CHECK.due("play() of nothing", x.play(), 0);
    }

    private static void tape() {
        RecastStage x = new RecastStage();
        for (int k = 1; k <= 47; k++) {
            CHECK.due("feed " + k, x.feed(0x20202020, 0x20202020, 0x20202020, 0x20202020, 0x20202020), 20L * k);
        }
        CHECK.due("feed beyond 940", x.feed(0, 0, 0, 0, 0), -1);
        CHECK.due("none came", x.count(6), 940);
        CHECK.due("end(-1)", x.end(-1), false);
        CHECK.due("end(941)", x.end(941), false);
        CHECK.due("end(940)", x.end(940), true);
        CHECK.due("still all", x.count(6), 940);
        CHECK.due("end(921)", x.end(921), true);
        CHECK.due("feed at 921", x.feed(0, 0, 0, 0, 0), -1);
        CHECK.due("end(920)", x.end(920), true);
        CHECK.due("feed at 920", x.feed(0, 0, 0, 0, 0), 940);
        CHECK.due("end(0)", x.end(0), true);
        CHECK.due("end(1) of none", x.end(1), false);
        CHECK.due("end(Integer.MIN_VALUE)", x.end(Integer.MIN_VALUE), false);
        // "act;" "rest" ";act" "; \n " "act;": of each number the highest byte first
        CHECK.due("feed", x.feed(0x6163743b, 0x72657374, 0x3b616374, 0x3b200a20, 0x6163743b), 20);
        CHECK.due("play()", x.play(), 4);
        CHECK.due("acts", x.count(3), 3);
        CHECK.due("rest", x.count(5), 1);
    }

    private static void tokens() {
        fine(0, "");
        fine(0, " \n \n");
        fine(1, "act;");
        fine(2, " act \n;\nact ; ");
        fine(1, "part abcdefg 00;");
        fine(1, "part p 09;");
        fine(2, "part azaz 1;part zaza 1;");
        fine(3, "part a 1;part aa 1;part za 1;");
        fault(1, "part ^abcdefgh 0;");
        fault(1, "part ^p1 0;");
        fault(1, "part ^1p 0;");
        fault(1, "part p ^100;");
        fault(1, "part p ^0a;");
        fault(1, "part p^-1;");
        fault(1, "^Act;");
        fault(1, "act^\t;");
        fault(1, "act^\r;");
        fault(1, "act;^\u0000");
        fault(1, "act;^" + (char) 255);
        fault(1, "act^.");
        fault(1, "act^,");
        fault(1, "act^=;");
        fault(1, "^;");
        fault(1, "act;^;");
        fault(1, "^p;");
        fault(1, "^5;");
        fault(1, "^actact;");
        fault(1, "part^");
        fault(1, "part p^");
        fault(1, "part p 5^");
        fault(1, "part p 5  \n ^");
        fault(1, "act;part p 5 ^act;");
    }

    private static void faultsOfNames() {
        for (String word : ("part fact clears man act scene shows needs likes never foes rest as whisper curtain best or"
                + " and not plays rested knows sure skill times claps number").split(" ")) {
            fault(1, "part ^" + word + " 1;");
            fault(1, "fact ^" + word + ";");
            fault(1, "man ^" + word + " 1 1;");
            fault(1, "clears ^" + word + " p;");
        }
        fine(3, "part parts 1;fact facts;man men 1 1;");
        fault(3, "part p 1;part ^p 1;");
        fault(3, "part p 1;fact ^p;");
        fault(3, "fact p;man ^p 1 1;");
        fault(3, "man p 1 1;part ^p 1;");
        fault(3, "clears ^f p;fact f;part p 1;");
        fault(3, "fact f;clears f ^p;");
        fault(3, "part p 1;clears ^p p;");
        fault(3, "fact f;clears f ^f;");
        fault(3, "man m 1 1;needs ^m m;");
        fault(3, "part p 1;needs p ^p;");
        fault(3, "part p 1;act;scene p ^q;");
        fault(3, "part p 1;fact f;act;scene p ^f;");
        fault(3, "part p 1;act;scene p;shows ^p;");
        fault(3, "part p 1;likes ^p p 1;");
        fault(3, "man m 1 1;likes m ^m 1;");
        fault(3, "man m 1 1;never m ^p;");
        fault(3, "man m 1 1;foes m ^n;");
        fault(3, "man m 1 1;foes ^n m;");
        fault(1, "fact f;clears ^5 f;");
        fault(1, "fact f;clears f^;");
    }

    private static void faultsOfNumbers() {
        fine(2, "part p 0;part q 9;");
        fault(2, "part p ^10;");
        fault(2, "part p ^99;");
        fine(2, "man m 0 1;man n 9 9;");
        fault(2, "man m ^10 1;");
        fault(2, "man m 1 ^0;");
        fault(2, "man m 1 ^10;");
        fault(2, "man m 1 ^00;");
        fine(4, "part p 0;man m 0 1;man n 1 1;likes m p 9;");
        fault(2, "part p 0;man m 0 1;likes m p ^0;");
        fault(2, "part p 0;man m 0 1;likes m p ^10;");
        fault(1, "part p ^x;");
        fault(1, "man m 1^;");
        fault(1, "part p 0;man m 0 1;likes m p^;");
    }

    private static void faultsOfOrder() {
        fault(1, "part p 1;^scene p;act;");
        fault(1, "fact f;^shows f;");
        fault(1, "fact f;act;^shows f;");
        fault(1, "part p 1;fact f;act;scene p;act;^shows f;");
        fault(1, "part p 1;act;scene^;");
        fault(1, "part p 1;act;scene ^5;");
        fault(1, "part p 1;act;scene p ^act;");
        fine(7, "part p 1;fact f;act;scene p;shows f;act;scene p;");
        fine(8, "part p 1;fact f;act;scene p;shows f;scene p;shows f;rest;");
    }

    private static void faultsOfPairs() {
        String head = "part p 1;part q 1;fact f;fact g;man m 1 1;man n 1 1;act;";
        fine(11, head + "clears f p;clears f q;clears g p;clears g q;");
        fault(3, head + "clears f p;clears f ^p;");
        fine(10, head + "needs p f;needs p g;needs q f;");
        fault(3, head + "needs p f;needs q f;needs p ^f;");
        fine(9, head + "likes m p 1;likes n p 1;");
        fault(3, head + "likes m p 1;likes m ^p 10;");
        fault(3, head + "never m p;never m ^p;");
        fine(8, head + "foes m n;");
        fault(3, head + "foes m n;foes m ^n;");
        fault(3, head + "foes m n;foes n ^m;");
        fault(3, head + "foes m ^m;");
        fault(3, head + "scene p q ^p;");
        fault(3, head + "scene p;shows f;shows ^f;");
        fault(3, head + "rest;^rest;");
        fault(3, head + "rest;^rest");
    }

    private static void tooMany() {
        fault(4, "part a 1;part b 1;part c 1;part d 1;part e 1;part f 1;^part;");
        fault(4, "fact a;fact b;fact c;fact d;fact e;fact f;^fact a;");
        fault(4, "man a 1 1;man b 1 1;man c 1 1;man d 1 1;man e 1 1;man f 1 1;man g 1 1;man h 1 1;^man i 10;");
        fine(6, "act;act;act;act;act;act;");
        fault(4, "act;act;act;act;act;act;^act");
        fine(14, "part p 1;act;" + Check.times("scene p;", 12));
        fault(4, "part p 1;act;" + Check.times("scene p;", 12) + "^scene;");
        fault(4, "part p 1;act;" + Check.times("scene p;", 12) + "act;^scene p;");
        fine(8, "part a 1;part b 1;part c 1;part d 1;part e 1;part f 1;act;scene a b c d e f;");
        fault(3, "part a 1;part b 1;part c 1;part d 1;part e 1;part f 1;act;scene a b c d e f ^a;");
    }

    private static void leastOfOneToken() {
        fault(1, "^scene p;" + Check.times("act;", 7));
        fault(4, "act;act;act;act;act;act;^act ?");
    }

    private static void mostBytes() {
        String full = "act;" + Check.times(" ", 896);
        fine(1, full);
        fault(1, full + "^ ");
        fault(1, full + "^\n");
        fault(1, full + "^act;");
        fault(1, full + "^;");
        String tail = "act;" + Check.times(" ", 892);
        fine(2, tail + "act;");
        fault(1, tail + " act^;");
        fault(1, "act;" + Check.times(" ", 893) + "^actual;");
        // a word that begins ahead of the 900th byte is read whole, so it is a FAULT of its own or none
        fault(1, "act;" + Check.times(" ", 894) + "re^st;");
        fault(1, "act;" + Check.times(" ", 894) + "^rested;");
        fault(3, "rest;" + Check.times(" ", 893) + "^rest;");
        fault(1, "rest;" + Check.times(" ", 895) + "^rest;");
        fault(1, "part p 1;" + Check.times(" ", 890) + "a^ct;");
        fault(1, "part p" + Check.times(" ", 893) + "^123;");
        fault(2, "part p" + Check.times(" ", 893) + "^12;");
        fault(1, "part p" + Check.times(" ", 893) + "0^1;");
        fault(1, Check.times(" ", 900) + "^ ");
        fault(1, "^" + Check.times("x", 940));
    }

    private static final String TOLD = "part king 5;part maid 2;fact key;fact cup;clears key maid;clears cup king;"
            + "man ann 6 2;man bob 5 3;act;scene king maid;shows key;scene maid;act;act;scene maid;shows cup;shows key;"
            + "needs king key;needs king cup;likes ann king 4;never bob maid;foes ann bob;";

    private static void playIsTold() {
        RecastStage x = new RecastStage();
        CHECK.due("play()", Check.play(x, TOLD), 22);
        int[] counts = {2, 2, 2, 3, 3, 0, 0, -1};
        for (int what = 0; what < counts.length; what++) {
            CHECK.due("count(" + what + ")", x.count(what), counts[what]);
        }
        int[][] parts = {{5, 3, -1, -1, 1, -1}, {2, 0, -1, -1, 5, -1}};
        int[][] men = {{6, 2, -1, 0, 0, 0, 0, 0}, {5, 3, -1, 0, 0, 0, 0, 0}};
        int[][] acts = {{2, 3, 1, -1}, {0, 0, 0, -1}, {1, 2, 3, -1}};
        int[][] scenes = {{0, 3, 1, -1}, {0, 2, 0, -1}, {2, 2, 3, -1}};
        for (int k = 0; k < 3; k++) {
            for (int what = 0; what < 8; what++) {
                if (k < 2 && what < 6) {
                    CHECK.due("part(" + k + ", " + what + ")", x.part(k, what), parts[k][what]);
                }
                if (k < 2) {
                    CHECK.due("man(" + k + ", " + what + ")", x.man(k, what), men[k][what]);
                }
                if (what < 4) {
                    CHECK.due("act(" + k + ", " + what + ")", x.act(k, what), acts[k][what]);
                    CHECK.due("scene(" + k + ", " + what + ")", x.scene(k, what), scenes[k][what]);
                }
            }
        }
        int[] beyond = {-1, 3, Integer.MAX_VALUE, Integer.MIN_VALUE};
        for (int k : beyond) {
            CHECK.due("part(" + k + ", 0)", x.part(k, 0), -1);
            CHECK.due("act(" + k + ", 0)", x.act(k, 0), -1);
            CHECK.due("scene(" + k + ", 0)", x.scene(k, 0), -1);
            CHECK.throwsNoSuch("man(" + k + ", 0)", x, k, 0);
        }
        CHECK.due("part(2, 0)", x.part(2, 0), -1);
        CHECK.due("part(0, -1)", x.part(0, -1), -1);
        CHECK.due("act(0, -1)", x.act(0, -1), -1);
        CHECK.due("scene(0, -1)", x.scene(0, -1), -1);
        CHECK.throwsNoSuch("man(0, -1)", x, 0, -1);
        CHECK.throwsNoSuch("man(0, 8)", x, 0, 8);
        CHECK.throwsNoSuch("man(2, 0)", x, 2, 0);
    }

    /** Nothing of a PLAY ahead, or of one with a FAULT, is left in a new one. */
    private static void playIsNew() {
        RecastStage x = Check.stage(TOLD);
        Check.play(x, "rest;" + TOLD + "act;act;act;act;");
        CHECK.due("too many ACTS", x.fault(), 4);
        CHECK.due("a new PLAY", Check.play(x, "part king 5;part maid 2;fact key;fact cup;man ann 6 2;man bob 6 3;act;"
                + "scene king maid;"), 8);
        CHECK.due("needs", x.part(0, 1), 0);
        CHECK.due("rest", x.count(5), 0);
        CHECK.due("FACTS of the ACT", x.act(0, 2), 0);
        CHECK.due("no foes, none who never plays", x.casts(), 2);
        CHECK.due("no likings", x.best(), 0);
        x.whisper(0, 0);
        CHECK.due("key clears nobody", x.suspects(0), 3);
        CHECK.due("the pairs can be told anew", Check.play(x, TOLD), 22);
    }

    private static void faultIsLatest() {
        RecastStage x = Check.stage(TOLD);
        x.cast(0, 1);
        CHECK.due("a play with a FAULT", Check.play(x, "act;rest;rest;"), -10);
        CHECK.due("its kind", x.fault(), 3);
        CHECK.due("the PLAY stays", x.count(3), 3);
        CHECK.due("the EVENING stays", x.now(3), 1);
        CHECK.due("what can be undone stays", x.undo(), 0);
        CHECK.due("a book with a FAULT", Check.book(x, "best;as", 0), -7);
        CHECK.due("its kind", x.fault(), 1);
        CHECK.due("another lives", x.book(2), -1000);
        CHECK.due("the kind stays", x.fault(), 1);
        CHECK.due("a sentence with a FAULT", Check.sentence(x, "skill > x"), -9);
        CHECK.due("its kind", x.fault(), 1);
        CHECK.due("a sentence", Check.sentence(x, "plays"), 1);
        CHECK.due("no FAULT", x.fault(), 0);
        CHECK.due("a sentence with a FAULT", Check.sentence(x, "knows x"), -7);
        CHECK.due("its kind", x.fault(), 3);
        CHECK.due("a book", Check.book(x, "", 0), -1);
        CHECK.due("no FAULT", x.fault(), 0);
        CHECK.due("a new PLAY", Check.play(x, "act;rest;"), 2);
        CHECK.due("PARTS of it", x.count(0), 0);
        CHECK.due("ACTS of it", x.count(3), 1);
        CHECK.due("no SENTENCE", x.said(-1), -1);
    }
}
