/**
 * The document's promises in their order, a function for each, the promise's words above it: ordinary inputs, the edges
 * that it names, wrong inputs. What is due was worked out by hand from the document, most of it for one PLAY.
 */
public final class PromiseTest {
    private static final Check CHECK = new Check();
    private static final int MAX = Integer.MAX_VALUE;
    private static final int MIN = Integer.MIN_VALUE;

    // 30 LINES; ACT 0 is king and fool in one SCENE, ACT 1 king and maid in two, ACT 2 both in one.
    private static final String CASTING = "part king 5;part fool 2;part maid 0;fact knife;fact glove;"
            + "clears knife fool;clears glove maid;man ann 7 3;man bob 5 2;man cid 2 9;man dan 9 1;"
            + "act;scene king fool;shows knife;act;scene king;shows glove;scene maid;act;scene king maid;"
            + "needs maid knife;likes ann king 4;likes bob king 6;likes bob fool 3;likes cid fool 5;likes cid maid 2;"
            + "likes dan maid 7;never dan king;foes ann cid;rest;";
    private static final int ANN = 0;
    private static final int BOB = 1;
    private static final int CID = 2;
    private static final int DAN = 3;
    private static final int KING = 0;
    private static final int FOOL = 1;
    private static final int MAID = 2;
    private static final int KNIFE = 0;
    private static final int GLOVE = 1;

    public static void main(String[] args) {
        promises1To9();
        promises10To16();
        promises17To24();
        promises25To33();
        promises34To42();
        CHECK.finish();
    }

    private static void promises1To9() {
        promise1();
        promise2();
        promise3();
        promise4();
        promise5();
        promise6();
        promise7();
        promise8();
        promise9();
    }

    private static void promises10To16() {
        promise10();
        promise11();
        promise12();
        promise13();
        promise14();
        promise15();
        promise16();
    }

    private static void promises17To24() {
        promise17();
        promise18();
        promise19();
        promise20();
        promise21();
        promise22();
        promise23();
        promise24();
    }

    private static void promises25To33() {
        promise25();
        promise26();
        promise27();
        promise28();
        promise29();
        promise30();
        promise31();
        promise32();
        promise33();
    }

    private static void promises34To42() {
        promise34();
        promise35();
        promise36();
        promise37();
        promise38();
        promise39();
        promise40();
        promise41();
        promise42();
    }

    private static RecastStage stage() {
        return Check.stage(CASTING);
    }

    // Behind ACT 0, which bob and cid played as king and fool.
    private static RecastStage stageInAct1() {
        RecastStage x = stage();
        x.cast(BOB, KING);
        x.cast(CID, FOOL);
        x.curtain();
        return x;
    }

    // Behind ACT 1, which ann and dan played as king and maid.
    private static RecastStage stageInAct2() {
        RecastStage x = stageInAct1();
        x.cast(ANN, KING);
        x.cast(DAN, MAID);
        x.curtain();
        return x;
    }

    private static RecastStage stageOver() {
        RecastStage x = stageInAct2();
        x.cast(BOB, KING);
        x.cast(CID, MAID);
        x.curtain();
        return x;
    }

    private static String parts(RecastStage x, int what) {
        StringBuilder row = new StringBuilder();
        for (int p = 0; p < x.count(0); p++) {
            row.append(p == 0 ? "" : " ").append(x.part(p, what));
        }
        return row.toString();
    }

    private static String men(RecastStage x, int what) {
        StringBuilder row = new StringBuilder();
        for (int m = 0; m < x.count(2); m++) {
            row.append(m == 0 ? "" : " ").append(x.man(m, what));
        }
        return row.toString();
    }

    private static String now(RecastStage x) {
        StringBuilder row = new StringBuilder();
        for (int what = 0; what <= 6; what++) {
            row.append(what == 0 ? "" : " ").append(x.now(what));
        }
        return row.toString();
    }

    private static String counts(RecastStage x) {
        StringBuilder row = new StringBuilder();
        for (int what = 0; what <= 6; what++) {
            row.append(what == 0 ? "" : " ").append(x.count(what));
        }
        return row.toString();
    }

    /** "An empty PLAY; an empty tape." */
    private static void promise1() {
        RecastStage x = new RecastStage();
        CHECK.row("counts of a new object", counts(x), "0 0 0 0 0 0 0");
        CHECK.row("now of a new object", now(x), "0 0 0 0 0 0 0");
        CHECK.due("fault() of a new object", x.fault(), 0);
        CHECK.due("undo() of a new object", x.undo(), -1);
        CHECK.due("said() of a new object", x.said(RecastStage.NONE), -1);
        CHECK.due("restore() of a new object", x.restore(0), false);
        RecastStage other = stage();
        CHECK.due("a second object has its own PLAY", other.count(0), 3);
        CHECK.due("the first is empty still", x.count(0), 0);
    }

    /** "Twenty bytes come behind the tape, of each number the highest first: how many it has; NONE .. more than 940." */
    private static void promise2() {
        RecastStage x = new RecastStage();
        CHECK.due("act;act;rest;act;act;", x.feed(0x6163743b, 0x6163743b, 0x72657374, 0x3b616374, 0x3b616374), 20);
        CHECK.due("; and blanks", x.feed(0x3b202020, 0x0a0a0a0a, 0x20202020, 0x20202020, 0x20202020), 40);
        CHECK.due("LINES of both", x.play(), 5);
        CHECK.due("ACTS of both", x.count(3), 4);
        for (int n = 20; n <= 940; n += 20) {
            CHECK.due("feed", x.feed(0, 0, 0, 0, 0), n);
        }
        CHECK.due("feed beyond 940", x.feed(0, 0, 0, 0, 0), -1);
        CHECK.due("none came", x.count(6), 940);
        x.end(921);
        CHECK.due("feed to 941", x.feed(0, 0, 0, 0, 0), -1);
        x.end(920);
        CHECK.due("feed to 940", x.feed(0, 0, 0, 0, 0), 940);
        x.end(0);
        CHECK.due("feed of bytes above 127", x.feed(-1, 0x80808080, MIN, MAX, 0), 20);
        CHECK.due("they are no TOKENS", x.play(), -1);
        CHECK.due("kind", x.fault(), 1);
    }

    /** "The tape has its first n bytes alone: true; false, if it has not so many, or n is below 0." */
    private static void promise3() {
        RecastStage x = new RecastStage();
        CHECK.due("end(0) of an empty tape", x.end(0), true);
        CHECK.due("end(1) of an empty tape", x.end(1), false);
        x.feed(0x6163743b, 0x6163743b, 0, 0, 0);
        CHECK.due("end(21)", x.end(21), false);
        CHECK.due("end(-1)", x.end(-1), false);
        CHECK.due("end(MIN)", x.end(MIN), false);
        CHECK.due("end(MAX)", x.end(MAX), false);
        CHECK.due("all are there", x.count(6), 20);
        CHECK.due("end(20)", x.end(20), true);
        CHECK.due("end(8)", x.end(8), true);
        CHECK.due("end(9) then", x.end(9), false);
        CHECK.due("bytes", x.count(6), 8);
        CHECK.due("the first 8", x.play(), 2);
    }

    /** "The tape (empty then, here and below) is the PLAY now: how many LINES; -1 less the place of a FAULT: it stays." */
    private static void promise4() {
        RecastStage x = new RecastStage();
        CHECK.due("play()", Check.play(x, CASTING), 30);
        CHECK.row("counts", counts(x), "3 2 4 3 4 1 0");
        CHECK.due("a FAULT at 7", Check.play(x, "part p 10;"), -8);
        CHECK.row("the PLAY stays, the tape is empty", counts(x), "3 2 4 3 4 1 0");
        CHECK.due("a FAULT at the end", Check.play(x, "act"), -4);
        CHECK.due("a FAULT at 0", Check.play(x, ";"), -1);
        CHECK.due("no LINES", Check.play(x, " \n "), 0);
        CHECK.row("an empty PLAY", counts(x), "0 0 0 0 0 0 0");
        RecastStage y = stageInAct1();
        y.whisper(ANN, GLOVE);
        Check.sentence(y, "plays");
        CHECK.due("the PLAY once more", Check.play(y, CASTING), 30);
        CHECK.row("ACT 0 is next", now(y), "0 0 0 0 0 0 0");
        CHECK.row("nobody knows anything", men(y, 3), "0 0 0 0");
        CHECK.row("nobody was in an ACT", men(y, 6), "0 0 0 0");
        CHECK.due("no SENTENCE", y.said(RecastStage.NONE), -1);
    }

    /** "The kind of the FAULT of the latest play(), book() or sentence() (a book() of -1000 leaves it); 0 without one .." */
    private static void promise5() {
        RecastStage x = stage();
        CHECK.due("of a PLAY without", x.fault(), 0);
        Check.play(x, "part p p;");
        CHECK.due("1: can't come", x.fault(), 1);
        Check.play(x, "man m 3 0;");
        CHECK.due("2: a NUMBER", x.fault(), 2);
        Check.play(x, "fact f;part f 0;");
        CHECK.due("3: a NAME told twice", x.fault(), 3);
        Check.play(x, Check.times("act;", 7));
        CHECK.due("4: a seventh ACT", x.fault(), 4);
        x.book(2);
        CHECK.due("book() of -1000 leaves it", x.fault(), 4);
        Check.book(x, "curtain;", 0);
        CHECK.due("0 of a BOOK that is WRONG", x.fault(), 0);
        Check.book(x, "ann as zed;", 0);
        CHECK.due("3 of a BOOK", x.fault(), 3);
        Check.sentence(x, "sure");
        CHECK.due("0 of a SENTENCE", x.fault(), 0);
        Check.sentence(x, "sure and");
        CHECK.due("1 of a SENTENCE", x.fault(), 1);
    }

    /** "Of a PART: 0 SKILL, 1 FACTS that it needs, 2 who is cast as it, 3 who played it last, 4 ACTS in which it is .." */
    private static void promise6() {
        RecastStage x = stage();
        CHECK.row("SKILLS", parts(x, 0), "5 2 0");
        CHECK.row("FACTS", parts(x, 1), "0 0 1");
        CHECK.row("nobody is cast", parts(x, 2), "-1 -1 -1");
        CHECK.row("nobody played", parts(x, 3), "-1 -1 -1");
        CHECK.row("ACTS", parts(x, 4), "7 1 6");
        x.cast(BOB, KING);
        CHECK.row("bob is cast", parts(x, 2), "1 -1 -1");
        CHECK.row("who played last", parts(stageInAct1(), 3), "1 2 -1");
        CHECK.row("nobody is cast then", parts(stageInAct1(), 2), "-1 -1 -1");
        CHECK.row("who played last behind ACT 1", parts(stageInAct2(), 3), "0 2 3");
        int[][] none = {{-1, 0}, {3, 0}, {MAX, 0}, {MIN, 0}, {0, -1}, {0, 5}, {0, MAX}};
        for (int[] pair : none) {
            CHECK.due("part of no such ones", x.part(pair[0], pair[1]), -1);
        }
    }

    /** "Of a MAN: 0 SKILL, 1 SEAT, 2 the PART .., 3 FACTS .., 4 how often he played, 5 claps .., 6 .., 7 .. ill" */
    private static void promise7() {
        RecastStage x = stage();
        CHECK.row("SKILLS", men(x, 0), "7 5 2 9");
        CHECK.row("SEATS", men(x, 1), "3 2 9 1");
        x.cast(BOB, FOOL);
        CHECK.row("as which he is cast", men(x, 2), "-1 1 -1 -1");
        RecastStage y = stageInAct2();
        CHECK.row("FACTS: dan's SCENE showed no glove", men(y, 3), "3 3 3 1");
        CHECK.row("how often", men(y, 4), "1 1 1 1");
        CHECK.row("claps: ann for bob, bob for ann, cid for dan", men(y, 5), "1 1 0 1");
        CHECK.row("in the ACT ahead", men(y, 6), "1 0 0 1");
        CHECK.row("nobody ill", men(y, 7), "0 0 0 0");
        x.drawn(0);
        CHECK.row("ill by a draw", men(x, 7), "1 1 0 0");
        int[][] none = {{-1, 0}, {4, 0}, {MAX, 0}, {MIN, 0}, {0, -1}, {0, 8}, {0, MAX}, {-1, -1}};
        for (int[] pair : none) {
            CHECK.throwsNoSuch("man of no such ones", x, pair[0], pair[1]);
        }
        CHECK.row("a call that throws changes nothing", men(x, 7), "1 1 0 0");
    }

    /** "Of an ACT: 0 SCENES, 1 PARTS in it, as bits, 2 FACTS shown in it, as bits. NONE: no such ones." */
    private static void promise8() {
        RecastStage x = stage();
        int[][] due = {{1, 3, 1}, {2, 5, 2}, {1, 5, 0}};
        for (int a = 0; a < 3; a++) {
            for (int what = 0; what < 3; what++) {
                CHECK.due("act", x.act(a, what), due[a][what]);
            }
        }
        int[][] none = {{-1, 0}, {3, 0}, {MAX, 1}, {MIN, 2}, {0, -1}, {0, 3}, {0, MIN}};
        for (int[] pair : none) {
            CHECK.due("act of no such ones", x.act(pair[0], pair[1]), -1);
        }
        RecastStage y = Check.stage("act;");
        CHECK.due("an ACT without SCENES", y.act(0, 0), 0);
        CHECK.due("without PARTS", y.act(0, 1), 0);
        CHECK.due("without FACTS", y.act(0, 2), 0);
    }

    /** "Of a SCENE: 0 the ACT, 1 PARTS, 2 FACTS, as bits. NONE: no such ones." */
    private static void promise9() {
        RecastStage x = stage();
        int[][] due = {{0, 3, 1}, {1, 1, 2}, {1, 4, 0}, {2, 5, 0}};
        for (int s = 0; s < 4; s++) {
            for (int what = 0; what < 3; what++) {
                CHECK.due("scene", x.scene(s, what), due[s][what]);
            }
        }
        int[][] none = {{-1, 0}, {4, 0}, {MAX, 1}, {MIN, 2}, {0, -1}, {0, 3}, {0, MAX}};
        for (int[] pair : none) {
            CHECK.due("scene of no such ones", x.scene(pair[0], pair[1]), -1);
        }
    }

    /** "0 the next ACT .., 1 JOY so far, 2 LOSS so far, 3 MEN cast now, 4 whispers so far, 5 money .., 6 claps so far." */
    private static void promise10() {
        CHECK.row("at first", now(stage()), "0 0 0 0 0 0 0");
        RecastStage x = stageInAct1();
        CHECK.row("ann claps, dan likes neither", now(x), "1 11 0 0 0 4 1");
        x.cast(ANN, KING);
        x.whisper(CID, GLOVE);
        CHECK.row("cast and whispered", now(x), "1 11 0 1 1 4 1");
        CHECK.row("behind ACT 1: from bob to ann", now(stageInAct2()), "2 22 2 0 0 15 3");
        CHECK.row("all are over", now(stageOver()), "3 30 11 0 0 19 5");
        for (int what : new int[] {-1, 7, MAX, MIN}) {
            CHECK.due("now of another what", x.now(what), -1);
        }
    }

    /** "Why a MAN can't be cast as a PART (0: he can); NONE: no such ones." */
    private static void promise11() {
        RecastStage x = stage();
        CHECK.due("he can", x.why(ANN, KING), 0);
        CHECK.due("his SKILL is just that", x.why(BOB, KING), 0);
        CHECK.due("2: not in the ACT", x.why(DAN, MAID), 2);
        CHECK.due("3: never", x.why(DAN, KING), 3);
        CHECK.due("4: SKILL", x.why(CID, KING), 4);
        x.cast(ANN, KING);
        CHECK.due("7: he is cast", x.why(ANN, FOOL), 7);
        CHECK.due("8: the PART is", x.why(BOB, KING), 8);
        CHECK.due("9: a foe", x.why(CID, FOOL), 9);
        CHECK.due("5: by 'rest'", stageInAct1().why(BOB, KING), 5);
        CHECK.due("1: all are over", stageOver().why(ANN, KING), 1);
        RecastStage y = Check.stage("part p 0;fact f;man a 0 1;act;scene p;needs p f;");
        CHECK.due("6: a FACT", y.why(0, 0), 6);
        x.drop(KING);
        x.drawn(0);
        CHECK.due("10: ill", x.why(ANN, KING), 10);
        int[][] none = {{-1, 0}, {4, 0}, {0, -1}, {0, 3}, {MAX, MAX}, {MIN, MIN}};
        for (int[] pair : none) {
            CHECK.due("why of no such ones", x.why(pair[0], pair[1]), -1);
        }
    }

    /** "A MAN is cast: 0, or why not; NONE: no such ones." */
    private static void promise12() {
        RecastStage x = stage();
        CHECK.due("can't be", x.cast(CID, KING), 4);
        CHECK.due("nobody is", x.now(3), 0);
        CHECK.due("he is cast", x.cast(ANN, KING), 0);
        CHECK.due("a foe", x.cast(CID, FOOL), 9);
        CHECK.due("once more", x.cast(ANN, KING), 7);
        CHECK.due("he is", x.now(3), 1);
        CHECK.due("as king", x.man(ANN, 2), KING);
        RecastStage y = stageInAct1();
        y.cast(ANN, KING);
        y.drop(KING);
        CHECK.due("by rest", y.cast(CID, MAID), 5);
        int[][] none = {{-1, 0}, {4, 0}, {0, -1}, {0, 3}, {MAX, 0}, {0, MIN}};
        for (int[] pair : none) {
            CHECK.due("cast of no such ones", x.cast(pair[0], pair[1]), -1);
        }
        CHECK.due("one can be undone", x.undo(), 0);
    }

    /** "A PART is given back: who was cast as it; NONE: nobody, no such one." */
    private static void promise13() {
        RecastStage x = stage();
        x.cast(BOB, KING);
        x.cast(CID, FOOL);
        CHECK.due("who was", x.drop(FOOL), CID);
        CHECK.due("nobody is now", x.drop(FOOL), -1);
        CHECK.due("bob is still", x.now(3), 2);
        CHECK.due("not in the ACT", x.drop(MAID), -1);
        for (int p : new int[] {-1, 3, MAX, MIN}) {
            CHECK.due("drop of no such one", x.drop(p), -1);
        }
        CHECK.due("cid can be again", x.cast(CID, FOOL), 0);
    }

    /** "CURTAIN: the next ACT then; NONE: not all are cast, all are over." */
    private static void promise14() {
        RecastStage x = stage();
        CHECK.due("nobody is cast", x.curtain(), -1);
        x.cast(BOB, KING);
        CHECK.due("not all are", x.curtain(), -1);
        CHECK.due("bob is still", x.now(3), 2);
        x.cast(CID, FOOL);
        CHECK.due("all are", x.curtain(), 1);
        CHECK.due("nobody is then", x.now(3), 0);
        CHECK.due("all are over", stageOver().curtain(), -1);
        CHECK.due("an ACT without PARTS", Check.stage("act;").curtain(), 1);
        CHECK.due("no ACT", new RecastStage().curtain(), -1);
        RecastStage y = Check.stage("part p 0;fact f;fact g;man a 0 1;man b 0 1;act;scene p;shows g;needs p f;");
        y.drawn(11);
        CHECK.row("a is ill", men(y, 7), "1 0");
        y.whisper(1, 0);
        y.cast(1, 0);
        CHECK.due("b plays", y.curtain(), 1);
        CHECK.row("nobody is ill behind it", men(y, 7), "0 0");
        CHECK.row("an ill one learns, too", men(y, 3), "2 3");
    }

    /** "WHISPER: true; false: no such ones, he knows it, all are over." */
    private static void promise15() {
        RecastStage x = stage();
        CHECK.due("whisper", x.whisper(DAN, GLOVE), true);
        CHECK.due("he knows it", x.whisper(DAN, GLOVE), false);
        CHECK.row("who knows", men(x, 3), "0 0 0 2");
        CHECK.due("one so far", x.now(4), 1);
        CHECK.due("shown to him", stageInAct1().whisper(DAN, KNIFE), false);
        CHECK.due("all are over", stageOver().whisper(DAN, GLOVE), false);
        int[][] none = {{-1, 0}, {4, 0}, {0, -1}, {0, 2}, {MAX, 0}, {0, MIN}};
        for (int[] pair : none) {
            CHECK.due("whisper of no such ones", x.whisper(pair[0], pair[1]), false);
        }
        CHECK.due("one still", x.now(4), 1);
    }

    /** "The latest .. is undone: how many more can be (8 at most are kept); NONE: none is." */
    private static void promise16() {
        RecastStage x = stage();
        CHECK.due("ahead of any", x.undo(), -1);
        x.cast(BOB, KING);
        x.cast(ANN, KING);
        x.whisper(DAN, GLOVE);
        x.whisper(DAN, GLOVE);
        x.drop(KING);
        x.drop(KING);
        x.curtain();
        Check.book(x, "best;curtain;", 0);
        Check.book(x, "best;curtain;", 1);
        CHECK.due("dan is ill at once", x.drawn(8), 0);
        CHECK.row("and stays so", men(x, 7), "0 0 0 1");
        CHECK.due("the draw is undone", x.undo(), 4);
        CHECK.row("ACT 1 is next", now(x), "1 11 0 0 1 4 1");
        CHECK.row("nobody is ill", men(x, 7), "0 0 0 0");
        CHECK.due("the BOOK is", x.undo(), 3);
        CHECK.row("who knows", men(x, 3), "0 0 0 2");
        CHECK.due("the drop is", x.undo(), 2);
        CHECK.due("bob is cast", x.now(3), 2);
        CHECK.due("the whisper is", x.undo(), 1);
        CHECK.due("none so far", x.now(4), 0);
        CHECK.due("the cast is", x.undo(), 0);
        CHECK.due("nobody is", x.now(3), 0);
        CHECK.due("none is", x.undo(), -1);
        for (int k = 0; k < 5; k++) {
            x.cast(BOB, KING);
            x.drop(KING);
        }
        for (int k = 7; k >= -1; k--) {
            CHECK.due("of ten, 8", x.undo(), k);
        }
        RecastStage y = stageInAct1();
        CHECK.due("a CURTAIN is undone", y.undo(), 2);
        CHECK.row("all are cast again", parts(y, 2), "1 2 -1");
    }

    /** "The BEST CAST: JOY; NONE: there is none, all are over." */
    private static void promise17() {
        RecastStage x = stage();
        CHECK.due("bob and cid", x.best(), 11);
        x.cast(ANN, KING);
        CHECK.due("who is cast is of no matter", x.best(), 11);
        CHECK.due("ann is cast still", x.now(3), 1);
        CHECK.due("by 'rest' ann and dan", stageInAct1().best(), 11);
        CHECK.due("bob and cid in ACT 2", stageInAct2().best(), 8);
        CHECK.due("all are over", stageOver().best(), -1);
        CHECK.due("nobody can", Check.stage("part p 1;man a 0 1;act;scene p;").best(), -1);
        CHECK.due("no PARTS", Check.stage("act;").best(), 0);
        x.drop(KING);
        x.drawn(0);
        CHECK.due("ann and bob are ill", x.best(), -1);
    }

    /** "Who is cast as a PART by the latest best() that was not NONE; NONE: nobody, no such one, or ahead of any." */
    private static void promise18() {
        RecastStage x = stage();
        CHECK.due("ahead of any", x.bestAs(KING), -1);
        x.best();
        CHECK.due("king", x.bestAs(KING), BOB);
        CHECK.due("fool", x.bestAs(FOOL), CID);
        CHECK.due("nobody", x.bestAs(MAID), -1);
        for (int p : new int[] {-1, 3, MAX, MIN}) {
            CHECK.due("bestAs of no such one", x.bestAs(p), -1);
        }
        x.drawn(0);
        x.best();
        CHECK.due("a best() of NONE leaves it", x.bestAs(FOOL), CID);
        RecastStage y = Check.stage("part p 0;part q 0;man a 0 1;man b 0 1;act;scene p q;");
        y.best();
        CHECK.due("of like ones the first", y.bestAs(0), 0);
        CHECK.due("and the other", y.bestAs(1), 1);
    }

    /** "CASTS that there are (0: none; all over, too)." */
    private static void promise19() {
        RecastStage x = stage();
        CHECK.due("ab ad ba bc bd", x.casts(), 5);
        x.cast(BOB, FOOL);
        CHECK.due("who is cast is of no matter", x.casts(), 5);
        CHECK.due("ann and dan alone", stageInAct1().casts(), 1);
        CHECK.due("all over", stageOver().casts(), 0);
        CHECK.due("no PARTS: one of nobody", Check.stage("act;").casts(), 1);
        CHECK.due("none", Check.stage("part p 1;man a 0 1;act;scene p;").casts(), 0);
        CHECK.due("no ACT", new RecastStage().casts(), 0);
    }

    /** "BOWED by these MEN (bits): how many; NONE: no such ones." */
    private static void promise20() {
        RecastStage x = stage();
        int[][] due = {{0, 0}, {1, 0}, {3, 2}, {5, 0}, {6, 1}, {9, 1}, {10, 1}, {12, 0}, {7, 0}, {15, 0}};
        for (int[] pair : due) {
            CHECK.due("bowed", x.bowed(pair[0]), pair[1]);
        }
        for (int bits : new int[] {16, 19, -1, MIN, MAX}) {
            CHECK.due("bowed of no such ones", x.bowed(bits), -1);
        }
        CHECK.due("all over", stageOver().bowed(3), 0);
        CHECK.due("nobody, of no PARTS", Check.stage("act;").bowed(0), 1);
    }

    /** "MEN who are in each CAST there is, as bits; NONE: there is none." */
    private static void promise21() {
        CHECK.due("nobody is in each", stage().surely(), 0);
        CHECK.due("ann and dan", stageInAct1().surely(), 9);
        CHECK.due("all over", stageOver().surely(), -1);
        CHECK.due("none", Check.stage("part p 1;man a 0 1;act;scene p;").surely(), -1);
        RecastStage x = Check.stage("part p 5;part q 0;man a 0 1;man b 5 1;man c 0 1;act;scene p q;");
        CHECK.due("b alone", x.surely(), 2);
        CHECK.due("no PARTS", Check.stage("man a 0 1;act;").surely(), 0);
    }

    /** "SHORT, as bits; 0: all can be filled (all over, too)." */
    private static void promise22() {
        CHECK.due("all can be", stage().lacks(), 0);
        CHECK.due("all over", stageOver().lacks(), 0);
        RecastStage x = Check.stage("part p 0;part q 9;part r 9;man a 0 1;man b 0 1;act;scene p q r;");
        CHECK.due("of like ones the least", x.lacks(), 2);
        RecastStage y = Check.stage("part p 0;part q 5;part r 5;man a 0 1;man b 5 1;man c 0 1;act;scene p q r;");
        CHECK.due("two by one MAN", y.lacks(), 6);
        RecastStage z = Check.stage("part p 0;part q 0;part r 0;man a 0 1;man b 0 1;act;scene p q r;");
        CHECK.due("three by two", z.lacks(), 7);
        RecastStage foes = Check.stage("part p 0;part q 0;man a 0 1;man b 0 1;foes a b;act;scene p q;");
        CHECK.due("foes are of no matter", foes.lacks(), 0);
        CHECK.due("though there is no CAST", foes.casts(), 0);
        RecastStage ill = stage();
        ill.drawn(0);
        CHECK.due("ann and bob are ill", ill.lacks(), 1);
    }

    /** "The least LOSS of all CASTS; NONE: there is none." */
    private static void promise23() {
        CHECK.due("none was played", stage().least(), 0);
        CHECK.due("from bob to ann", stageInAct1().least(), 2);
        CHECK.due("and from dan to cid", stageInAct2().least(), 9);
        CHECK.due("all over", stageOver().least(), -1);
        RecastStage x = Check.stage("part p 0;man a 4 1;man b 9 1;man c 1 1;rest;act;scene p;act;scene p;");
        x.cast(0, 0);
        x.curtain();
        CHECK.due("3 is less than 5", x.least(), 3);
        RecastStage y = Check.stage("part p 0;man a 4 1;man b 9 1;act;scene p;act;scene p;");
        y.cast(1, 0);
        y.curtain();
        CHECK.due("by the same MAN", y.least(), 0);
        CHECK.due("no CAST", Check.stage("part p 1;man a 0 1;act;scene p;").least(), -1);
    }

    /** "The fewest WHISPERS (to MEN who do not know) behind which there is a CAST; NONE: not by any, all are over." */
    private static void promise24() {
        CHECK.due("there is one", stage().whispers(), 0);
        CHECK.due("all over", stageOver().whispers(), -1);
        String text = "part p 0;part q 0;fact f;fact g;man a 0 1;man b 0 1;act;scene p q;needs p f;needs p g;needs q g;";
        RecastStage x = Check.stage(text);
        CHECK.due("f and g, and g", x.whispers(), 3);
        x.whisper(1, 0);
        CHECK.due("b as p", x.whispers(), 2);
        x.whisper(0, 0);
        CHECK.due("f is known by both", x.whispers(), 2);
        x.whisper(0, 1);
        CHECK.due("g to b", x.whispers(), 1);
        x.whisper(1, 1);
        CHECK.due("all know all", x.whispers(), 0);
        CHECK.due("whispers so far", x.now(4), 4);
        CHECK.due("not by any", Check.stage(text.concat("never a p;never b p;")).whispers(), -1);
    }

    /** "PARTS that a MAN can SUSPECT, as bits; NONE: no such one." */
    private static void promise25() {
        RecastStage x = stage();
        CHECK.due("all", x.suspects(DAN), 7);
        x.whisper(DAN, GLOVE);
        CHECK.due("not the maid", x.suspects(DAN), 3);
        x.whisper(DAN, KNIFE);
        CHECK.due("the king", x.suspects(DAN), 1);
        CHECK.due("ann knows none", x.suspects(ANN), 7);
        CHECK.due("not the fool", stageInAct2().suspects(DAN), 5);
        for (int m : new int[] {-1, 4, MAX, MIN}) {
            CHECK.due("suspects of no such one", x.suspects(m), -1);
        }
        RecastStage y = Check.stage("part p 0;fact f;clears f p;man a 0 1;act;");
        y.whisper(0, 0);
        CHECK.due("none is left", y.suspects(0), 0);
    }

    /** "MEN who are sure: who can SUSPECT one alone, as bits." */
    private static void promise26() {
        CHECK.due("none", stage().sure(), 0);
        CHECK.due("all but dan", stageInAct2().sure(), 7);
        CHECK.due("when all are over, too", stageOver().sure(), 7);
        RecastStage x = Check.stage("part p 0;fact f;clears f p;man a 0 1;man b 0 1;act;");
        CHECK.due("of one PART all are", x.sure(), 3);
        x.whisper(1, 0);
        CHECK.due("who can suspect none is not", x.sure(), 1);
        CHECK.due("no PARTS", Check.stage("man a 0 1;").sure(), 0);
    }

    /** "The first ACT behind which a MAN is sure, if he watches ..; -2: he is sure now; NONE: never, no such one." */
    private static void promise27() {
        CHECK.due("behind ACT 1", stage().tells(ANN), 1);
        CHECK.due("behind ACT 1 still", stageInAct1().tells(BOB), 1);
        CHECK.due("now", stageInAct2().tells(ANN), -2);
        CHECK.due("never", stageInAct2().tells(DAN), -1);
        CHECK.due("now, when all are over", stageOver().tells(ANN), -2);
        CHECK.due("never, when all are over", stageOver().tells(DAN), -1);
        RecastStage x = stage();
        x.whisper(DAN, GLOVE);
        CHECK.due("behind ACT 0", x.tells(DAN), 0);
        for (int m : new int[] {-1, 4, MAX, MIN}) {
            CHECK.due("tells of no such one", x.tells(m), -1);
        }
    }

    /** "PRICES: how many ROUNDS till REST (that by which it is seen counted); NONE: all are over." */
    private static void promise28() {
        // King goes to 5 by ann and bob (fool to 1 by cid and dan), then bob wants fool, then king again.
        CHECK.due("seven", stage().prices(), 7);
        CHECK.due("each wants another", stageInAct1().prices(), 1);
        CHECK.due("all over", stageOver().prices(), -1);
        CHECK.due("no PARTS", Check.stage("man a 0 1;act;").prices(), 1);
        CHECK.due("no ACT", new RecastStage().prices(), -1);
        CHECK.due("both at 0, none at 1", Check.stage("part p 0;man a 0 1;man b 0 1;act;scene p;").prices(), 2);
    }

    /** "PRICE of a PART by the latest prices() that was not NONE; NONE: no such one, or ahead of any." */
    private static void promise29() {
        RecastStage x = stage();
        CHECK.due("ahead of any", x.price(KING), -1);
        x.prices();
        CHECK.due("king", x.price(KING), 5);
        CHECK.due("fool", x.price(FOOL), 2);
        for (int p : new int[] {-1, 3, MAX, MIN}) {
            CHECK.due("price of no such one", x.price(p), -1);
        }
        x.drawn(14);
        CHECK.due("all are over", x.prices(), -1);
        CHECK.due("a prices() of NONE leaves it", x.price(KING), 5);
    }

    /** "What a MAN wants by it (the last ROUND); NONE: none, no such one, or ahead of any." */
    private static void promise30() {
        RecastStage x = stage();
        CHECK.due("ahead of any", x.wants(BOB), -1);
        x.prices();
        CHECK.due("ann wants none", x.wants(ANN), -1);
        CHECK.due("bob: both are 1, the first", x.wants(BOB), KING);
        CHECK.due("cid", x.wants(CID), FOOL);
        CHECK.due("dan wants none", x.wants(DAN), -1);
        for (int m : new int[] {-1, 4, MAX, MIN}) {
            CHECK.due("wants of no such one", x.wants(m), -1);
        }
        x.drawn(14);
        x.prices();
        CHECK.due("a prices() of NONE leaves it", x.wants(CID), FOOL);
    }

    /** "ACTS that go on from now on by the BEST CAST each." */
    private static void promise31() {
        RecastStage x = stage();
        x.cast(ANN, KING);
        CHECK.due("all three", x.goesOn(), 3);
        CHECK.due("all stays as it is", x.now(3), 1);
        CHECK.due("ACT 0 is next", x.now(0), 0);
        CHECK.due("from ACT 1", stageInAct1().goesOn(), 2);
        CHECK.due("all over", stageOver().goesOn(), 0);
        RecastStage y = Check.stage("part p 0;man a 0 1;rest;act;act;scene p;act;scene p;");
        CHECK.due("till he must rest", y.goesOn(), 2);
        CHECK.due("no ACT", new RecastStage().goesOn(), 0);
        x.drop(KING);
        x.drawn(0);
        CHECK.due("ann and bob are ill", x.goesOn(), 0);
    }

    /** "JOY in all by that (of these ACTS alone)." */
    private static void promise32() {
        RecastStage x = stage();
        CHECK.due("11, 11, 8", x.joy(), 30);
        CHECK.due("none so far", x.now(1), 0);
        CHECK.due("11, 8", stageInAct1().joy(), 19);
        CHECK.due("8", stageInAct2().joy(), 8);
        CHECK.due("all over", stageOver().joy(), 0);
        RecastStage y = Check.stage("part p 0;man a 0 1;likes a p 4;rest;act;scene p;act;scene p;");
        CHECK.due("of the ACTS that go on", y.joy(), 4);
    }

    /** "Who has most claps (0), played most (1), least (2) (of like ones the first); NONE: no MEN, another what." */
    private static void promise33() {
        RecastStage x = stageOver();
        CHECK.due("bob has 2 claps", x.favourite(0), BOB);
        CHECK.due("bob and cid played twice", x.favourite(1), BOB);
        CHECK.due("ann and dan once", x.favourite(2), ANN);
        RecastStage y = stageInAct1();
        CHECK.due("ann and dan never", y.favourite(2), ANN);
        CHECK.due("bob and cid once", y.favourite(1), BOB);
        for (int what = 0; what < 3; what++) {
            CHECK.due("all are like", stage().favourite(what), ANN);
            CHECK.due("no MEN", new RecastStage().favourite(what), -1);
        }
        for (int what : new int[] {-1, 3, MAX, MIN}) {
            CHECK.due("another what", x.favourite(what), -1);
        }
    }

    /** "ACTS DRAWN by a seed: how many were played; NONE: no MEN, all are over." */
    private static void promise34() {
        RecastStage x = stage();
        x.cast(DAN, FOOL);
        CHECK.due("nobody is ill in any", x.drawn(14), 3);
        CHECK.row("by the BEST each", now(x), "3 30 11 0 0 19 5");
        CHECK.due("all are over", x.drawn(14), -1);
        RecastStage y = stage();
        CHECK.due("bob is ill in ACT 0, ann in ACT 1", y.drawn(6), 3);
        CHECK.row("ann, dan; bob, cid; ann, dan", now(y), "3 23 11 0 0 26 6");
        RecastStage z = stage();
        z.cast(DAN, FOOL);
        CHECK.due("dan is ill in ACT 1", z.drawn(3), 1);
        CHECK.row("nobody is cast", now(z), "1 11 0 0 0 4 1");
        CHECK.row("he stays ill", men(z, 7), "0 0 0 1");
        RecastStage none = stage();
        none.cast(DAN, FOOL);
        CHECK.due("all are ill in ACT 0", none.drawn(15), 0);
        CHECK.row("they stay so", men(none, 7), "1 1 1 1");
        CHECK.due("nobody is cast", none.now(3), 0);
        CHECK.due("no MEN", Check.stage("act;").drawn(1), -1);
        CHECK.due("no ACT", Check.stage("man a 0 1;").drawn(1), -1);
    }

    /** "Of n (1 to 40) seeds x, x and 1, .. by how many all ACTS .. are played; NONE: not as told, no MEN, all are over." */
    private static void promise35() {
        RecastStage x = stage();
        x.cast(DAN, FOOL);
        CHECK.due("2, 4, 5 and 6 of 1 to 6", x.odds(6, 1), 4);
        CHECK.due("14", x.odds(1, 14), 1);
        CHECK.due("15", x.odds(1, 15), 0);
        CHECK.due("all stays as it is", x.now(3), 8);
        CHECK.row("nobody is ill", men(x, 7), "0 0 0 0");
        for (int n : new int[] {0, -1, 41, MAX, MIN}) {
            CHECK.due("odds of n not as told", x.odds(n, 1), -1);
        }
        CHECK.due("all are over", stageOver().odds(1, 14), -1);
        CHECK.due("no MEN", Check.stage("act;").odds(1, 1), -1);
        CHECK.due("40 of 40, seeds wrapping", Check.stage("man a 0 1;act;").odds(40, MAX), 40);
    }

    /** "The tape is a BOOK: it is judged .. (lives 0), or lived ..: the LINE that is WRONG; NONE: none; -2 less ..; -1000" */
    private static void promise36() {
        RecastStage x = stage();
        String text = "ann as king;dan as fool;curtain;bob as king;cid as maid;curtain;";
        CHECK.due("judged", Check.book(x, text, 0), -1);
        CHECK.row("all stays", now(x), "0 0 0 0 0 0 0");
        CHECK.due("the tape is empty", x.count(6), 0);
        CHECK.due("lived", Check.book(x, text, 1), -1);
        // Bob clapped for ann, cid for dan; then ann for bob and dan for cid: 2 + 9, 3 + 1; king from 7 to 5.
        CHECK.row("two ACTS", now(x), "2 12 2 0 0 15 4");
        CHECK.due("LINE 2 is WRONG", Check.book(x, "whisper cid glove;ann as king;whisper cid glove;best;", 1), 2);
        CHECK.row("lived as far", now(x), "2 12 2 1 1 15 4");
        CHECK.due("no LINES", Check.book(x, "", 0), -1);
        CHECK.due("a FAULT at 0", Check.book(x, "king as ann;", 0), -2);
        CHECK.due("a FAULT at the end", Check.book(x, "curtain", 1), -9);
        Check.tape(x, "best;");
        for (int lives : new int[] {-1, 2, MAX, MIN}) {
            CHECK.due("another lives", x.book(lives), -1000);
        }
        CHECK.due("the tape stays", x.count(6), 5);
        CHECK.due("and is lived", x.book(1), -1);
        CHECK.row("whoever was cast", parts(x, 2), "0 -1 3");
    }

    /** "Of the latest book() that had no FAULT ..: 0 why it was WRONG .., 1 LINES that are not, 2 the next ACT .., 3 JOY" */
    private static void promise37() {
        RecastStage x = stage();
        CHECK.due("ahead of any", x.booked(0), -1);
        Check.book(x, "best;curtain;best;curtain;cid as king;best;", 0);
        int[] due = {4, 4, 2, 22};
        for (int what = 0; what < 4; what++) {
            CHECK.due("booked", x.booked(what), due[what]);
        }
        Check.book(x, "best", 0);
        x.book(7);
        CHECK.due("a FAULT and -1000 leave it", x.booked(3), 22);
        Check.book(x, "best;curtain;", 1);
        CHECK.due("it was not WRONG", x.booked(0), 0);
        CHECK.due("two LINES", x.booked(1), 2);
        Check.book(x, "curtain;", 0);
        CHECK.due("11", x.booked(0), 11);
        CHECK.due("no LINES", x.booked(1), 0);
        CHECK.due("ACT 1", x.booked(2), 1);
        CHECK.due("no JOY in it", x.booked(3), 0);
        Check.book(x, "whisper ann knife;", 0);
        CHECK.due("12", x.booked(0), 12);
        RecastStage over = stageOver();
        Check.book(over, "best;", 0);
        CHECK.due("13", over.booked(0), 13);
        for (int what : new int[] {-1, 4, MAX, MIN}) {
            CHECK.due("another what", x.booked(what), -1);
        }
    }

    /** "The tape is the SENTENCE now: how many ONES (each not, bracket and other one); -1 less the place of a FAULT .." */
    private static void promise38() {
        RecastStage x = stage();
        CHECK.due("one", Check.sentence(x, "plays"), 1);
        CHECK.due("five", Check.sentence(x, "not (skill>4 or knows knife) and rested"), 5);
        CHECK.due("two men", x.said(RecastStage.NONE), 1);
        CHECK.due("a FAULT at 6", Check.sentence(x, "knows king"), -7);
        CHECK.due("kind", x.fault(), 3);
        CHECK.due("it stays", x.said(RecastStage.NONE), 1);
        CHECK.due("a FAULT at the end", Check.sentence(x, ""), -1);
        CHECK.due("the tape is empty", x.count(6), 0);
        CHECK.due("20 ONES", Check.sentence(x, "sure".concat(Check.times(" or sure", 19))), 20);
        CHECK.due("a 21st", Check.sentence(x, "sure".concat(Check.times(" or sure", 20))), -1 - (4 + 19 * 8 + 4));
        CHECK.due("kind", x.fault(), 4);
        CHECK.due("8 within", Check.sentence(x, Check.times("not ", 7).concat("sure")), 8);
        CHECK.due("a ninth", Check.sentence(x, Check.times("not ", 8).concat("sure")), -33);
    }

    private static void said(RecastStage x, String text, String due) {
        Check.sentence(x, text);
        StringBuilder row = new StringBuilder();
        for (int k = 0; k < x.said(RecastStage.NONE); k++) {
            row.append("abcd".charAt(x.said(k)));
        }
        CHECK.row(text, row.toString(), due);
    }

    /** "MEN of whom it may be said: how many (k NONE), or the k-th. NONE: there is no SENTENCE, none such." */
    private static void promise39() {
        RecastStage x = stageInAct2();
        CHECK.due("no SENTENCE", x.said(RecastStage.NONE), -1);
        CHECK.due("no SENTENCE", x.said(0), -1);
        x.cast(BOB, KING);
        said(x, "plays", "b");
        said(x, "not plays", "acd");
        said(x, "rested", "bc");
        said(x, "knows glove", "abc");
        said(x, "sure", "abc");
        said(x, "skill<5", "c");
        said(x, "skill=5", "b");
        said(x, "skill>5", "ad");
        said(x, "times=1", "abcd");
        said(x, "claps<1", "c");
        said(x, "number>1", "cd");
        said(x, "plays or rested and skill<3", "bc");
        said(x, "(plays or rested) and skill<3", "c");
        said(x, "not plays and not rested", "ad");
        CHECK.due("how many", x.said(RecastStage.NONE), 2);
        CHECK.due("the first", x.said(0), ANN);
        CHECK.due("the second", x.said(1), DAN);
        for (int k : new int[] {2, -2, MAX, MIN}) {
            CHECK.due("none such", x.said(k), -1);
        }
    }

    /** "PLAY, EVENING and SENTENCE are kept in place k (0, 1): true; false: no such one." */
    private static void promise40() {
        RecastStage x = stageInAct1();
        x.cast(ANN, KING);
        Check.sentence(x, "plays");
        CHECK.due("place 0", x.image(0), true);
        for (int k : new int[] {-1, 2, MAX, MIN}) {
            CHECK.due("no such place", x.image(k), false);
        }
        Check.play(x, "act;");
        CHECK.due("place 1", x.image(1), true);
        x.restore(0);
        CHECK.row("the PLAY", counts(x), "3 2 4 3 4 1 0");
        CHECK.row("the EVENING", now(x), "1 11 0 1 0 4 1");
        CHECK.due("the SENTENCE", x.said(0), ANN);
        x.restore(1);
        CHECK.due("the other PLAY", x.count(0), 0);
        x.restore(0);
        x.drop(KING);
        x.image(0);
        x.restore(0);
        CHECK.due("kept anew", x.now(3), 0);
    }

    /** "They are as kept in place k (the tape, and what other calls told last, stays; nothing can be undone): true; .." */
    private static void promise41() {
        RecastStage x = stage();
        CHECK.due("nothing is kept there", x.restore(0), false);
        x.image(1);
        x.best();
        x.prices();
        Check.book(x, "best;curtain;", 1);
        CHECK.due("nothing is kept there", x.restore(0), false);
        for (int k : new int[] {-1, 2, MAX, MIN}) {
            CHECK.due("no such place", x.restore(k), false);
        }
        CHECK.due("ACT 1 is next", x.now(0), 1);
        Check.sentence(x, "plays or");
        Check.tape(x, "best;");
        CHECK.due("place 1", x.restore(1), true);
        CHECK.row("as kept", now(x), "0 0 0 0 0 0 0");
        CHECK.due("nothing can be undone", x.undo(), -1);
        CHECK.due("the tape stays", x.count(6), 5);
        CHECK.due("the FAULT", x.fault(), 1);
        CHECK.due("the BEST", x.bestAs(FOOL), CID);
        CHECK.due("the PRICE", x.price(KING), 5);
        CHECK.due("what he wants", x.wants(CID), FOOL);
        CHECK.due("the BOOK", x.booked(3), 11);
    }

    /** "0 PARTS, 1 FACTS, 2 MEN, 3 ACTS, 4 SCENES, 5 'rest' (1, 0), 6 bytes of the tape. NONE for another what." */
    private static void promise42() {
        RecastStage x = stage();
        CHECK.row("counts", counts(x), "3 2 4 3 4 1 0");
        Check.tape(x, "part p 0;fact f;");
        CHECK.due("bytes", x.count(6), 16);
        x.play();
        CHECK.row("counts without 'rest'", counts(x), "1 1 0 0 0 0 0");
        for (int what : new int[] {-1, 7, MAX, MIN}) {
            CHECK.due("another what", x.count(what), -1);
        }
    }
}
