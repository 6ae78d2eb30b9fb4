/** The EVENING, ACT by ACT: promises 6, 7, 10 to 16, 25 to 27 and 33. */
public final class EveningTest {
    private static final Check CHECK = new Check();

    public static void main(String[] args) {
        reasons();
        foesBySceneOfThisAct();
        castAndDrop();
        curtain();
        curtainOfNobody();
        lossAndHandingOn();
        applause();
        whispering();
        suspicion();
        favourites();
        undoing();
        undoingOfAllSorts();
        newPlay();
        CHECK.finish();
    }

    private static String man(RecastStage x, int what) {
        StringBuilder row = new StringBuilder();
        for (int m = 0; m < x.count(2); m++) {
            row.append(m == 0 ? "" : " ").append(x.man(m, what));
        }
        return row.toString();
    }

    private static String now(RecastStage x) {
        StringBuilder row = new StringBuilder();
        for (int what = 0; what < 7; what++) {
            row.append(what == 0 ? "" : " ").append(x.now(what));
        }
        return row.toString();
    }

    private static void reasons() {
        RecastStage x = Check.stage("part p 5;part q 0;part r 0;fact f;man a 5 1;man b 4 1;man c 9 1;man d 9 1;rest;"
                + "act;scene p q;act;scene p q;needs p f;never b p;never c p;foes a d;");
        CHECK.due("2: not in the ACT, ahead of 3", x.why(2, 2), 2);
        CHECK.due("3: never, ahead of 4", x.why(1, 0), 3);
        CHECK.due("6: does not know", x.why(0, 0), 6);
        CHECK.due("cast tells why", x.cast(0, 0), 6);
        x.whisper(0, 0);
        CHECK.due("0: he can", x.why(0, 0), 0);
        CHECK.due("q by a", x.cast(0, 1), 0);
        CHECK.due("6 ahead of 7", x.why(3, 0), 6);
        CHECK.due("7 ahead of 8", x.why(0, 1), 7);
        CHECK.due("8 ahead of 9", x.why(3, 1), 8);
        x.whisper(3, 0);
        CHECK.due("9: a foe", x.why(3, 0), 9);
        x.drop(1);
        CHECK.due("no foe now", x.why(3, 0), 0);
        CHECK.due("d as p", x.cast(3, 0), 0);
        CHECK.due("b as q", x.cast(1, 1), 0);
        CHECK.due("curtain()", x.curtain(), 1);
        CHECK.due("5: was in the ACT ahead", x.why(3, 0), 5);
        CHECK.due("3 ahead of 5", x.why(1, 0), 3);
        CHECK.due("5 of q", x.why(1, 1), 5);
        CHECK.due("a may", x.cast(0, 0), 0);
        CHECK.due("c may", x.cast(2, 1), 0);
        CHECK.due("curtain()", x.curtain(), 2);
        CHECK.due("1: all are over", x.why(2, 2), 1);
        CHECK.due("cast when all are over", x.cast(2, 2), 1);
        int[][] none = {{-1, 0}, {4, 0}, {0, -1}, {0, 3}, {Integer.MAX_VALUE, 0}, {0, Integer.MIN_VALUE}};
        for (int[] pair : none) {
            CHECK.due("why of no such ones", x.why(pair[0], pair[1]), -1);
            CHECK.due("cast of no such ones", x.cast(pair[0], pair[1]), -1);
        }
        RecastStage y = Check.stage("part p 5;fact f;man a 4 1;act;scene p;needs p f;");
        CHECK.due("4 ahead of 6", y.why(0, 0), 4);
        RecastStage z = Check.stage("part p 0;man a 4 1;act;scene p;act;scene p;");
        z.cast(0, 0);
        z.curtain();
        CHECK.due("no 'rest'", z.why(0, 0), 0);
    }

    private static void foesBySceneOfThisAct() {
        RecastStage x = Check.stage("part p 0;part q 0;man a 0 1;man b 0 1;foes b a;act;scene p;scene q;act;scene q p;");
        CHECK.due("a as p", x.cast(0, 0), 0);
        CHECK.due("apart in this ACT", x.cast(1, 1), 0);
        CHECK.due("curtain()", x.curtain(), 1);
        CHECK.due("a as p", x.cast(0, 0), 0);
        CHECK.due("together in this one", x.cast(1, 1), 9);
        RecastStage y = Check.stage("part p 0;part q 0;part r 0;man a 0 1;man b 0 1;man c 0 1;foes a b;foes c b;act;"
                + "scene p q;scene q r;");
        CHECK.due("b as q", y.cast(1, 1), 0);
        CHECK.due("beside p", y.cast(0, 0), 9);
        CHECK.due("beside r", y.cast(2, 2), 9);
        CHECK.due("drop(1)", y.drop(1), 1);
        CHECK.due("a as p", y.cast(0, 0), 0);
        CHECK.due("b is a foe of both, too", y.cast(1, 1), 9);
        CHECK.due("but apart from r", y.cast(1, 2), 0);
    }

    private static void castAndDrop() {
        RecastStage x = Check.stage("part p 0;part q 0;man a 0 1;man b 0 1;act;scene p q;");
        CHECK.due("cast(1, 0)", x.cast(1, 0), 0);
        CHECK.due("part(0, 2)", x.part(0, 2), 1);
        CHECK.due("man(1, 2)", x.man(1, 2), 0);
        CHECK.due("now(3)", x.now(3), 2);
        CHECK.due("drop of nobody", x.drop(1), -1);
        CHECK.due("drop of no such one", x.drop(2), -1);
        CHECK.due("drop of no such one", x.drop(-1), -1);
        CHECK.due("curtain of too few", x.curtain(), -1);
        CHECK.due("drop(0)", x.drop(0), 1);
        CHECK.due("part(0, 2)", x.part(0, 2), -1);
        CHECK.due("man(1, 2)", x.man(1, 2), -1);
        CHECK.due("now(3)", x.now(3), 0);
        CHECK.due("drop again", x.drop(0), -1);
    }

    private static void curtain() {
        RecastStage x = Check.stage("part p 0;part q 0;part r 0;fact f;fact g;fact h;man a 3 1;man b 5 2;man c 9 4;"
                + "man d 0 8;act;scene p q;shows f;scene q;shows g;act;scene r;shows h;"
                + "likes a p 7;likes b p 2;likes b q 1;likes c q 3;likes c p 3;likes d r 9;");
        x.cast(0, 0);
        x.cast(1, 1);
        CHECK.due("curtain()", x.curtain(), 1);
        CHECK.row("now", now(x), "1 8 0 0 0 12 1");
        CHECK.row("who knows what", man(x, 3), "1 3 3 3");
        CHECK.row("who played", man(x, 4), "1 1 0 0");
        CHECK.row("claps: c likes both alike, d none", man(x, 5), "1 0 0 0");
        CHECK.row("in the ACT ahead", man(x, 6), "1 1 0 0");
        CHECK.due("last as p", x.part(0, 3), 0);
        CHECK.due("last as q", x.part(1, 3), 1);
        CHECK.due("last as r", x.part(2, 3), -1);
        x.cast(2, 2);
        CHECK.due("curtain()", x.curtain(), 2);
        CHECK.row("now", now(x), "2 8 0 0 0 23 2");
        CHECK.row("who knows what", man(x, 3), "5 7 7 7");
        CHECK.row("in the ACT ahead", man(x, 6), "0 0 1 0");
        CHECK.row("claps", man(x, 5), "1 0 1 0");
        CHECK.due("curtain when all are over", x.curtain(), -1);
        CHECK.row("now", now(x), "2 8 0 0 0 23 2");
    }

    private static void curtainOfNobody() {
        RecastStage x = Check.stage("part p 0;man a 0 7;act;act;scene p;");
        CHECK.due("an ACT without PARTS", x.curtain(), 1);
        CHECK.row("now", now(x), "1 0 0 0 0 7 0");
        CHECK.due("an ACT with one", x.curtain(), -1);
        CHECK.due("no ACTS", Check.stage("man a 0 1;").curtain(), -1);
    }

    private static void lossAndHandingOn() {
        RecastStage x = Check.stage("part p 0;part q 0;man a 1 1;man b 9 1;man c 4 1;act;scene p q;act;scene p;act;"
                + "scene p q;");
        x.cast(0, 0);
        x.cast(1, 1);
        x.curtain();
        CHECK.due("nothing ahead", x.now(2), 0);
        x.cast(2, 0);
        x.curtain();
        CHECK.due("p from a to c", x.now(2), 3);
        CHECK.due("last as p", x.part(0, 3), 2);
        CHECK.due("last as q", x.part(1, 3), 1);
        x.cast(2, 0);
        x.cast(0, 1);
        x.curtain();
        CHECK.due("q from b to a, p stays", x.now(2), 11);
    }

    private static void applause() {
        RecastStage x = Check.stage("part p 0;part q 0;man a 1 1;man b 9 1;man c 4 1;man d 0 1;act;scene p q;"
                + "likes c q 5;likes c p 4;never d p;likes d p 1;likes a q 9;");
        x.cast(0, 0);
        x.cast(1, 1);
        x.curtain();
        CHECK.row("c for q, d for p, who plays for none", man(x, 5), "1 1 0 0");
        CHECK.due("claps", x.now(6), 2);
        CHECK.due("JOY", x.now(1), 0);
    }

    private static void whispering() {
        RecastStage x = Check.stage("part p 0;fact f;fact g;man a 0 1;man b 0 1;act;scene p;shows g;");
        CHECK.due("whisper(0, 1)", x.whisper(0, 1), true);
        CHECK.due("again", x.whisper(0, 1), false);
        CHECK.due("no such MAN", x.whisper(2, 0), false);
        CHECK.due("no such MAN", x.whisper(-1, 0), false);
        CHECK.due("no such FACT", x.whisper(0, 2), false);
        CHECK.due("no such FACT", x.whisper(0, -1), false);
        CHECK.due("no such FACT", x.whisper(0, 32), false);
        CHECK.due("whisper(1, 0)", x.whisper(1, 0), true);
        CHECK.row("who knows what", man(x, 3), "2 1");
        CHECK.due("whispers so far", x.now(4), 2);
        x.cast(0, 0);
        x.curtain();
        CHECK.row("who knows what", man(x, 3), "2 3");
        CHECK.due("all are over", x.whisper(0, 0), false);
        CHECK.due("whispers so far", x.now(4), 2);
    }

    private static void suspicion() {
        RecastStage x = Check.stage("part p 0;part q 0;part r 0;fact f;fact g;fact h;man a 0 1;man b 0 1;man c 0 1;"
                + "clears f p;clears g q;clears h r;act;act;scene p;shows f;act;scene q;shows g;act;scene r;shows h;");
        CHECK.due("suspects all", x.suspects(0), 7);
        CHECK.due("suspects(3)", x.suspects(3), -1);
        CHECK.due("suspects(-1)", x.suspects(-1), -1);
        CHECK.due("sure()", x.sure(), 0);
        CHECK.due("tells(0)", x.tells(0), 2);
        CHECK.due("tells(3)", x.tells(3), -1);
        CHECK.due("tells(-1)", x.tells(-1), -1);
        x.whisper(0, 1);
        CHECK.due("suspects p, r", x.suspects(0), 5);
        CHECK.due("sure behind ACT 1", x.tells(0), 1);
        x.whisper(0, 2);
        CHECK.due("suspects p", x.suspects(0), 1);
        CHECK.due("sure()", x.sure(), 1);
        CHECK.due("sure now", x.tells(0), -2);
        x.whisper(1, 0);
        x.whisper(1, 1);
        x.whisper(1, 2);
        CHECK.due("suspects none", x.suspects(1), 0);
        CHECK.due("so he is not sure", x.sure(), 1);
        CHECK.due("and never will be", x.tells(1), -1);
        x.curtain();
        x.cast(0, 0);
        x.curtain();
        CHECK.due("c saw f", x.suspects(2), 6);
        CHECK.due("c is sure behind ACT 2", x.tells(2), 2);
        RecastStage y = Check.stage("part p 0;man a 0 1;");
        CHECK.due("one PART alone", y.sure(), 1);
        CHECK.due("sure with no ACTS", y.tells(0), -2);
        RecastStage z = Check.stage("part p 0;part q 0;fact f;clears f p;clears f q;man a 0 1;act;scene p;shows f;");
        CHECK.due("past being sure", z.tells(0), -1);
        CHECK.due("no PARTS", Check.stage("man a 0 1;").suspects(0), 0);
    }

    private static void favourites() {
        RecastStage x = Check.stage("part p 0;man a 0 1;man b 0 1;man c 0 1;likes a p 1;likes c p 1;likes b p 1;act;"
                + "scene p;act;scene p;act;scene p;");
        CHECK.due("all alike: the first", x.favourite(0), 0);
        CHECK.due("all alike: the first", x.favourite(1), 0);
        CHECK.due("all alike: the first", x.favourite(2), 0);
        x.cast(1, 0);
        x.curtain();
        CHECK.due("most claps", x.favourite(0), 1);
        CHECK.due("played most", x.favourite(1), 1);
        CHECK.due("played least", x.favourite(2), 0);
        x.cast(0, 0);
        x.curtain();
        CHECK.due("of like ones the first", x.favourite(0), 0);
        CHECK.due("of like ones the first", x.favourite(1), 0);
        CHECK.due("played least", x.favourite(2), 2);
        CHECK.due("favourite(3)", x.favourite(3), -1);
        CHECK.due("favourite(-1)", x.favourite(-1), -1);
        CHECK.due("no MEN", new RecastStage().favourite(1), -1);
    }

    private static void undoing() {
        RecastStage x = Check.stage("part p 0;part q 0;fact f;fact g;man a 0 1;man b 0 1;act;scene p q;shows f;");
        CHECK.due("nothing done", x.undo(), -1);
        x.cast(0, 3);
        x.drop(0);
        x.curtain();
        x.whisper(5, 0);
        CHECK.due("nothing was done", x.undo(), -1);
        x.cast(0, 0);
        x.cast(1, 1);
        x.whisper(0, 1);
        x.curtain();
        CHECK.row("now", now(x), "1 0 0 0 1 0 0");
        CHECK.due("the curtain", x.undo(), 3);
        CHECK.row("now", now(x), "0 0 0 3 1 0 0");
        CHECK.row("known", man(x, 3), "2 0");
        CHECK.row("played", man(x, 4), "0 0");
        CHECK.due("last as p", x.part(0, 3), -1);
        CHECK.due("the whisper", x.undo(), 2);
        CHECK.due("whispers so far", x.now(4), 0);
        CHECK.row("known", man(x, 3), "0 0");
        CHECK.due("drop(0)", x.drop(0), 0);
        CHECK.due("the drop", x.undo(), 2);
        CHECK.due("cast as p", x.part(0, 2), 0);
        CHECK.due("a cast", x.undo(), 1);
        CHECK.due("a cast", x.undo(), 0);
        CHECK.due("none is", x.undo(), -1);
        CHECK.due("nobody is cast", x.now(3), 0);
        for (int k = 0; k < 6; k++) {
            x.cast(0, 0);
            x.drop(0);
        }
        x.cast(1, 1);
        for (int k = 7; k >= 0; k--) {
            CHECK.due("8 at most", x.undo(), k);
        }
        CHECK.due("none is", x.undo(), -1);
        CHECK.due("the cast ahead of them stays", x.part(0, 2), 0);
    }

    private static void undoingOfAllSorts() {
        RecastStage x = Check.stage("part p 0;man a 0 1;man b 0 1;act;scene p;act;scene p;");
        CHECK.due("a BOOK that is judged", Check.book(x, "a as p;", 0), -1);
        CHECK.due("is not undone", x.undo(), -1);
        CHECK.due("a BOOK that is lived", Check.book(x, "a as p;curtain;b as p;", 1), -1);
        CHECK.due("now(3)", x.now(3), 2);
        CHECK.due("is undone at once", x.undo(), 0);
        CHECK.row("now", now(x), "0 0 0 0 0 0 0");
        CHECK.due("a BOOK with a FAULT", Check.book(x, "a as;", 1), -6);
        CHECK.due("is not undone", x.undo(), -1);
        CHECK.due("drawn", x.drawn(1) >= 0, true);
        CHECK.due("drawn is undone", x.undo(), 0);
        CHECK.row("now", now(x), "0 0 0 0 0 0 0");
        CHECK.row("ill", man(x, 7), "0 0");
        Check.sentence(x, "plays");
        x.cast(0, 0);
        Check.sentence(x, "not plays");
        x.undo();
        CHECK.due("the SENTENCE stays", x.said(-1), 2);
        x.cast(0, 0);
        x.curtain();
        x.cast(0, 0);
        x.curtain();
        CHECK.due("drawn when all are over", x.drawn(1), -1);
        CHECK.due("is not undone", x.undo(), 3);
    }

    private static void newPlay() {
        String text = "part p 0;fact f;man a 0 3;man b 0 1;likes a p 2;likes b p 1;act;scene p;shows f;act;scene p;";
        RecastStage x = Check.stage(text);
        x.whisper(0, 0);
        x.cast(0, 0);
        x.curtain();
        x.cast(0, 0);
        Check.sentence(x, "plays");
        CHECK.row("now", now(x), "1 2 0 1 1 1 1");
        CHECK.due("the same anew", Check.play(x, text), 11);
        CHECK.row("now", now(x), "0 0 0 0 0 0 0");
        for (int what = 3; what < 8; what++) {
            CHECK.row("man " + what, man(x, what), "0 0");
        }
        CHECK.due("last as p", x.part(0, 3), -1);
        CHECK.due("no SENTENCE", x.said(-1), -1);
        CHECK.due("nothing can be undone", x.undo(), -1);
    }
}
