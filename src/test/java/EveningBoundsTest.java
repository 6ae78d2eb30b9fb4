/**
 * The boundary cases that the section on the EVENING and the promises of its calls name (6, 7, 10 to 16, 25 to 27, 33).
 * Each function has the document's sentence above it.
 */
public final class EveningBoundsTest {
    private static final Check CHECK = new Check();

    public static void main(String[] args) {
        why1AllActsAreOver();
        why2ThePartIsNotInIt();
        why3HeNeverPlaysIt();
        why4HisSkillIsBelow();
        why5HeWasInTheActAhead();
        why6HeDoesNotKnow();
        why7HeIsCastAlready();
        why8ThePartIs();
        why9AFoeInOneScene();
        why10HeIsIll();
        whyOfNoSuchOnes();
        castOfNoSuchOnes();
        castThatIsRefusedChangesNothing();
        dropOfNobody();
        curtainWithOneMissing();
        curtainWithoutParts();
        curtainWhenAllAreOver();
        joyWithoutLiking();
        lossOfPartPlayedAhead();
        clapsForTheFirstOfLikeOnes();
        clapsForNobody();
        theIllLearnAndClap();
        whoIsCastLearnsOfHisScenes();
        behindACurtainNobodyIsCastOrIll();
        moneyOfThoseNotCast();
        whisperOfNoSuchOnes();
        whisperOfWhatHeKnows();
        whisperWhenAllAreOver();
        partOfNoSuchOnes();
        manOfNoSuchOnes();
        nowOfAnotherWhat();
        undoKeepsEight();
        undoOfEachSort();
        undoOfNothing();
        suspectsOfNoSuchOne();
        suspectsAllToNone();
        sureOfOneAlone();
        tellsNowLaterNever();
        tellsOfNoSuchOne();
        favouriteOfLikeOnes();
        favouriteOfNone();
        CHECK.finish();
    }

    private static final int[] NO_NUMBERS = {-1, -2, Integer.MIN_VALUE, Integer.MAX_VALUE};

    private static String row(RecastStage x, int what) {
        StringBuilder row = new StringBuilder();
        for (int m = 0; m < x.count(2); m++) {
            row.append(m == 0 ? "" : " ").append(x.man(m, what));
        }
        return row.toString();
    }

    private static String now(RecastStage x) {
        StringBuilder row = new StringBuilder();
        for (int what = 0; what < 7; what++) {
            row.append(what == 0 ? "" : " ").append(x.now(what));
        }
        return row.toString();
    }

    /** A seed by which just these of n MEN are ill at once. */
    private static int seedOf(int ill, int n) {
        for (int seed = 0; seed < 10000000; seed++) {
            int x = seed;
            int got = 0;
            for (int m = 0; m < n; m++) {
                x = x * 1103515245 + 12345;
                got |= (x >>> 8) % 6 == 0 ? 1 << m : 0;
            }
            if (got == ill) {
                return seed;
            }
        }
        throw new IllegalStateException("no seed");
    }

    /** "1 all ACTS are over" */
    private static void why1AllActsAreOver() {
        RecastStage x = Check.stage("part p 9;part q 0;man a 0 1;never a p;act;scene q;act;");
        CHECK.due("none is over", x.why(0, 1), 0);
        x.cast(0, 1);
        x.curtain();
        CHECK.due("one is left", x.why(0, 1), 2);
        x.curtain();
        CHECK.due("all are over", x.why(0, 1), 1);
        CHECK.due("1 is less than 2, 3 and 4", x.why(0, 0), 1);
        CHECK.due("cast() tells it", x.cast(0, 1), 1);
        CHECK.due("no ACTS", Check.stage("part p 0;man a 0 1;").why(0, 0), 1);
    }

    /** "2 the PART is not in it" */
    private static void why2ThePartIsNotInIt() {
        RecastStage x = Check.stage("part p 9;part q 0;man a 0 1;never a p;act;scene q;act;scene p;");
        CHECK.due("in it", x.why(0, 1), 0);
        CHECK.due("not in it, 2 is less than 3", x.why(0, 0), 2);
        CHECK.due("cast()", x.cast(0, 0), 2);
        x.cast(0, 1);
        x.curtain();
        CHECK.due("in the next", x.why(0, 0), 3);
        CHECK.due("in the ACT ahead alone", x.why(0, 1), 2);
    }

    /** "3 he never plays it" */
    private static void why3HeNeverPlaysIt() {
        RecastStage x = Check.stage("part p 9;part q 0;man a 0 1;man b 9 1;never a p;never b q;act;scene p q;");
        CHECK.due("3 is less than 4", x.why(0, 0), 3);
        CHECK.due("another PART", x.why(0, 1), 0);
        CHECK.due("another MAN", x.why(1, 0), 0);
        CHECK.due("never", x.why(1, 1), 3);
    }

    /** "4 his SKILL is below that of the PART" */
    private static void why4HisSkillIsBelow() {
        RecastStage x = Check.stage("part p 5;fact f;man a 4 1;man b 5 1;man c 6 1;man d 0 1;man e 9 1;act;scene p;");
        CHECK.due("one below", x.why(0, 0), 4);
        CHECK.due("alike", x.why(1, 0), 0);
        CHECK.due("one above", x.why(2, 0), 0);
        CHECK.due("far below", x.why(3, 0), 4);
        CHECK.due("far above", x.why(4, 0), 0);
        RecastStage y = Check.stage("part p 0;part q 9;man a 0 1;man b 8 1;man c 9 1;act;scene p q;");
        CHECK.due("0 for 0", y.why(0, 0), 0);
        CHECK.due("8 for 9", y.why(1, 1), 4);
        CHECK.due("9 for 9", y.why(2, 1), 0);
        RecastStage z = Check.stage("part p 0;part q 5;fact f;man a 0 1;rest;needs q f;act;scene p;act;scene q;");
        z.cast(0, 0);
        z.curtain();
        CHECK.due("4 is less than 5 and 6", z.why(0, 1), 4);
    }

    /** "5 he was in the ACT ahead, by 'rest'" */
    private static void why5HeWasInTheActAhead() {
        String acts = "fact f;needs q f;act;scene p;act;scene p q;act;scene p;";
        RecastStage x = Check.stage("part p 0;part q 0;man a 0 1;man b 0 1;man c 0 1;rest;" + acts);
        CHECK.due("no ACT ahead", x.why(0, 0), 0);
        x.cast(0, 0);
        x.curtain();
        CHECK.due("in the ACT ahead", x.why(0, 0), 5);
        CHECK.due("5 is less than 6", x.why(0, 1), 5);
        CHECK.due("not in it", x.why(1, 0), 0);
        x.cast(1, 0);
        x.whisper(2, 0);
        x.cast(2, 1);
        x.curtain();
        CHECK.due("in the one ahead of that", x.why(0, 0), 0);
        CHECK.due("in the ACT ahead", x.why(1, 0), 5);
        CHECK.due("in the ACT ahead as another PART", x.why(2, 0), 5);
        RecastStage y = Check.stage("part p 0;part q 0;man a 0 1;man b 0 1;man c 0 1;" + acts);
        y.cast(0, 0);
        y.curtain();
        CHECK.due("no 'rest'", y.why(0, 0), 0);
        RecastStage z = Check.stage("part p 0;man a 0 1;rest;act;scene p;act;act;scene p;");
        z.cast(0, 0);
        z.curtain();
        z.curtain();
        CHECK.due("an ACT of nobody is a rest", z.why(0, 0), 0);
    }

    /** "6 he does not know a FACT that it needs" */
    private static void why6HeDoesNotKnow() {
        RecastStage x = Check.stage("part p 0;part q 0;fact f;fact g;fact h;needs p f;needs p h;man a 0 1;man b 0 1;act;"
                + "scene p q;");
        CHECK.due("neither of two", x.why(0, 0), 6);
        x.whisper(0, 0);
        CHECK.due("one of two", x.why(0, 0), 6);
        x.whisper(0, 1);
        CHECK.due("and another", x.why(0, 0), 6);
        x.whisper(0, 2);
        CHECK.due("both of two", x.why(0, 0), 0);
        CHECK.due("another MAN", x.why(1, 0), 6);
        CHECK.due("none is wanted", x.why(1, 1), 0);
        x.cast(0, 0);
        x.cast(1, 1);
        CHECK.due("6 is less than 7 and 8", x.why(1, 0), 6);
    }

    /** "7 he is cast already" */
    private static void why7HeIsCastAlready() {
        RecastStage x = Check.stage("part p 0;part q 0;man a 0 1;man b 0 1;foes a b;act;scene p;scene q;scene p q;");
        CHECK.due("cast()", x.cast(0, 0), 0);
        CHECK.due("as another PART", x.why(0, 1), 7);
        CHECK.due("7 is less than 8", x.why(0, 0), 7);
        CHECK.due("cast() again", x.cast(0, 0), 7);
        x.drop(0);
        CHECK.due("given back", x.why(0, 1), 0);
    }

    /** "8 the PART is" */
    private static void why8ThePartIs() {
        RecastStage x = Check.stage("part p 0;part q 0;part r 0;man a 0 1;man b 0 1;man c 0 1;foes a b;act;scene p q;"
                + "scene r;");
        x.cast(0, 0);
        x.cast(2, 1);
        CHECK.due("8 is less than 9", x.why(1, 1), 8);
        CHECK.due("8", x.why(1, 0), 8);
        CHECK.due("a PART that is not", x.why(1, 2), 0);
        x.drop(1);
        CHECK.due("given back", x.why(1, 1), 9);
    }

    /** "9 a foe of his is cast as a PART that is in one SCENE of this ACT with it" */
    private static void why9AFoeInOneScene() {
        RecastStage x = Check.stage("part p 0;part q 0;part r 0;man a 0 1;man b 0 1;man c 0 1;foes b a;act;scene p q;"
                + "scene q r;act;scene p r;");
        CHECK.due("cast()", x.cast(0, 0), 0);
        CHECK.due("a foe in one SCENE", x.why(1, 1), 9);
        CHECK.due("in one SCENE of another ACT", x.why(1, 2), 0);
        CHECK.due("no foe in one SCENE", x.why(2, 1), 0);
        CHECK.due("cast()", x.cast(1, 2), 0);
        CHECK.due("the foes are in no SCENE together", x.cast(2, 1), 0);
        CHECK.due("curtain()", x.curtain(), 1);
        CHECK.due("cast()", x.cast(1, 0), 0);
        CHECK.due("a foe the other way round", x.why(0, 2), 9);
        RecastStage y = Check.stage("part p 0;part q 0;part r 0;part s 0;man a 0 1;man b 0 1;foes a b;act;scene p q;act;"
                + "scene p r;scene r s;scene s q;");
        CHECK.due("cast()", y.cast(0, 0), 0);
        CHECK.due("together in this ACT", y.why(1, 1), 9);
    }

    /** "10 he is ill" */
    private static void why10HeIsIll() {
        RecastStage x = Check.stage("part p 0;part q 0;part r 9;man a 0 1;man b 0 1;man c 0 1;foes a b;act;scene p q r;");
        CHECK.due("drawn()", x.drawn(seedOf(2, 3)), 0);
        CHECK.due("well", x.why(0, 0), 0);
        CHECK.due("ill", x.why(1, 0), 10);
        CHECK.due("cast()", x.cast(1, 0), 10);
        CHECK.due("4 is less than 10", x.why(1, 2), 4);
        x.cast(0, 0);
        CHECK.due("8 is less than 10", x.why(1, 0), 8);
        CHECK.due("9 is less than 10", x.why(1, 1), 9);
    }

    /** "why: .. NONE: no such ones" */
    private static void whyOfNoSuchOnes() {
        RecastStage x = Check.stage("part p 0;part q 0;man a 0 1;man b 0 1;man c 0 1;act;scene p q;");
        CHECK.due("the first", x.why(0, 0), 0);
        CHECK.due("the last", x.why(2, 1), 0);
        CHECK.due("one MAN beyond", x.why(3, 1), -1);
        CHECK.due("one PART beyond", x.why(2, 2), -1);
        for (int k : NO_NUMBERS) {
            CHECK.due("why(" + k + ", 0)", x.why(k, 0), -1);
            CHECK.due("why(0, " + k + ")", x.why(0, k), -1);
        }
        RecastStage over = Check.stage("part p 0;man a 0 1;");
        CHECK.due("NONE is ahead of 1", over.why(1, 0), -1);
        CHECK.due("NONE is ahead of 1", over.why(0, 1), -1);
        CHECK.due("a new object", new RecastStage().why(0, 0), -1);
    }

    /** "cast: .. NONE: no such ones" */
    private static void castOfNoSuchOnes() {
        RecastStage x = Check.stage("part p 0;part q 0;man a 0 1;man b 0 1;man c 0 1;act;scene p q;");
        CHECK.due("one MAN beyond", x.cast(3, 1), -1);
        CHECK.due("one PART beyond", x.cast(2, 2), -1);
        for (int k : NO_NUMBERS) {
            CHECK.due("cast(" + k + ", 0)", x.cast(k, 0), -1);
            CHECK.due("cast(0, " + k + ")", x.cast(0, k), -1);
        }
        CHECK.due("nobody is cast", x.now(3), 0);
        CHECK.due("nothing can be undone", x.undo(), -1);
        CHECK.due("the last", x.cast(2, 1), 0);
        CHECK.due("the first", x.cast(0, 0), 0);
        CHECK.due("both are cast", x.now(3), 5);
    }

    private static void castThatIsRefusedChangesNothing() {
        RecastStage x = Check.stage("part p 0;part q 0;part r 5;man a 0 1;man b 0 1;act;scene p q;");
        x.cast(0, 0);
        CHECK.due("7", x.cast(0, 1), 7);
        CHECK.due("8", x.cast(1, 0), 8);
        CHECK.due("2", x.cast(1, 2), 2);
        CHECK.due("a as p", x.part(0, 2), 0);
        CHECK.due("nobody as q", x.part(1, 2), -1);
        CHECK.due("nobody as r", x.part(2, 2), -1);
        CHECK.due("one can be undone", x.undo(), 0);
    }

    /** "drop: .. NONE: nobody, no such one" */
    private static void dropOfNobody() {
        RecastStage x = Check.stage("part p 0;part q 0;man a 0 1;man b 0 1;act;scene p q;");
        CHECK.due("nobody", x.drop(0), -1);
        x.cast(1, 1);
        CHECK.due("nobody", x.drop(0), -1);
        CHECK.due("one beyond", x.drop(2), -1);
        for (int k : NO_NUMBERS) {
            CHECK.due("drop(" + k + ")", x.drop(k), -1);
        }
        CHECK.due("b", x.drop(1), 1);
        CHECK.due("nobody now", x.drop(1), -1);
        x.cast(0, 1);
        CHECK.due("a", x.drop(1), 0);
        CHECK.due("a new object", new RecastStage().drop(0), -1);
    }

    /** "CURTAIN: all PARTS of the ACT must be cast"; "NONE: not all are cast" */
    private static void curtainWithOneMissing() {
        String six = "part a 0;part b 0;part c 0;part d 0;part e 0;part f 0;";
        String men = "man m 0 1;man n 0 1;man o 0 1;man p 0 1;man q 0 1;man r 0 1;";
        for (int missing = 0; missing < 6; missing++) {
            RecastStage x = Check.stage(six + men + "act;scene a b c;scene d e f;act;");
            for (int p = 0; p < 6; p++) {
                if (p != missing) {
                    x.cast(p, p);
                }
            }
            String ahead = now(x);
            CHECK.due("all but " + missing, x.curtain(), -1);
            CHECK.row("all stays", now(x), ahead);
            x.cast(missing, missing);
            CHECK.due("all", x.curtain(), 1);
        }
        RecastStage y = Check.stage("part p 0;part q 0;man a 0 1;act;scene q;");
        CHECK.due("nobody", y.curtain(), -1);
        y.cast(0, 1);
        CHECK.due("a PART that is not in the ACT is not wanted", y.curtain(), 1);
    }

    private static void curtainWithoutParts() {
        RecastStage x = Check.stage("part p 0;fact f;man a 0 3;man b 0 4;likes a p 1;act;act;");
        CHECK.due("no PARTS", x.curtain(), 1);
        CHECK.row("money alone", now(x), "1 0 0 0 0 7 0");
        CHECK.row("nobody was in it", row(x, 6), "0 0");
        CHECK.due("no MEN", Check.stage("act;").curtain(), 1);
        CHECK.due("a PART and no MEN", Check.stage("part p 0;act;scene p;").curtain(), -1);
    }

    /** "curtain: .. NONE: .. all are over"; "the next ACT then" */
    private static void curtainWhenAllAreOver() {
        RecastStage x = Check.stage(Check.times("act;", 6));
        for (int a = 1; a <= 6; a++) {
            CHECK.due("ACT " + a, x.curtain(), a);
            CHECK.due("the next", x.now(0), a);
        }
        CHECK.due("all are over", x.curtain(), -1);
        CHECK.due("how many there are", x.now(0), 6);
        CHECK.due("a new object", new RecastStage().curtain(), -1);
    }

    /** "JOY is what each likes the PART that he plays (0 without), all together" */
    private static void joyWithoutLiking() {
        RecastStage x = Check.stage("part p 0;part q 0;man a 0 1;man b 0 1;likes a q 9;likes b q 4;act;scene p q;act;"
                + "scene p q;");
        x.cast(0, 0);
        x.cast(1, 1);
        x.curtain();
        CHECK.due("0 and 4", x.now(1), 4);
        x.cast(0, 1);
        x.cast(1, 0);
        x.curtain();
        CHECK.due("and 9 and 0", x.now(1), 13);
    }

    /** "LOSS: of each PART that was played ahead, last by another MAN: how unlike the SKILLS of both are" */
    private static void lossOfPartPlayedAhead() {
        RecastStage x = Check.stage("part p 0;part q 0;man a 0 1;man b 9 1;man c 9 1;act;scene p;act;scene p;act;"
                + "scene p q;act;scene p q;act;scene q;act;scene p;");
        x.cast(0, 0);
        x.curtain();
        CHECK.due("not played ahead", x.now(2), 0);
        x.cast(0, 0);
        x.curtain();
        CHECK.due("last by himself", x.now(2), 0);
        x.cast(1, 0);
        x.cast(0, 1);
        x.curtain();
        CHECK.due("9 from 0; q is new", x.now(2), 9);
        x.cast(2, 0);
        x.cast(1, 1);
        x.curtain();
        CHECK.due("alike in SKILL; q from 0 to 9", x.now(2), 18);
        x.cast(0, 1);
        x.curtain();
        CHECK.due("q back to 0", x.now(2), 27);
        CHECK.due("who played p last", x.part(0, 3), 2);
        x.cast(1, 0);
        x.curtain();
        CHECK.due("p behind an ACT without it", x.now(2), 27);
        CHECK.due("who played p last", x.part(0, 3), 1);
    }

    /** "that one whose PART he likes most (the first PART of like ones ..)" */
    private static void clapsForTheFirstOfLikeOnes() {
        RecastStage x = Check.stage("part p 0;part q 0;part r 0;man a 0 1;man b 0 1;man c 0 1;man d 0 1;man e 0 1;"
                + "likes d r 4;likes d q 4;likes d p 3;likes e r 5;likes e q 4;act;scene p q r;act;scene p q;");
        x.cast(2, 0);
        x.cast(1, 1);
        x.cast(0, 2);
        x.curtain();
        CHECK.row("d for b as q, e for a as r", row(x, 5), "1 1 0 0 0");
        CHECK.due("claps so far", x.now(6), 2);
        x.cast(2, 0);
        x.cast(0, 1);
        x.curtain();
        CHECK.row("r is not in this ACT: both for a as q", row(x, 5), "3 1 0 0 0");
        CHECK.due("claps so far", x.now(6), 4);
    }

    /** "nobody, if he likes none of them"; "Each who is not cast claps" */
    private static void clapsForNobody() {
        RecastStage x = Check.stage("part p 0;part q 0;man a 0 1;man b 0 1;man c 0 1;likes b q 9;likes a p 9;likes c p 1;"
                + "act;scene p;");
        x.cast(0, 0);
        x.curtain();
        CHECK.row("b likes q alone, a plays: c for a", row(x, 5), "1 0 0");
        CHECK.due("claps so far", x.now(6), 1);
    }

    /** "each other one (an ill one, too) all that is shown in the ACT"; "Each who is not cast claps" */
    private static void theIllLearnAndClap() {
        RecastStage x = Check.stage("part p 0;part q 0;fact f;fact g;needs q f;man a 0 1;man b 0 2;man c 0 4;likes c p 2;act;"
                + "scene p;shows f;scene q;shows g;");
        CHECK.due("drawn() stops: nobody knows f", x.drawn(seedOf(4, 3)), 0);
        CHECK.row("c is ill", row(x, 7), "0 0 1");
        x.whisper(0, 0);
        x.cast(1, 0);
        x.cast(0, 1);
        CHECK.due("curtain()", x.curtain(), 1);
        CHECK.row("c learned both", row(x, 3), "3 1 3");
        CHECK.row("c clapped for b", row(x, 5), "0 1 0");
        CHECK.due("c had a SEAT", x.now(5), 4);
    }

    /** "Who is cast learns what is shown in SCENES in which his PART is" */
    private static void whoIsCastLearnsOfHisScenes() {
        RecastStage x = Check.stage("part p 0;part q 0;fact f;fact g;fact h;fact i;man a 0 1;man b 0 1;man c 0 1;act;"
                + "scene p;shows f;scene q;shows g;scene p q;shows h;act;scene p;shows i;");
        x.cast(0, 0);
        x.cast(1, 1);
        x.curtain();
        CHECK.row("p saw f, h; q saw g, h; c all three", row(x, 3), "5 6 7");
        x.cast(1, 0);
        x.curtain();
        CHECK.row("all saw i", row(x, 3), "13 14 15");
    }

    /** "Then nobody is cast, and nobody ill" */
    private static void behindACurtainNobodyIsCastOrIll() {
        RecastStage x = Check.stage("part p 0;part q 0;fact f;needs q f;man a 0 1;man b 0 1;man c 0 1;act;scene p q;shows f;"
                + "act;scene p;");
        CHECK.due("drawn() stops: nobody knows f", x.drawn(seedOf(4, 3)), 0);
        CHECK.row("c is ill", row(x, 7), "0 0 1");
        x.whisper(0, 0);
        CHECK.due("cast()", x.cast(0, 1), 0);
        CHECK.due("cast()", x.cast(1, 0), 0);
        CHECK.due("c is ill", x.man(2, 7), 1);
        CHECK.due("curtain()", x.curtain(), 1);
        CHECK.row("nobody is ill", row(x, 7), "0 0 0");
        CHECK.row("nobody is cast", row(x, 2), "-1 -1 -1");
        CHECK.due("nobody is cast", x.now(3), 0);
        CHECK.due("nobody as p", x.part(0, 2), -1);
        CHECK.row("the ill one, too, learned all", row(x, 3), "1 1 1");
        CHECK.row("who was in the ACT ahead", row(x, 6), "1 1 0");
    }

    /** "5 money: SEATS of those who were not cast, ACT by ACT" */
    private static void moneyOfThoseNotCast() {
        RecastStage x = Check.stage("part p 0;part q 0;man a 0 1;man b 0 3;man c 0 9;act;scene p q;act;scene p;act;");
        x.cast(0, 0);
        x.cast(1, 1);
        CHECK.due("ahead of the CURTAIN", x.now(5), 0);
        x.curtain();
        CHECK.due("c", x.now(5), 9);
        x.cast(2, 0);
        x.curtain();
        CHECK.due("and a, b", x.now(5), 13);
        x.curtain();
        CHECK.due("and all", x.now(5), 26);
        RecastStage y = Check.stage("part p 0;man a 0 9;act;scene p;");
        y.cast(0, 0);
        y.curtain();
        CHECK.due("all are cast", y.now(5), 0);
    }

    /** "whisper: .. false: no such ones" */
    private static void whisperOfNoSuchOnes() {
        RecastStage x = Check.stage("fact f;fact g;man a 0 1;man b 0 1;man c 0 1;act;");
        CHECK.due("one MAN beyond", x.whisper(3, 0), false);
        CHECK.due("one FACT beyond", x.whisper(0, 2), false);
        for (int k : NO_NUMBERS) {
            CHECK.due("whisper(" + k + ", 0)", x.whisper(k, 0), false);
            CHECK.due("whisper(0, " + k + ")", x.whisper(0, k), false);
        }
        CHECK.due("none so far", x.now(4), 0);
        CHECK.due("nothing can be undone", x.undo(), -1);
        CHECK.due("the first", x.whisper(0, 0), true);
        CHECK.due("the last", x.whisper(2, 1), true);
        CHECK.row("they know", row(x, 3), "1 0 2");
        CHECK.due("two so far", x.now(4), 2);
    }

    /** "whisper: .. false: .. he knows it" */
    private static void whisperOfWhatHeKnows() {
        RecastStage x = Check.stage("part p 0;fact f;fact g;man a 0 1;man b 0 1;act;scene p;shows f;act;");
        CHECK.due("whisper()", x.whisper(0, 1), true);
        CHECK.due("by a whisper", x.whisper(0, 1), false);
        x.cast(0, 0);
        x.curtain();
        CHECK.due("by a SCENE in which he was", x.whisper(0, 0), false);
        CHECK.due("by a SCENE that he saw", x.whisper(1, 0), false);
        CHECK.due("what he does not know", x.whisper(1, 1), true);
        CHECK.due("whispers so far", x.now(4), 2);
    }

    /** "To WHISPER lets a MAN know a FACT (not over)" */
    private static void whisperWhenAllAreOver() {
        RecastStage x = Check.stage("fact f;man a 0 1;act;");
        CHECK.due("one ACT is left", x.whisper(0, 0), true);
        x.undo();
        x.curtain();
        CHECK.due("all are over", x.whisper(0, 0), false);
        CHECK.due("he does not know", x.man(0, 3), 0);
        CHECK.due("no ACTS", Check.stage("fact f;man a 0 1;").whisper(0, 0), false);
    }

    /** "part: .. NONE: no such ones"; "2 who is cast as it (NONE), 3 who played it last (NONE)" */
    private static void partOfNoSuchOnes() {
        RecastStage x = Check.stage("part p 3;part q 4;fact f;needs q f;man a 9 1;act;scene q;act;scene q p;");
        int[][] told = {{3, 0, -1, -1, 2}, {4, 1, -1, -1, 3}};
        for (int p = 0; p < 2; p++) {
            for (int what = 0; what < 5; what++) {
                CHECK.due("part(" + p + ", " + what + ")", x.part(p, what), told[p][what]);
            }
            CHECK.due("one what beyond", x.part(p, 5), -1);
            for (int k : NO_NUMBERS) {
                CHECK.due("part(" + p + ", " + k + ")", x.part(p, k), -1);
            }
        }
        for (int what = -1; what < 6; what++) {
            CHECK.due("one PART beyond", x.part(2, what), -1);
            for (int k : NO_NUMBERS) {
                CHECK.due("part(" + k + ", " + what + ")", x.part(k, what), -1);
            }
        }
        x.whisper(0, 0);
        x.cast(0, 1);
        CHECK.due("who is cast", x.part(1, 2), 0);
        CHECK.due("nobody played it", x.part(1, 3), -1);
        x.curtain();
        CHECK.due("nobody is cast", x.part(1, 2), -1);
        CHECK.due("who played it", x.part(1, 3), 0);
        CHECK.due("in no ACT", Check.stage("part p 0;act;").part(0, 4), 0);
        CHECK.due("in all ACTS", Check.stage("part p 0;" + Check.times("act;scene p;", 6)).part(0, 4), 63);
    }

    /** "man: .. NoSuchElementException: no such ones" */
    private static void manOfNoSuchOnes() {
        RecastStage x = Check.stage("part p 0;fact f;man a 3 1;man b 4 2;act;scene p;shows f;act;scene p;likes b p 1;");
        int[][] told = {{3, 1, -1, 0, 0, 0, 0, 0}, {4, 2, -1, 0, 0, 0, 0, 0}};
        for (int m = 0; m < 2; m++) {
            for (int what = 0; what < 8; what++) {
                CHECK.due("man(" + m + ", " + what + ")", x.man(m, what), told[m][what]);
            }
            CHECK.throwsNoSuch("one what beyond", x, m, 8);
            for (int k : NO_NUMBERS) {
                CHECK.throwsNoSuch("man(" + m + ", " + k + ")", x, m, k);
            }
        }
        for (int what = -1; what < 9; what++) {
            CHECK.throwsNoSuch("one MAN beyond", x, 2, what);
            for (int k : NO_NUMBERS) {
                CHECK.throwsNoSuch("man(" + k + ", " + what + ")", x, k, what);
            }
        }
        CHECK.throwsNoSuch("a new object", new RecastStage(), 0, 0);
        x.cast(0, 0);
        CHECK.throwsNoSuch("a call that throws", x, 2, 0);
        CHECK.due("changes nothing", x.part(0, 2), 0);
        CHECK.due("and is not undone", x.undo(), 0);
        x.cast(0, 0);
        x.curtain();
        int[] behind = {3, 1, -1, 1, 1, 1, 1, 0};
        for (int what = 0; what < 8; what++) {
            CHECK.due("man(0, " + what + ")", x.man(0, what), behind[what]);
        }
    }

    /** "now: .. NONE for another what" */
    private static void nowOfAnotherWhat() {
        RecastStage x = Check.stage("part p 0;man a 0 1;act;scene p;");
        CHECK.row("now 0 to 6", now(x), "0 0 0 0 0 0 0");
        CHECK.due("one beyond", x.now(7), -1);
        for (int k : NO_NUMBERS) {
            CHECK.due("now(" + k + ")", x.now(k), -1);
        }
        CHECK.due("a new object: all of its ACTS are over", new RecastStage().now(0), 0);
    }

    /** "how many more can be (8 at most are kept); NONE: none is" */
    private static void undoKeepsEight() {
        for (int done = 0; done <= 20; done++) {
            RecastStage x = Check.stage("part p 0;man a 0 1;act;scene p;");
            for (int k = 0; k < done; k++) {
                if (k % 2 == 0) {
                    x.cast(0, 0);
                } else {
                    x.drop(0);
                }
            }
            int kept = Math.min(done, 8);
            for (int k = kept - 1; k >= 0; k--) {
                CHECK.due("undo() of " + done, x.undo(), k);
                CHECK.due("as it was ahead", x.now(3), (done - kept + k) % 2);
            }
            CHECK.due("none is", x.undo(), -1);
            CHECK.due("none is again", x.undo(), -1);
            CHECK.due("as it is", x.now(3), (done - kept) % 2);
            x.cast(0, 0);
            x.drop(0);
            CHECK.due("one more can be", x.undo(), (done - kept) % 2 == 0 ? 1 : 0);
        }
    }

    /** "The latest of cast(), curtain(), whisper() that was done, drop() of somebody, drawn() .., a BOOK .. is undone" */
    private static void undoOfEachSort() {
        RecastStage x = Check.stage("part p 0;fact f;man a 0 1;man b 0 2;likes a p 1;likes b p 1;act;scene p;shows f;act;"
                + "scene p;");
        String start = now(x);
        x.cast(0, 0);
        CHECK.due("a cast()", x.undo(), 0);
        CHECK.row("as it was", now(x), start);
        x.whisper(1, 0);
        CHECK.due("a whisper()", x.undo(), 0);
        CHECK.row("as it was", now(x) + row(x, 3), start + "0 0");
        x.cast(0, 0);
        String cast = now(x);
        x.drop(0);
        CHECK.due("a drop()", x.undo(), 1);
        CHECK.row("as it was", now(x) + row(x, 2), cast + "0 -1");
        x.curtain();
        CHECK.due("a curtain()", x.undo(), 1);
        CHECK.row("as it was", now(x) + row(x, 2) + row(x, 3) + row(x, 4) + row(x, 5) + row(x, 6),
                cast + "0 -1" + "0 0" + "0 0" + "0 0" + "0 0");
        CHECK.due("nobody played", x.part(0, 3), -1);
        CHECK.due("drawn()", x.drawn(seedOf(0, 2)) > 0, true);
        CHECK.due("a drawn()", x.undo(), 1);
        CHECK.row("as it was", now(x) + row(x, 2), cast + "0 -1");
        CHECK.due("drawn() of none", x.drawn(seedOf(3, 2)), 0);
        CHECK.row("both are ill", row(x, 7), "1 1");
        CHECK.due("a drawn() of 0", x.undo(), 1);
        CHECK.row("nobody is ill", row(x, 7), "0 0");
        CHECK.due("a BOOK", Check.book(x, "curtain;b as p;whisper b f;", 1), 2);
        CHECK.due("is undone whole", x.undo(), 1);
        CHECK.row("as it was", now(x) + row(x, 2), cast + "0 -1");
    }

    /** "NONE: none is": what was refused, judged alone, asked or put on the tape is not undone */
    private static void undoOfNothing() {
        CHECK.due("a new object", new RecastStage().undo(), -1);
        RecastStage x = Check.stage("part p 0;fact f;man a 0 1;man b 0 1;act;scene p;act;scene p;");
        x.cast(2, 0);
        x.cast(0, 1);
        x.drop(0);
        x.drop(1);
        x.curtain();
        x.whisper(0, 1);
        Check.book(x, "a as p;curtain;", 0);
        Check.book(x, "a as p", 1);
        Check.book(x, "a as p;", 2);
        x.end(0);
        Check.sentence(x, "sure");
        Check.play(x, "act");
        x.best();
        x.prices();
        x.goesOn();
        x.joy();
        x.odds(3, 1);
        x.image(0);
        x.restore(1);
        CHECK.due("nothing was done", x.undo(), -1);
        x.whisper(0, 0);
        x.whisper(0, 0);
        CHECK.due("done once", x.undo(), 0);
        CHECK.due("none is", x.undo(), -1);
        Check.book(x, "best;curtain;best;curtain;", 1);
        CHECK.due("drawn() when all are over", x.drawn(1), -1);
        x.curtain();
        x.cast(0, 0);
        CHECK.due("the BOOK alone", x.undo(), 0);
        CHECK.due("ACT 0", x.now(0), 0);
        x.cast(0, 0);
        x.image(0);
        x.restore(2);
        x.restore(1);
        CHECK.due("a restore() that is refused", x.undo(), 0);
        x.cast(0, 0);
        x.restore(0);
        CHECK.due("behind restore() nothing can be", x.undo(), -1);
        x.drop(0);
        CHECK.due("a new PLAY", Check.play(x, "act;"), 1);
        CHECK.due("nothing of it", x.undo(), -1);
    }

    /** "suspects: .. NONE: no such one" */
    private static void suspectsOfNoSuchOne() {
        RecastStage x = Check.stage("part p 0;part q 0;man a 0 1;man b 0 1;");
        CHECK.due("the last", x.suspects(1), 3);
        CHECK.due("one beyond", x.suspects(2), -1);
        for (int k : NO_NUMBERS) {
            CHECK.due("suspects(" + k + ")", x.suspects(k), -1);
        }
        CHECK.due("a new object", new RecastStage().suspects(0), -1);
    }

    /** "A MAN can SUSPECT all PARTS but those that FACTS which he knows clear" */
    private static void suspectsAllToNone() {
        RecastStage x = Check.stage("part a 0;part b 0;part c 0;part d 0;part e 0;part f 0;fact g;fact h;fact i;man m 0 1;"
                + "clears g a;clears g f;clears h b;clears h c;clears h d;clears h e;clears i a;act;");
        CHECK.due("all", x.suspects(0), 63);
        x.whisper(0, 2);
        CHECK.due("all but a", x.suspects(0), 62);
        x.whisper(0, 0);
        CHECK.due("cleared twice, and f", x.suspects(0), 30);
        x.whisper(0, 1);
        CHECK.due("none", x.suspects(0), 0);
        CHECK.due("who can suspect none is not sure", x.sure(), 0);
        CHECK.due("no PARTS", Check.stage("man m 0 1;").suspects(0), 0);
    }

    /** "MEN who are sure: who can SUSPECT one alone" */
    private static void sureOfOneAlone() {
        RecastStage x = Check.stage("part p 0;part q 0;part r 0;fact f;fact g;fact h;clears f p;clears g q;clears h r;"
                + "man a 0 1;man b 0 1;man c 0 1;man d 0 1;act;");
        CHECK.due("three are suspected", x.sure(), 0);
        for (int m = 1; m < 4; m++) {
            for (int f = 0; f < m; f++) {
                x.whisper(m, f);
            }
        }
        CHECK.due("three, two, one, none: c alone", x.sure(), 4);
        CHECK.due("one PART: all", Check.stage("part p 0;man a 0 1;man b 0 1;").sure(), 3);
        CHECK.due("no PARTS: nobody", Check.stage("man a 0 1;man b 0 1;").sure(), 0);
        CHECK.due("no MEN", Check.stage("part p 0;").sure(), 0);
        CHECK.due("8 MEN", Check.stage("part p 0;man a 0 1;man b 0 1;man c 0 1;man d 0 1;man e 0 1;man f 0 1;man g 0 1;"
                + "man h 0 1;").sure(), 255);
    }

    /** "The first ACT behind which a MAN is sure, if he watches all ACTS from now on; -2: he is sure now; NONE: never" */
    private static void tellsNowLaterNever() {
        String text = "part p 0;part q 0;part r 0;fact f;fact g;fact h;clears f p;clears g q;clears h r;man a 0 1;man b 0 1;"
                + "man c 0 1;act;scene p;shows f;act;act;scene q;shows g;";
        RecastStage x = Check.stage(text);
        CHECK.due("behind the last", x.tells(0), 2);
        x.whisper(1, 1);
        CHECK.due("behind the next", x.tells(1), 0);
        x.whisper(1, 0);
        CHECK.due("now", x.tells(1), -2);
        x.whisper(2, 2);
        CHECK.due("behind the next", x.tells(2), 0);
        x.cast(0, 0);
        x.curtain();
        x.curtain();
        CHECK.due("behind the last, which is next", x.tells(0), 2);
        CHECK.due("now", x.tells(2), -2);
        x.cast(2, 1);
        x.curtain();
        CHECK.due("all are over, sure", x.tells(0), -2);
        CHECK.due("all are over, none is suspected", x.tells(2), -1);
        RecastStage never = Check.stage("part p 0;part q 0;part r 0;fact f;clears f p;man a 0 1;act;scene p;shows f;");
        CHECK.due("never: two are left", never.tells(0), -1);
        never.cast(0, 0);
        never.curtain();
        CHECK.due("never: all are over", never.tells(0), -1);
        RecastStage passed = Check.stage("part p 0;part q 0;fact f;fact g;clears f p;clears g q;man a 0 1;act;scene p;"
                + "shows f;shows g;");
        CHECK.due("never: two at once", passed.tells(0), -1);
        RecastStage first = Check.stage("part p 0;part q 0;fact f;fact g;clears f p;clears g q;man a 0 1;act;scene p;"
                + "shows f;act;scene q;shows g;");
        CHECK.due("the first, though not behind the second", first.tells(0), 0);
    }

    /** "tells: .. NONE: .. no such one" */
    private static void tellsOfNoSuchOne() {
        RecastStage x = Check.stage("part p 0;man a 0 1;man b 0 1;act;");
        CHECK.due("the last", x.tells(1), -2);
        CHECK.due("one beyond", x.tells(2), -1);
        for (int k : NO_NUMBERS) {
            CHECK.due("tells(" + k + ")", x.tells(k), -1);
        }
        CHECK.due("a new object", new RecastStage().tells(0), -1);
    }

    /** "Who has most claps (0), played most (1), least (2) (of like ones the first)" */
    private static void favouriteOfLikeOnes() {
        RecastStage x = Check.stage("part p 0;part q 0;man a 0 1;man b 0 1;man c 0 1;man d 0 1;likes d p 1;act;scene p q;act;"
                + "scene p q;act;scene p;");
        for (int what = 0; what < 3; what++) {
            CHECK.due("all alike", x.favourite(what), 0);
        }
        x.cast(2, 0);
        x.cast(1, 1);
        x.curtain();
        CHECK.due("most claps: c", x.favourite(0), 2);
        CHECK.due("played most: b, c", x.favourite(1), 1);
        CHECK.due("least: a, d", x.favourite(2), 0);
        x.cast(1, 0);
        x.cast(0, 1);
        x.curtain();
        CHECK.due("most claps: b, c", x.favourite(0), 1);
        CHECK.due("played most: b", x.favourite(1), 1);
        CHECK.due("least: d", x.favourite(2), 3);
        x.cast(3, 0);
        x.curtain();
        CHECK.due("least: a, c, d", x.favourite(2), 0);
    }

    /** "favourite: .. NONE: no MEN, another what" */
    private static void favouriteOfNone() {
        RecastStage x = Check.stage("man a 0 1;");
        for (int what = 0; what < 3; what++) {
            CHECK.due("one MAN", x.favourite(what), 0);
            CHECK.due("no MEN", Check.stage("act;").favourite(what), -1);
        }
        CHECK.due("one beyond", x.favourite(3), -1);
        for (int k : NO_NUMBERS) {
            CHECK.due("favourite(" + k + ")", x.favourite(k), -1);
        }
    }
}
