/**
 * The boundary cases that the sections on the CAST, SHORT, BOWED, PRICES and DRAWN and the promises of their calls
 * name (17 to 24, 28 to 32, 34, 35). Each function has the document's sentence above it.
 */
public final class CastBoundsTest {
    private static final Check CHECK = new Check();
    private static final String SIX = "part a 0;part b 0;part c 0;part d 0;part e 0;part f 0;";
    private static final String EIGHT = "man m 0 1;man n 1 1;man o 2 1;man p 3 1;man q 4 1;man r 5 1;man s 6 1;man t 7 1;";
    private static final int[] NO_NUMBERS = {-1, -2, Integer.MIN_VALUE, Integer.MAX_VALUE};

    public static void main(String[] args) {
        castIsOneManForEachPart();
        castIsFromNobodyCast();
        castOfAsManyMenAsParts();
        bestOfLikeOnesIsTheFirst();
        bestIsNone();
        bestAsIsNone();
        castsAreNone();
        castsOfAll();
        bowedByJustThese();
        bowedByNoSuchOnes();
        surelyIsAllOrNobodyOrNone();
        lacksOneToSix();
        lacksOfLikeOnesTheLeast();
        lacksNothing();
        leastIsNone();
        leastOfAll();
        whispersNoneAndMost();
        pricesOfOneRound();
        pricesWantWhatIsNought();
        pricesOfMoreThanOne();
        pricesOfManyRounds();
        pricesAreNone();
        priceIsNone();
        wantsIsNone();
        goesOnByNoneToAll();
        joyOfTheseActsAlone();
        drawsWrapAround();
        drawnStops();
        drawnIsNone();
        oddsOfOneToForty();
        oddsOfSeedsThatWrap();
        oddsIsNone();
        CHECK.finish();
    }

    private static String bestAs(RecastStage x) {
        StringBuilder row = new StringBuilder();
        for (int p = 0; p < x.count(0); p++) {
            row.append(p == 0 ? "" : " ").append(x.bestAs(p));
        }
        return row.toString();
    }

    /** The draws as the document tells them, by longs: the MEN of n who are ill, as bits; the seed goes on in x[0]. */
    private static int ill(long[] x, int n) {
        int ill = 0;
        for (int m = 0; m < n; m++) {
            x[0] = (x[0] * 1103515245L + 12345L) & 0xffffffffL;
            ill |= (x[0] >> 8) % 6 == 0 ? 1 << m : 0;
        }
        return ill;
    }

    private static long[] from(int seed) {
        return new long[] {seed & 0xffffffffL};
    }

    private static int seedOf(int wanted, int n) {
        for (int seed = 0; seed < 10000000; seed++) {
            if (ill(from(seed), n) == wanted) {
                return seed;
            }
        }
        throw new IllegalStateException("no seed");
    }

    /** "A CAST is one MAN for each PART of the next ACT .. each of whom can be (also behind one another)" */
    private static void castIsOneManForEachPart() {
        RecastStage x = Check.stage("part p 0;part q 3;part r 0;man a 2 1;man b 3 1;man c 4 1;act;scene p q;");
        // q by b, c; p by the two others: r is not in the ACT
        CHECK.due("casts()", x.casts(), 4);
        CHECK.due("a MAN has one PART alone", Check.stage("part p 0;part q 0;man a 0 1;act;scene p q;").casts(), 0);
        RecastStage foes = Check.stage("part p 0;part q 0;man a 0 1;man b 0 1;man c 0 1;foes c a;act;scene p q;");
        CHECK.due("no foes in one SCENE", foes.casts(), 4);
        RecastStage apart = Check.stage("part p 0;part q 0;man a 0 1;man b 0 1;man c 0 1;foes c a;act;scene p;scene q;");
        CHECK.due("foes in two SCENES", apart.casts(), 6);
        RecastStage needs = Check.stage("part p 0;fact f;needs p f;man a 0 1;man b 0 1;act;scene p;");
        CHECK.due("nobody knows", needs.casts(), 0);
        needs.whisper(1, 0);
        CHECK.due("one knows", needs.casts(), 1);
        RecastStage never = Check.stage("part p 0;man a 0 1;man b 0 1;never a p;act;scene p;");
        CHECK.due("one may", never.casts(), 1);
        RecastStage rest = Check.stage("part p 0;man a 0 1;man b 0 1;rest;act;scene p;act;scene p;");
        CHECK.due("both may", rest.casts(), 2);
        rest.cast(0, 0);
        rest.curtain();
        CHECK.due("one rests", rest.casts(), 1);
        CHECK.due("the other", rest.bowed(2), 1);
    }

    /** "from nobody cast so far (who is cast now is of no matter)" */
    private static void castIsFromNobodyCast() {
        RecastStage x = Check.stage("part p 0;part q 0;man a 0 1;man b 0 1;man c 0 1;foes a b;likes a p 5;likes c q 3;act;"
                + "scene p q;");
        String ahead = all(x);
        CHECK.due("a foe is cast as q", x.cast(1, 1), 0);
        CHECK.row("of no matter", all(x), ahead);
        CHECK.due("another as p", x.cast(2, 0), 0);
        CHECK.row("of no matter", all(x), ahead);
        CHECK.due("and they stay", x.now(3), 6);
        CHECK.due("who they were", x.part(0, 2), 2);
    }

    private static String all(RecastStage x) {
        return x.best() + " " + bestAs(x) + " " + x.casts() + " " + x.bowed(3) + " " + x.bowed(5) + " " + x.surely() + " "
                + x.lacks() + " " + x.least() + " " + x.whispers() + " " + x.prices() + " " + x.goesOn() + " " + x.joy();
    }

    private static void castOfAsManyMenAsParts() {
        String parts = "part a 0;part b 0;part c 0;act;scene a b c;";
        CHECK.due("no MEN", Check.stage(parts).casts(), 0);
        CHECK.due("one fewer", Check.stage(parts + "man m 0 1;man n 0 1;").casts(), 0);
        CHECK.due("as many", Check.stage(parts + "man m 0 1;man n 0 1;man o 0 1;").casts(), 6);
        CHECK.due("one more", Check.stage(parts + "man m 0 1;man n 0 1;man o 0 1;man p 0 1;").casts(), 24);
        CHECK.due("one fewer", Check.stage(parts + "man m 0 1;man n 0 1;").best(), -1);
        CHECK.due("as many", Check.stage(parts + "man m 0 1;man n 0 1;man o 0 1;").best(), 0);
    }

    /** "The BEST has most JOY; of like ones the first (PART by PART the least MAN)" */
    private static void bestOfLikeOnesIsTheFirst() {
        RecastStage x = Check.stage("part p 0;part q 0;man a 0 1;man b 0 1;man c 0 1;act;scene q p;");
        CHECK.due("all alike", x.best(), 0);
        CHECK.row("the least MAN as the first PART", bestAs(x), "0 1");
        RecastStage y = Check.stage("part p 0;part q 0;man a 0 1;man b 0 1;man c 0 1;likes a q 4;likes b p 4;likes a p 3;"
                + "likes c q 5;act;scene q p;");
        // b p and a q 8, a p and c q 8, b p and c q 9
        CHECK.due("one is above", y.best(), 9);
        CHECK.row("b as p, c as q", bestAs(y), "1 2");
        RecastStage z = Check.stage("part p 0;part q 0;man a 0 1;man b 0 1;man c 0 1;likes a q 4;likes b p 4;likes a p 3;"
                + "likes c q 5;never b p;act;scene q p;");
        CHECK.due("a as p and c as q", z.best(), 8);
        RecastStage tie = Check.stage("part p 0;part q 0;part r 0;man a 0 1;man b 0 1;man c 0 1;likes a r 2;likes b q 2;"
                + "likes c p 2;likes a p 2;likes c r 2;act;scene p q r;");
        // a b c and c b a are alike: p by a is first
        CHECK.due("alike", tie.best(), 6);
        CHECK.row("the least MAN as p", bestAs(tie), "0 1 2");
        RecastStage later = Check.stage("part p 0;part q 0;part r 0;man a 0 1;man b 0 1;man c 0 1;never a p;never b p;act;"
                + "scene p q r;");
        CHECK.due("alike", later.best(), 0);
        CHECK.row("the least MAN as q", bestAs(later), "2 0 1");
    }

    /** "best: .. NONE: there is none, all are over" */
    private static void bestIsNone() {
        RecastStage x = Check.stage("part p 1;man a 0 1;act;scene p;");
        CHECK.due("there is none", x.best(), -1);
        RecastStage y = Check.stage("part p 0;man a 0 1;act;scene p;act;");
        CHECK.due("JOY 0 is one", y.best(), 0);
        y.cast(0, 0);
        y.curtain();
        CHECK.due("no PARTS: a CAST of nobody", y.best(), 0);
        y.curtain();
        CHECK.due("all are over", y.best(), -1);
        CHECK.due("a new object", new RecastStage().best(), -1);
        StringBuilder most = new StringBuilder(SIX + EIGHT + "act;scene a b c d e f;");
        for (int p = 0; p < 6; p++) {
            most.append("likes ").append((char) ('o' + p)).append(' ').append((char) ('a' + p)).append(" 9;");
        }
        RecastStage full = Check.stage(most.toString());
        CHECK.due("most JOY that can be", full.best(), 54);
        CHECK.row("each as he likes", bestAs(full), "2 3 4 5 6 7");
    }

    /** "bestAs: .. the latest best() that was not NONE; NONE: nobody, no such one, or ahead of any" */
    private static void bestAsIsNone() {
        RecastStage x = Check.stage("part p 0;part q 0;part r 0;man a 0 1;man b 0 1;act;scene p r;act;scene q;act;scene p q r;");
        for (int p = -2; p < 5; p++) {
            CHECK.due("ahead of any", x.bestAs(p), -1);
        }
        CHECK.due("best()", x.best(), 0);
        CHECK.row("nobody as q", bestAs(x), "0 -1 1");
        CHECK.due("one beyond", x.bestAs(3), -1);
        for (int k : NO_NUMBERS) {
            CHECK.due("bestAs(" + k + ")", x.bestAs(k), -1);
        }
        Check.book(x, "best;curtain;", 1);
        CHECK.row("the 'best' of a BOOK is no best()", bestAs(x), "0 -1 1");
        CHECK.due("best()", x.best(), 0);
        CHECK.row("the latest", bestAs(x), "-1 0 -1");
        Check.book(x, "best;curtain;", 1);
        CHECK.due("there is none", x.best(), -1);
        CHECK.row("the latest that was not NONE", bestAs(x), "-1 0 -1");
        x.goesOn();
        x.drawn(1);
        CHECK.row("still", bestAs(x), "-1 0 -1");
    }

    /** "CASTS that there are (0: none; all over, too)" */
    private static void castsAreNone() {
        CHECK.due("a new object", new RecastStage().casts(), 0);
        CHECK.due("none", Check.stage("part p 1;man a 0 1;act;scene p;").casts(), 0);
        RecastStage x = Check.stage("part p 0;man a 0 1;act;scene p;act;");
        CHECK.due("one", x.casts(), 1);
        x.cast(0, 0);
        x.curtain();
        CHECK.due("nobody is a CAST, too", x.casts(), 1);
        x.curtain();
        CHECK.due("all over", x.casts(), 0);
    }

    private static void castsOfAll() {
        String[] scenes = {"a", "a b", "a b c", "a b c d", "a b c d e", "a b c d e f"};
        int[] due = {8, 56, 336, 1680, 6720, 20160};
        for (int k = 0; k < 6; k++) {
            RecastStage x = Check.stage(SIX + EIGHT + "act;scene " + scenes[k] + ";");
            CHECK.due("casts() of " + (k + 1), x.casts(), due[k]);
            CHECK.due("surely()", x.surely(), 0);
            CHECK.due("bowed by the first", x.bowed((1 << k + 1) - 1), factorial(k + 1));
            CHECK.due("bowed by the last", x.bowed((1 << k + 1) - 1 << 7 - k), factorial(k + 1));
            CHECK.due("one too few", x.bowed((1 << k) - 1), 0);
            CHECK.due("one too many", x.bowed((1 << k + 2) - 1), 0);
        }
    }

    private static int factorial(int n) {
        return n < 2 ? 1 : n * factorial(n - 1);
    }

    /** "BOWED: CASTS by just these MEN" */
    private static void bowedByJustThese() {
        RecastStage x = Check.stage("part p 0;part q 2;man a 0 1;man b 1 1;man c 2 1;man d 2 1;act;scene p q;act;");
        int[] due = {0, 0, 0, 0, 0, 1, 1, 0, 0, 1, 1, 0, 2, 0, 0, 0};
        int sum = 0;
        for (int men = 0; men < 16; men++) {
            CHECK.due("bowed(" + men + ")", x.bowed(men), due[men]);
            sum += x.bowed(men);
        }
        CHECK.due("all together", sum, x.casts());
        Check.book(x, "best;curtain;", 1);
        CHECK.due("no PARTS: nobody", x.bowed(0), 1);
        CHECK.due("no PARTS: one", x.bowed(1), 0);
        x.curtain();
        CHECK.due("all over: nobody", x.bowed(0), 0);
        CHECK.due("all over: all", x.bowed(15), 0);
    }

    /** "bowed: .. NONE: no such ones" */
    private static void bowedByNoSuchOnes() {
        RecastStage x = Check.stage("part p 0;man a 0 1;man b 0 1;man c 0 1;act;scene p;");
        CHECK.due("the last", x.bowed(4), 1);
        CHECK.due("all", x.bowed(7), 0);
        CHECK.due("one beyond", x.bowed(8), -1);
        CHECK.due("one beyond and the last", x.bowed(12), -1);
        CHECK.due("all and one beyond", x.bowed(15), -1);
        for (int k : NO_NUMBERS) {
            CHECK.due("bowed(" + k + ")", x.bowed(k), -1);
        }
        CHECK.due("a new object: nobody", new RecastStage().bowed(0), 0);
        CHECK.due("a new object: one", new RecastStage().bowed(1), -1);
        RecastStage full = Check.stage(SIX + EIGHT + "act;scene a;");
        CHECK.due("the eighth", full.bowed(128), 1);
        CHECK.due("a ninth", full.bowed(256), -1);
    }

    /** "MEN who are in each CAST there is, as bits; NONE: there is none" */
    private static void surelyIsAllOrNobodyOrNone() {
        CHECK.due("a new object", new RecastStage().surely(), -1);
        CHECK.due("there is none", Check.stage("part p 1;man a 0 1;act;scene p;").surely(), -1);
        CHECK.due("a CAST of nobody", Check.stage("man a 0 1;act;").surely(), 0);
        CHECK.due("one CAST", Check.stage("part p 0;part q 1;man a 0 1;man b 1 1;act;scene p q;").surely(), 3);
        CHECK.due("all of two CASTS", Check.stage("part p 0;part q 0;man a 0 1;man b 0 1;act;scene p q;").surely(), 3);
        CHECK.due("one of three", Check.stage("part p 0;part q 5;man a 0 1;man b 1 1;man c 5 1;act;scene p q;").surely(), 4);
        CHECK.due("nobody of three", Check.stage("part p 0;man a 0 1;man b 1 1;man c 5 1;act;scene p;").surely(), 0);
        RecastStage x = Check.stage("part p 0;man a 0 1;act;scene p;");
        x.cast(0, 0);
        x.curtain();
        CHECK.due("all over", x.surely(), -1);
    }

    /** "SHORT: a smallest set of PARTS of the ACT which can't be filled by unlike MEN" */
    private static void lacksOneToSix() {
        String all = "act;scene a b c d e f;";
        for (int men = 0; men < 6; men++) {
            StringBuilder text = new StringBuilder(SIX + all);
            for (int m = 0; m < men; m++) {
                text.append("man ").append((char) ('m' + m)).append(" 0 1;");
            }
            // by so many MEN each set of one PART more can't be filled
            CHECK.due("lacks() of " + men, Check.stage(text.toString()).lacks(), (1 << men + 1) - 1);
        }
        RecastStage x = Check.stage("part a 0;part b 5;part c 5;part d 5;man m 5 1;man n 5 1;man o 0 1;man p 0 1;act;"
                + "scene a b c;act;scene a b c d;");
        CHECK.due("two for two", x.lacks(), 0);
        Check.book(x, "best;curtain;", 1);
        CHECK.due("two for three", x.lacks(), 14);
        RecastStage one = Check.stage("part a 5;part b 5;part c 6;man m 5 1;man n 0 1;act;scene a b c;");
        CHECK.due("one alone is smaller than two", one.lacks(), 4);
    }

    /** "(of like ones the least as bits)" */
    private static void lacksOfLikeOnesTheLeast() {
        CHECK.due("one of two", Check.stage("part a 9;part b 0;part c 9;man m 0 1;act;scene c b a;").lacks(), 1);
        CHECK.due("not in the ACT", Check.stage("part a 9;part b 0;part c 9;man m 0 1;act;scene c b;").lacks(), 4);
        // b and c want o alone, d and e want p alone; a is free
        RecastStage x = Check.stage("part a 0;part b 0;part c 0;part d 0;part e 0;man m 0 1;man n 0 1;man o 0 1;man p 0 1;"
                + "never m b;never n b;never p b;never m c;never n c;never p c;never m d;never n d;never o d;never m e;"
                + "never n e;never o e;act;scene a b c d e;act;");
        CHECK.due("two pairs", x.lacks(), 6);
        // b, e and c, d: 18 or 12
        RecastStage y = Check.stage("part a 0;part b 0;part c 0;part d 0;part e 0;man m 0 1;man n 0 1;man o 0 1;man p 0 1;"
                + "never m b;never n b;never p b;never m e;never n e;never p e;never m d;never n d;never o d;never m c;"
                + "never n c;never o c;act;scene a b c d e;");
        CHECK.due("12 is less than 18", y.lacks(), 12);
    }

    /** "SHORT, as bits; 0: all can be filled (all over, too)"; "if nobody else is" */
    private static void lacksNothing() {
        CHECK.due("a new object", new RecastStage().lacks(), 0);
        RecastStage x = Check.stage("part p 0;part q 0;man a 0 1;man b 0 1;foes a b;act;scene p q;act;");
        CHECK.due("foes fill them, too", x.lacks(), 0);
        CHECK.due("though there is no CAST", x.casts(), 0);
        RecastStage y = Check.stage("part p 9;man a 9 1;act;scene p;");
        CHECK.due("one for one", y.lacks(), 0);
        y.cast(0, 0);
        CHECK.due("who is cast is of no matter", y.lacks(), 0);
        y.curtain();
        CHECK.due("all over", y.lacks(), 0);
        CHECK.due("no PARTS, no MEN", Check.stage("act;").lacks(), 0);
        RecastStage ill = Check.stage("part p 0;part q 0;man a 0 1;man b 0 1;act;scene p q;");
        ill.drawn(seedOf(2, 2));
        CHECK.due("an ill one fills none", ill.lacks(), 3);
    }

    /** "The least LOSS of all CASTS; NONE: there is none" */
    private static void leastIsNone() {
        CHECK.due("a new object", new RecastStage().least(), -1);
        CHECK.due("there is none", Check.stage("part p 1;man a 0 1;act;scene p;").least(), -1);
        RecastStage x = Check.stage("part p 0;man a 0 1;act;scene p;act;");
        CHECK.due("nothing to lose", x.least(), 0);
        Check.book(x, "best;curtain;", 1);
        CHECK.due("no PARTS", x.least(), 0);
        x.curtain();
        CHECK.due("all over", x.least(), -1);
    }

    private static void leastOfAll() {
        RecastStage x = Check.stage("part p 0;part q 0;man a 0 1;man b 4 1;man c 9 1;man d 6 1;rest;act;scene p q;act;"
                + "scene p q;act;scene p q;");
        Check.book(x, "a as p;c as q;curtain;", 1);
        CHECK.due("b as p, d as q: 4 and 3", x.least(), 7);
        Check.book(x, "d as p;b as q;curtain;", 1);
        CHECK.due("LOSS so far", x.now(2), 11);
        CHECK.due("c as p, a as q: 3 and 4", x.least(), 7);
        RecastStage most = Check.stage(SIX + "man m 0 1;man n 0 1;man o 0 1;man p 0 1;man q 9 1;man r 9 1;man s 9 1;man t 9 1;"
                + "act;scene a b c d;act;scene a b c d;rest;");
        Check.book(most, "best;curtain;", 1);
        CHECK.due("most that can be: four MEN for four", most.least(), 36);
    }

    /** "The fewest WHISPERS (to MEN who do not know) behind which there is a CAST; NONE: not by any, all are over" */
    private static void whispersNoneAndMost() {
        CHECK.due("a new object", new RecastStage().whispers(), -1);
        StringBuilder text = new StringBuilder(SIX + "fact g;fact h;fact i;fact j;fact k;fact l;man m 0 1;man n 0 1;man o 0 1;"
                + "man p 0 1;man q 0 1;man r 0 1;act;scene a b c d e f;act;");
        for (char p = 'a'; p <= 'f'; p++) {
            for (char f = 'g'; f <= 'l'; f++) {
                text.append("needs ").append(p).append(' ').append(f).append(';');
            }
        }
        RecastStage x = Check.stage(text.toString());
        CHECK.due("each FACT to each", x.whispers(), 36);
        x.whisper(3, 2);
        CHECK.due("one fewer", x.whispers(), 35);
        RecastStage y = Check.stage("part p 0;fact f;needs p f;man a 0 1;man b 0 1;act;scene p;act;");
        CHECK.due("one", y.whispers(), 1);
        y.whisper(1, 0);
        CHECK.due("none: b knows", y.whispers(), 0);
        Check.book(y, "best;curtain;", 1);
        CHECK.due("none: no PARTS", y.whispers(), 0);
        y.curtain();
        CHECK.due("all are over", y.whispers(), -1);
        CHECK.due("not by any", Check.stage("part p 1;man a 0 1;act;scene p;").whispers(), -1);
        CHECK.due("no MEN", Check.stage("part p 0;act;scene p;").whispers(), -1);
        RecastStage ill = Check.stage("part p 0;fact f;needs p f;man a 0 1;act;scene p;");
        ill.drawn(seedOf(1, 1));
        CHECK.due("not by any: he is ill", ill.whispers(), -1);
    }

    /** "how many ROUNDS till REST (that by which it is seen counted)" */
    private static void pricesOfOneRound() {
        CHECK.due("no PARTS", Check.stage("man a 0 1;act;").prices(), 1);
        CHECK.due("no MEN", Check.stage("part p 0;act;scene p;").prices(), 1);
        CHECK.due("one MAN", Check.stage("part p 0;man a 0 1;act;scene p;").prices(), 1);
        CHECK.due("two MEN who like none", Check.stage("part p 0;man a 0 1;man b 0 1;act;scene p;").prices(), 2);
        CHECK.due("of whom one can't", Check.stage("part p 1;man a 0 1;man b 1 1;act;scene p;").prices(), 1);
        RecastStage two = Check.stage("part p 0;part q 0;man a 0 1;man b 0 1;act;scene p q;likes b q 1;");
        CHECK.due("two MEN who want two PARTS", two.prices(), 1);
        CHECK.due("a wants p", two.wants(0), 0);
        CHECK.due("b wants q", two.wants(1), 1);
    }

    /** "wants that by which liking less PRICE is most, if it is 0 or more (of like ones the first PART)" */
    private static void pricesWantWhatIsNought() {
        RecastStage x = Check.stage("part p 0;part q 0;man a 0 1;man b 0 1;likes a q 1;likes b q 1;never a p;never b p;act;"
                + "scene p q;");
        // 1 and 0 are wanted by both, -1 by none
        CHECK.due("prices()", x.prices(), 3);
        CHECK.due("price", x.price(1), 2);
        CHECK.due("wants(0)", x.wants(0), -1);
        CHECK.due("nobody can be p", x.price(0), 0);
        RecastStage one = Check.stage("part p 0;part q 0;man a 0 1;likes a q 1;act;scene p q;");
        CHECK.due("prices()", one.prices(), 1);
        CHECK.due("the most", one.wants(0), 1);
        RecastStage like = Check.stage("part p 0;part q 0;man a 0 1;likes a q 3;likes a p 3;act;scene q p;");
        CHECK.due("prices()", like.prices(), 1);
        CHECK.due("of like ones the first", like.wants(0), 0);
        RecastStage nought = Check.stage("part p 0;part q 0;man a 0 1;act;scene q p;");
        CHECK.due("prices()", nought.prices(), 1);
        CHECK.due("0 is enough", nought.wants(0), 0);
    }

    /** "each PART that is wanted by more than one is 1 more"; "by PRICES as they are" */
    private static void pricesOfMoreThanOne() {
        RecastStage x = Check.stage("part p 0;part q 0;man a 0 1;man b 0 1;man c 0 1;likes a p 9;likes b p 9;likes c p 9;act;"
                + "scene p;");
        // ten ROUNDS, in which it is worth 9 to 0, and that by which REST is seen
        CHECK.due("three raise it by 1 as two do", x.prices(), 11);
        CHECK.due("price", x.price(0), 10);
        RecastStage y = Check.stage("part p 0;part q 0;man a 0 1;man b 0 1;likes a p 5;likes b p 3;act;scene p;");
        CHECK.due("till b wants it no more", y.prices(), 5);
        CHECK.due("price", y.price(0), 4);
        CHECK.due("a wants it", y.wants(0), 0);
        CHECK.due("b does not", y.wants(1), -1);
        RecastStage z = Check.stage("part p 0;part q 0;man a 0 1;man b 0 1;man c 0 1;man d 0 1;likes a p 1;likes b p 1;"
                + "likes c q 1;likes d q 1;act;scene p q;");
        // both go up in one ROUND: by 1, by 0; then nobody wants any
        CHECK.due("prices()", z.prices(), 3);
        CHECK.due("price(0)", z.price(0), 2);
        CHECK.due("price(1)", z.price(1), 2);
    }

    /** "99 ROUNDS at most": a PRICE above 9 is wanted by nobody, so that there are 61 at most */
    private static void pricesOfManyRounds() {
        StringBuilder text = new StringBuilder(SIX + EIGHT + "act;scene a b c d e f;");
        for (char m = 'm'; m <= 't'; m++) {
            for (char p = 'a'; p <= 'f'; p++) {
                text.append("likes ").append(m).append(' ').append(p).append(" 9;");
            }
        }
        RecastStage x = Check.stage(text.toString());
        CHECK.due("six PARTS up to 10 each, one by one", x.prices(), 61);
        for (int p = 0; p < 6; p++) {
            CHECK.due("price(" + p + ")", x.price(p), 10);
        }
        for (int m = 0; m < 8; m++) {
            CHECK.due("wants(" + m + ")", x.wants(m), -1);
        }
    }

    /** "prices: .. NONE: all are over" */
    private static void pricesAreNone() {
        CHECK.due("a new object", new RecastStage().prices(), -1);
        RecastStage x = Check.stage("act;");
        CHECK.due("one is left", x.prices(), 1);
        x.curtain();
        CHECK.due("all are over", x.prices(), -1);
    }

    /** "price: .. the latest prices() that was not NONE; NONE: no such one, or ahead of any" */
    private static void priceIsNone() {
        RecastStage x = Check.stage("part p 0;part q 0;man a 0 1;man b 0 1;act;scene q;act;scene p;likes a p 1;likes b p 1;");
        for (int p = -2; p < 4; p++) {
            CHECK.due("ahead of any", x.price(p), -1);
        }
        CHECK.due("prices()", x.prices(), 2);
        CHECK.due("not in the ACT", x.price(0), 0);
        CHECK.due("the last", x.price(1), 1);
        CHECK.due("one beyond", x.price(2), -1);
        for (int k : NO_NUMBERS) {
            CHECK.due("price(" + k + ")", x.price(k), -1);
        }
        Check.book(x, "best;curtain;", 1);
        CHECK.due("till the next prices()", x.price(1), 1);
        CHECK.due("prices()", x.prices(), 3);
        CHECK.due("0 at first", x.price(1), 0);
        CHECK.due("of this ACT", x.price(0), 2);
        Check.book(x, "best;curtain;", 1);
        CHECK.due("all are over", x.prices(), -1);
        CHECK.due("the latest that was not NONE", x.price(0), 2);
        RecastStage none = Check.stage("part p 0;man a 0 1;");
        CHECK.due("NONE", none.prices(), -1);
        CHECK.due("is none", none.price(0), -1);
        CHECK.due("is none", none.wants(0), -1);
    }

    /** "What a MAN wants by it (the last ROUND); NONE: none, no such one, or ahead of any" */
    private static void wantsIsNone() {
        RecastStage x = Check.stage("part p 0;part q 0;man a 0 1;man b 0 1;man c 0 1;likes a q 2;likes b q 1;never c p;never c q;"
                + "never a p;never b p;act;scene q;act;");
        for (int m = -2; m < 5; m++) {
            CHECK.due("ahead of any", x.wants(m), -1);
        }
        CHECK.due("prices()", x.prices(), 3);
        CHECK.due("a", x.wants(0), 1);
        CHECK.due("b wants none in the last ROUND", x.wants(1), -1);
        CHECK.due("c can be none", x.wants(2), -1);
        CHECK.due("one beyond", x.wants(3), -1);
        for (int k : NO_NUMBERS) {
            CHECK.due("wants(" + k + ")", x.wants(k), -1);
        }
        Check.book(x, "best;curtain;", 1);
        CHECK.due("till the next prices()", x.wants(0), 1);
        CHECK.due("prices()", x.prices(), 1);
        CHECK.due("no PARTS", x.wants(0), -1);
        RecastStage ill = Check.stage("part p 0;part q 0;man a 0 1;man b 0 1;act;scene p q;");
        ill.drawn(seedOf(2, 2));
        CHECK.due("prices()", ill.prices(), 1);
        CHECK.due("a is well", ill.wants(0), 0);
        CHECK.due("b is ill", ill.wants(1), -1);
    }

    /** "ACTS that go on from now on by the BEST CAST each" */
    private static void goesOnByNoneToAll() {
        CHECK.due("a new object", new RecastStage().goesOn(), 0);
        RecastStage x = Check.stage("part p 0;man a 0 1;" + Check.times("act;scene p;", 6));
        for (int left = 6; left >= 0; left--) {
            CHECK.due("all of " + left, x.goesOn(), left);
            CHECK.due("joy()", x.joy(), 0);
            CHECK.due("all stays", x.now(0), 6 - left);
            Check.book(x, "best;curtain;", 1);
        }
        RecastStage rest = Check.stage("part p 0;man a 0 1;rest;act;scene p;act;scene p;act;");
        CHECK.due("he must rest", rest.goesOn(), 1);
        RecastStage first = Check.stage("part p 1;man a 0 1;act;scene p;act;act;");
        CHECK.due("none", first.goesOn(), 0);
        CHECK.due("no MEN, no PARTS", Check.stage("act;act;").goesOn(), 2);
        RecastStage shown = Check.stage("part p 0;part q 0;fact f;needs q f;man a 0 1;act;scene p;shows f;act;scene q;");
        CHECK.due("what is shown is learned", shown.goesOn(), 2);
        CHECK.due("but not known now", shown.man(0, 3), 0);
    }

    /** "JOY in all by that (of these ACTS alone)" */
    private static void joyOfTheseActsAlone() {
        CHECK.due("a new object", new RecastStage().joy(), 0);
        RecastStage x = Check.stage("part p 0;part q 5;man a 0 1;man b 0 1;likes a p 3;likes b p 2;act;scene p;act;scene p;act;"
                + "scene q;act;scene p;");
        CHECK.due("3 and 3, then there is none", x.joy(), 6);
        Check.book(x, "b as p;curtain;", 1);
        CHECK.due("JOY so far", x.now(1), 2);
        CHECK.due("3", x.joy(), 3);
        Check.book(x, "best;curtain;", 1);
        CHECK.due("none", x.joy(), 0);
        CHECK.due("JOY so far", x.now(1), 5);
    }

    /** "x becomes x * 1103515245 + 12345 (an int, wrapping), the draw is (x >>> 8) % n" */
    private static void drawsWrapAround() {
        int[] seeds = {0, 1, -1, 2, -2, 12345, -12345, 65535, 65536, 1 << 30, 1 << 31, Integer.MAX_VALUE, Integer.MAX_VALUE - 1,
            Integer.MIN_VALUE + 1, 1103515245, -1103515245, 0x55555555, 0xaaaaaaaa};
        for (int seed : seeds) {
            // nobody can be cast in the second ACT, so that its draws stay to be seen
            RecastStage x = Check.stage("part a 9;" + EIGHT + "act;act;scene a;");
            long[] draws = from(seed);
            ill(draws, 8);
            int ill = ill(draws, 8);
            CHECK.due("drawn(" + seed + ")", x.drawn(seed), 1);
            for (int m = 0; m < 8; m++) {
                CHECK.due("draw " + m + " of " + seed, x.man(m, 7), ill >> m & 1);
            }
        }
    }

    /** "if there is none, the EVENING stops ahead of that (nobody cast, the ill stay ill)" */
    private static void drawnStops() {
        RecastStage x = Check.stage("part p 0;part q 0;man a 0 1;man b 0 1;man c 0 1;act;scene p q;act;scene p q;");
        int seed = seedOf(6, 3);
        x.cast(2, 1);
        CHECK.due("one MAN for two PARTS", x.drawn(seed), 0);
        CHECK.due("nobody cast", x.now(3), 0);
        CHECK.due("ACT 0", x.now(0), 0);
        CHECK.due("ill", x.man(0, 7) + 2 * x.man(1, 7) + 4 * x.man(2, 7), 6);
        CHECK.due("undo()", x.undo(), 1);
        CHECK.due("cast as he was", x.part(1, 2), 2);
        CHECK.due("nobody ill", x.man(0, 7) + x.man(1, 7) + x.man(2, 7), 0);
        int one = seedOf(1, 3);
        CHECK.due("two MEN for two PARTS", x.drawn(one) > 0, true);
        CHECK.due("a did not play", x.part(0, 3) + x.part(1, 3) > 0, true);
        RecastStage all = Check.stage(EIGHT + Check.times("act;", 6));
        CHECK.due("no PARTS: all ACTS", all.drawn(5), 6);
        CHECK.due("nobody ill", all.man(0, 7), 0);
        RecastStage last = Check.stage("man a 0 1;act;act;");
        last.curtain();
        CHECK.due("from now on", last.drawn(5), 1);
    }

    /** "drawn: .. NONE: no MEN, all are over" */
    private static void drawnIsNone() {
        CHECK.due("a new object", new RecastStage().drawn(0), -1);
        CHECK.due("no MEN", Check.stage("act;").drawn(0), -1);
        CHECK.due("no ACTS", Check.stage("man a 0 1;").drawn(0), -1);
        RecastStage x = Check.stage("man a 0 1;act;");
        CHECK.due("one MAN, one ACT", x.drawn(0), 1);
        CHECK.due("all are over", x.drawn(0), -1);
        CHECK.due("one can be undone", x.undo(), 0);
        RecastStage none = Check.stage("part p 0;act;scene p;");
        CHECK.due("no MEN", none.drawn(0), -1);
        CHECK.due("nothing can be undone", none.undo(), -1);
    }

    private static final String ODDS = "part p 0;part q 0;man a 0 1;man b 0 1;man c 0 1;act;scene p;act;scene p q;";

    /** The same by drawn(), seed by seed, from this ACT on. */
    private static int oddsBySeeds(int n, int seed, int act) {
        int sum = 0;
        for (int k = 0; k < n; k++) {
            RecastStage x = Check.stage(ODDS);
            Check.book(x, Check.times("best;curtain;", act), 1);
            sum += x.drawn(seed + k) == 2 - act ? 1 : 0;
        }
        return sum;
    }

    /** "Of n (1 to 40) seeds x, x and 1, .. by how many all ACTS that are left are played" */
    private static void oddsOfOneToForty() {
        RecastStage x = Check.stage(ODDS);
        CHECK.due("odds(0, 7)", x.odds(0, 7), -1);
        for (int n = 1; n <= 40; n++) {
            CHECK.due("odds(" + n + ", 7)", x.odds(n, 7), oddsBySeeds(n, 7, 0));
        }
        CHECK.due("odds(41, 7)", x.odds(41, 7), -1);
        CHECK.due("all stays", x.now(0), 0);
        CHECK.due("nobody is ill", x.man(0, 7) + x.man(1, 7) + x.man(2, 7), 0);
        CHECK.due("nothing can be undone", x.undo(), -1);
        RecastStage all = Check.stage("man a 0 1;act;");
        CHECK.due("by all", all.odds(40, 0), 40);
        CHECK.due("by none", Check.stage("part p 1;man a 0 1;act;scene p;").odds(40, 0), 0);
        x.cast(0, 0);
        x.curtain();
        CHECK.due("of the ACTS that are left", x.odds(40, 60), oddsBySeeds(40, 60, 1));
    }

    private static void oddsOfSeedsThatWrap() {
        RecastStage x = Check.stage(ODDS);
        for (int seed : new int[] {Integer.MAX_VALUE, Integer.MAX_VALUE - 20, Integer.MIN_VALUE, -20, 0}) {
            CHECK.due("odds(40, " + seed + ")", x.odds(40, seed), oddsBySeeds(40, seed, 0));
        }
    }

    /** "odds: .. NONE: not as told, no MEN, all are over" */
    private static void oddsIsNone() {
        CHECK.due("a new object", new RecastStage().odds(1, 1), -1);
        CHECK.due("no MEN", Check.stage("act;").odds(1, 1), -1);
        CHECK.due("no ACTS", Check.stage("man a 0 1;").odds(1, 1), -1);
        RecastStage x = Check.stage("man a 0 1;act;");
        CHECK.due("one", x.odds(1, 1), 1);
        for (int k : NO_NUMBERS) {
            CHECK.due("odds(" + k + ", 1)", x.odds(k, 1), -1);
        }
        x.curtain();
        CHECK.due("all are over", x.odds(1, 1), -1);
    }
}
