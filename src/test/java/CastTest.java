/** CASTS, SHORT, PRICES, evenings by draws: promises 17 to 24, 28 to 32, 34 and 35. */
public final class CastTest {
    private static final Check CHECK = new Check();

    public static void main(String[] args) {
        best();
        bestStays();
        casts();
        manyCasts();
        lacks();
        least();
        whispers();
        prices();
        goingOn();
        drawn();
        illness();
        odds();
        CHECK.finish();
    }

    private static String bestAs(RecastStage x) {
        StringBuilder row = new StringBuilder();
        for (int p = 0; p < x.count(0); p++) {
            row.append(p == 0 ? "" : " ").append(x.bestAs(p));
        }
        return row.toString();
    }

    private static void best() {
        RecastStage x = Check.stage("part p 0;part q 0;part r 0;man a 0 1;man b 0 1;man c 0 1;act;scene p r;"
                + "likes a p 5;likes b p 4;likes a r 5;likes b r 1;");
        CHECK.due("best()", x.best(), 9);
        CHECK.row("b as p, a as r", bestAs(x), "1 -1 0");
        CHECK.due("bestAs(3)", x.bestAs(3), -1);
        CHECK.due("bestAs(-1)", x.bestAs(-1), -1);
        CHECK.due("nobody is cast by it", x.now(3), 0);
        CHECK.due("nothing to undo", x.undo(), -1);
        RecastStage y = Check.stage("part p 0;part q 0;man a 0 1;man b 0 1;man c 0 1;act;scene p q;");
        CHECK.due("all alike", y.best(), 0);
        CHECK.row("the first", bestAs(y), "0 1");
        RecastStage z = Check.stage("part p 0;part q 0;man a 0 1;man b 0 1;man c 0 1;act;scene p q;likes b p 2;"
                + "likes c q 2;likes b q 4;likes c p 1;");
        CHECK.due("best()", z.best(), 5);
        CHECK.row("c as p, b as q", bestAs(z), "2 1");
        RecastStage f = Check.stage("part p 0;part q 0;man a 0 1;man b 0 1;man c 0 1;act;scene p q;likes a p 9;"
                + "likes b q 9;likes c q 1;foes a b;");
        CHECK.due("foes apart", f.best(), 10);
        CHECK.row("a as p, c as q", bestAs(f), "0 2");
        CHECK.due("b is cast", f.cast(1, 0), 0);
        CHECK.due("who is cast is of no matter", f.best(), 10);
    }

    private static void bestStays() {
        RecastStage x = Check.stage("part p 0;man a 0 1;man b 0 1;act;scene p;likes b p 1;");
        CHECK.due("ahead of any", x.bestAs(0), -1);
        CHECK.due("best()", x.best(), 1);
        x.cast(0, 0);
        x.curtain();
        CHECK.due("all are over", x.best(), -1);
        CHECK.due("the latest that was not NONE", x.bestAs(0), 1);
        Check.play(x, "part p 9;man a 0 1;act;scene p;");
        CHECK.due("there is none", x.best(), -1);
        CHECK.due("the latest that was not NONE", x.bestAs(0), 1);
        Check.play(x, "part p 0;man a 0 1;man b 0 1;act;act;scene p;likes b p 1;");
        CHECK.due("an ACT without PARTS", x.best(), 0);
        CHECK.due("nobody", x.bestAs(0), -1);
    }

    private static void casts() {
        RecastStage x = Check.stage("part p 0;part q 5;part r 0;man a 9 1;man b 5 1;man c 0 1;man d 0 1;act;scene p q;"
                + "never d p;foes a c;act;");
        // p by a, b, c; q by a, b: ab ba cb (ca are foes)
        CHECK.due("casts()", x.casts(), 3);
        CHECK.due("bowed a b", x.bowed(3), 2);
        CHECK.due("bowed b c", x.bowed(6), 1);
        CHECK.due("bowed a c", x.bowed(5), 0);
        CHECK.due("bowed a b c", x.bowed(7), 0);
        CHECK.due("bowed by one", x.bowed(2), 0);
        CHECK.due("bowed by nobody", x.bowed(0), 0);
        CHECK.due("no such MEN", x.bowed(16), -1);
        CHECK.due("no such MEN", x.bowed(19), -1);
        CHECK.due("no such MEN", x.bowed(-1), -1);
        CHECK.due("no such MEN", x.bowed(Integer.MIN_VALUE), -1);
        CHECK.due("b is in each", x.surely(), 2);
        x.cast(1, 0);
        CHECK.due("who is cast is of no matter", x.casts(), 3);
        x.cast(0, 1);
        x.curtain();
        CHECK.due("an ACT without PARTS", x.casts(), 1);
        CHECK.due("bowed by nobody", x.bowed(0), 1);
        CHECK.due("nobody is in each", x.surely(), 0);
        x.curtain();
        CHECK.due("all are over", x.casts(), 0);
        CHECK.due("all are over", x.bowed(0), 0);
        CHECK.due("no such MEN", x.bowed(16), -1);
        CHECK.due("all are over", x.surely(), -1);
        // c as p leaves nobody for q: what is no CAST does not count
        RecastStage dead = Check.stage("part p 0;part q 0;man a 0 1;man b 0 1;man c 0 1;act;scene p q;foes a c;never b q;"
                + "never b p;never c q;");
        CHECK.due("nobody beside a as q", dead.casts(), 0);
        RecastStage sure = Check.stage("part p 0;part q 5;man a 5 1;man b 0 1;man c 0 1;act;scene p q;foes a c;");
        CHECK.due("b as p, a as q", sure.casts(), 1);
        CHECK.due("both", sure.surely(), 3);
        RecastStage y = Check.stage("part p 1;man a 0 1;act;scene p;");
        CHECK.due("there is none", y.casts(), 0);
        CHECK.due("there is none", y.surely(), -1);
        CHECK.due("there is none", y.bowed(1), 0);
    }

    private static void manyCasts() {
        RecastStage x = Check.stage("part a 0;part b 0;part c 0;part d 0;part e 0;part f 0;man m 1 1;man n 2 1;man o 3 1;"
                + "man p 4 1;man q 5 1;man r 6 1;man s 7 1;man t 8 1;act;scene a b c d e f;likes t f 9;likes s e 8;"
                + "likes t e 9;");
        CHECK.due("8 over 2", x.casts(), 20160);
        CHECK.due("6 over 0", x.bowed(63), 720);
        CHECK.due("6 over 0", x.bowed(252), 720);
        CHECK.due("nobody surely", x.surely(), 0);
        CHECK.due("best()", x.best(), 17);
        CHECK.row("the first of them", bestAs(x), "0 1 2 3 6 7");
        CHECK.due("lacks()", x.lacks(), 0);
    }

    private static void lacks() {
        RecastStage x = Check.stage("part a 0;part b 5;part c 5;part d 9;man m 5 1;man n 0 1;man o 0 1;act;scene a b;"
                + "act;scene a b c;act;scene a b c d;act;scene a;");
        CHECK.due("all can be filled", x.lacks(), 0);
        x.cast(0, 1);
        CHECK.due("who is cast is of no matter", x.lacks(), 0);
        x.cast(1, 0);
        x.curtain();
        CHECK.due("b and c want one MAN", x.lacks(), 6);
        CHECK.due("so there is no CAST", x.casts(), 0);
        RecastStage y = Check.stage("part a 0;part b 5;part c 5;part d 9;man m 5 1;man n 0 1;man o 0 1;act;scene a b c d;");
        CHECK.due("the smallest: nobody can d", y.lacks(), 8);
        RecastStage z = Check.stage("part a 5;part b 5;part c 5;man m 5 1;act;scene c b;scene a;");
        CHECK.due("of like ones the least", z.lacks(), 3);
        RecastStage f = Check.stage("part a 0;part b 0;man m 5 1;man n 5 1;foes m n;act;scene a b;");
        CHECK.due("foes are of no matter", f.lacks(), 0);
        CHECK.due("though there is no CAST", f.casts(), 0);
        RecastStage none = Check.stage("part a 0;part b 0;act;scene b;act;");
        CHECK.due("no MEN", none.lacks(), 2);
        CHECK.due("all are over", new RecastStage().lacks(), 0);
    }

    private static void least() {
        RecastStage x = Check.stage("part p 0;part q 0;man a 1 1;man b 9 1;man c 4 1;rest;act;scene p;act;scene p q;"
                + "act;scene p;likes b p 9;");
        CHECK.due("none was played", x.least(), 0);
        x.cast(0, 0);
        x.curtain();
        CHECK.due("a rests: c as p", x.least(), 3);
        x.cast(1, 0);
        x.cast(2, 1);
        x.curtain();
        CHECK.due("LOSS so far", x.now(2), 8);
        CHECK.due("a alone", x.least(), 8);
        x.cast(0, 0);
        x.curtain();
        CHECK.due("all are over", x.least(), -1);
        CHECK.due("there is none", Check.stage("part p 1;man a 0 1;act;scene p;").least(), -1);
        CHECK.due("an ACT without PARTS", Check.stage("act;").least(), 0);
    }

    private static void whispers() {
        RecastStage x = Check.stage("part p 0;part q 0;fact f;fact g;man a 0 1;man b 0 1;act;scene p q;needs p f;"
                + "needs p g;needs q g;never a q;");
        CHECK.due("f, g to a and g to b", x.whispers(), 3);
        x.whisper(1, 0);
        CHECK.due("f to b is no help", x.whispers(), 3);
        x.whisper(1, 1);
        x.whisper(0, 1);
        CHECK.due("f to a", x.whispers(), 1);
        x.whisper(0, 0);
        CHECK.due("none is wanted", x.whispers(), 0);
        x.cast(0, 0);
        x.cast(1, 1);
        CHECK.due("who is cast is of no matter", x.whispers(), 0);
        x.curtain();
        CHECK.due("all are over", x.whispers(), -1);
        CHECK.due("not by any", Check.stage("part p 1;fact f;man a 0 1;act;scene p;needs p f;").whispers(), -1);
        RecastStage y = Check.stage("part p 0;part q 0;fact f;man a 0 1;man b 0 1;man c 0 1;act;scene p q;foes a b;"
                + "needs p f;needs q f;never c q;");
        CHECK.due("whispers()", y.whispers(), 2);
        y.whisper(0, 0);
        y.whisper(1, 0);
        CHECK.due("foes do not help one another", y.whispers(), 1);
    }

    private static void prices() {
        RecastStage x = Check.stage("part p 0;part q 0;part r 0;man a 0 1;man b 0 1;man c 0 1;act;scene p q;likes a p 3;"
                + "likes b p 5;likes b q 4;likes c q 1;never c p;act;");
        CHECK.due("ahead of any", x.price(0), -1);
        CHECK.due("ahead of any", x.wants(0), -1);
        // 1: a p(3) b p(5) c q(1): p 1; 2: a p(2), b p(4) (q alike), c q: p 2; 3: a p(1), b q(4), c q(1): q 1;
        // 4: a p(1), b p(3) (q alike), c q(0): p 3; 5: a p(0) (q below 0), b q(3), c q(0): q 2; 6: a p, b p(2), c none:
        // p 4; 7: a none, b q(2): REST
        CHECK.due("prices()", x.prices(), 7);
        CHECK.due("price(0)", x.price(0), 4);
        CHECK.due("price(1)", x.price(1), 2);
        CHECK.due("a PART that is not in the ACT", x.price(2), 0);
        CHECK.due("price(3)", x.price(3), -1);
        CHECK.due("price(-1)", x.price(-1), -1);
        CHECK.due("wants(0)", x.wants(0), -1);
        CHECK.due("wants(1)", x.wants(1), 1);
        CHECK.due("wants(2)", x.wants(2), -1);
        CHECK.due("wants(3)", x.wants(3), -1);
        CHECK.due("wants(-1)", x.wants(-1), -1);
        x.cast(1, 0);
        CHECK.due("who is cast is of no matter", x.prices(), 7);
        x.cast(0, 1);
        x.curtain();
        CHECK.due("the latest prices() stays", x.price(0), 4);
        CHECK.due("an ACT without PARTS", x.prices(), 1);
        CHECK.due("price(0)", x.price(0), 0);
        CHECK.due("wants(1)", x.wants(1), -1);
        x.curtain();
        CHECK.due("all are over", x.prices(), -1);
        CHECK.due("price(0)", x.price(0), 0);
        RecastStage y = Check.stage("part p 0;part q 0;man a 0 1;act;scene q;scene p;");
        CHECK.due("prices()", y.prices(), 1);
        CHECK.due("of like ones the first, 0 is enough", y.wants(0), 0);
    }

    private static void goingOn() {
        RecastStage x = Check.stage("part p 0;part q 0;man a 0 1;man b 0 1;man c 0 1;rest;act;scene p;act;act;scene p q;"
                + "act;scene p q;act;scene p;likes a p 7;likes b p 3;likes b q 2;likes c q 1;");
        // a (7), nobody, a as p and b as q (9), then c alone for two PARTS
        CHECK.due("goesOn()", x.goesOn(), 3);
        CHECK.due("joy()", x.joy(), 16);
        CHECK.due("all stays", x.now(0), 0);
        x.cast(1, 0);
        CHECK.due("who is cast is of no matter", x.joy(), 16);
        CHECK.due("and stays", x.now(3), 2);
        x.curtain();
        CHECK.due("JOY so far", x.now(1), 3);
        CHECK.due("goesOn()", x.goesOn(), 2);
        CHECK.due("joy of these ACTS alone", x.joy(), 9);
        RecastStage y = Check.stage("part p 9;man a 0 1;act;scene p;");
        CHECK.due("goesOn()", y.goesOn(), 0);
        CHECK.due("joy()", y.joy(), 0);
    }

    /** The MEN of n whom the next draws from x make ill, as bits; the seed goes on in x[0]. */
    private static int drawIll(int[] x, int n) {
        int ill = 0;
        for (int m = 0; m < n; m++) {
            x[0] = x[0] * 1103515245 + 12345;
            if ((x[0] >>> 8) % 6 == 0) {
                ill |= 1 << m;
            }
        }
        return ill;
    }

    private static void drawn() {
        String text = "part p 0;man a 0 1;man b 0 1;man c 0 1;act;scene p;act;scene p;act;scene p;likes b p 2;likes c p 1;";
        int[] likes = {0, 2, 1};
        int[] order = {1, 2, 0};
        for (int seed = -20; seed < 60; seed++) {
            RecastStage x = Check.stage(text);
            x.cast(0, 0);
            int[] draws = {seed};
            int played = 0;
            int joy = 0;
            int ill = 0;
            while (played < 3) {
                ill = drawIll(draws, 3);
                int who = -1;
                for (int k = 2; k >= 0; k--) {
                    who = (ill >> order[k] & 1) == 0 ? order[k] : who;
                }
                if (who < 0) {
                    break;
                }
                joy += likes[who];
                played++;
                ill = 0;
            }
            CHECK.due("drawn(" + seed + ")", x.drawn(seed), played);
            CHECK.due("next behind " + seed, x.now(0), played);
            CHECK.due("JOY behind " + seed, x.now(1), joy);
            CHECK.due("nobody cast behind " + seed, x.now(3), 0);
            for (int m = 0; m < 3; m++) {
                CHECK.due("ill behind " + seed, x.man(m, 7), ill >> m & 1);
            }
            CHECK.due("undo behind " + seed, x.undo(), 1);
            CHECK.due("cast as it was", x.now(3), 1);
        }
        for (int seed = 0; seed < 40; seed++) {
            RecastStage x = Check.stage("part p 9;man a 0 1;man b 0 1;act;scene p;act;act;");
            CHECK.due("drawn(" + seed + ") of none", x.drawn(seed), 0);
            CHECK.due("no draws behind the stop", x.man(0, 7) + 2 * x.man(1, 7), drawIll(new int[] {seed}, 2));
        }
        CHECK.due("no MEN", Check.stage("act;").drawn(1), -1);
        CHECK.due("no ACTS", Check.stage("man a 0 1;").drawn(1), -1);
    }

    /** A seed by which the only MAN is ill at once. */
    private static int illSeed() {
        int seed = 0;
        while (drawIll(new int[] {seed}, 1) == 0) {
            seed++;
        }
        return seed;
    }

    private static void illness() {
        int seed = illSeed();
        RecastStage x = Check.stage("part p 0;fact f;man a 0 4;act;scene p;shows f;act;scene p;likes a p 3;");
        CHECK.due("drawn(seed)", x.drawn(seed), 0);
        CHECK.due("he is ill", x.man(0, 7), 1);
        CHECK.due("10: he is ill", x.why(0, 0), 10);
        CHECK.due("cast", x.cast(0, 0), 10);
        CHECK.due("best()", x.best(), -1);
        CHECK.due("casts()", x.casts(), 0);
        CHECK.due("lacks()", x.lacks(), 1);
        CHECK.due("least()", x.least(), -1);
        CHECK.due("whispers()", x.whispers(), -1);
        CHECK.due("goesOn()", x.goesOn(), 0);
        CHECK.due("prices()", x.prices(), 1);
        CHECK.due("wants(0)", x.wants(0), -1);
        int well = seed + 1;
        while (drawIll(new int[] {well}, 1) != 0) {
            well++;
        }
        CHECK.due("the ill stay ill", x.drawn(well), 0);
        CHECK.due("he is ill", x.man(0, 7), 1);
        CHECK.due("undo()", x.undo(), 1);
        CHECK.due("undo()", x.undo(), 0);
        CHECK.due("he is well again", x.man(0, 7), 0);

        RecastStage z = Check.stage("part p 5;fact f;man a 0 4;man b 5 2;act;scene p;shows f;likes a p 1;");
        int third = 0;
        while (drawIll(new int[] {third}, 2) != 1) {
            third++;
        }
        CHECK.due("b plays, a is ill", z.drawn(third), 1);
        CHECK.due("an ill one watches", z.man(0, 3), 1);
        CHECK.due("and pays", z.now(5), 4);
        CHECK.due("and claps", z.man(1, 5), 1);
        CHECK.due("nobody is ill behind it", z.man(0, 7), 0);
    }

    private static void odds() {
        String text = "part p 0;part q 0;man a 0 1;man b 0 1;man c 0 1;act;scene p q;act;scene p q;act;scene q;";
        RecastStage x = Check.stage(text);
        for (int n = 1; n <= 40; n += 13) {
            for (int step = 0; step < 6; step++) {
                int seed = Integer.MAX_VALUE - 20 + 7 * step;
                int whole = 0;
                for (int k = 0; k < n; k++) {
                    RecastStage y = Check.stage(text);
                    if (y.drawn(seed + k) == 3) {
                        whole++;
                    }
                }
                CHECK.due("odds(" + n + ", " + seed + ")", x.odds(n, seed), whole);
            }
        }
        CHECK.due("all stays", x.now(0), 0);
        CHECK.due("nothing to undo", x.undo(), -1);
        CHECK.due("odds(0, 1)", x.odds(0, 1), -1);
        CHECK.due("odds(41, 1)", x.odds(41, 1), -1);
        CHECK.due("odds(-1, 1)", x.odds(-1, 1), -1);
        CHECK.due("odds(40, 1)", x.odds(40, 1) >= 0, true);
        CHECK.due("no MEN", Check.stage("act;").odds(1, 1), -1);
        CHECK.due("no ACTS", Check.stage("man a 0 1;").odds(1, 1), -1);
        CHECK.due("none can be played", Check.stage("part p 9;man a 0 1;act;scene p;").odds(40, 5), 0);
        CHECK.due("all can be played", Check.stage("man a 0 1;act;").odds(40, 5), 40);
    }
}
