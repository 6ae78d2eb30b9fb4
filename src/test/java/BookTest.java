/** BOOKS, SENTENCES and images: promises 36 to 41. */
public final class BookTest {
    private static final Check CHECK = new Check();
    private static final String PLAY = "part king 5;part maid 2;fact key;fact cup;clears key maid;man ann 6 2;man bob 5 3;"
            + "man cid 2 1;man dot 3 4;act;scene king maid;shows key;act;scene king;scene maid;shows cup;needs king key;"
            + "likes ann king 4;likes bob king 7;likes cid maid 3;likes dot maid 2;foes bob cid;rest;";

    public static void main(String[] args) {
        faultsOfBooks();
        linesOfBooks();
        wrongLines();
        livedBooks();
        faultsOfSentences();
        onesOfSentences();
        saidOfMen();
        images();
        CHECK.finish();
    }

    private static void bookFault(int kind, String marked) {
        RecastStage x = Check.stage(PLAY);
        String text = marked.replace("^", "");
        CHECK.due("book(1) of " + marked, Check.book(x, text, 1), -2 - marked.indexOf('^'));
        CHECK.due("fault() of " + marked, x.fault(), kind);
        CHECK.due("tape behind " + marked, x.count(6), 0);
        CHECK.due("booked ahead of any", x.booked(0), -1);
        CHECK.due("nothing was lived", x.undo(), -1);
    }

    private static void faultsOfBooks() {
        bookFault(1, "^;");
        bookFault(1, "best^");
        bookFault(1, "best;^as;");
        bookFault(1, "^act;");
        bookFault(1, "^5 as king;");
        bookFault(1, "ann ^king;");
        bookFault(1, "ann as^;");
        bookFault(1, "ann as ^as;");
        bookFault(1, "ann as king ^maid;");
        bookFault(1, "whisper^");
        bookFault(1, "whisper ann^;");
        bookFault(1, "whisper ^best key;");
        bookFault(1, "curtain ^curtain;");
        bookFault(3, "^eve as king;");
        bookFault(3, "^king as king;");
        bookFault(3, "ann as ^ann;");
        bookFault(3, "ann as ^key;");
        bookFault(3, "whisper ^key key;");
        bookFault(3, "whisper ann ^king;");
        bookFault(3, "whisper ann ^queen;");
        bookFault(1, "whisper ann ^abcdefgh;");
        String forty = Check.times("best;", 40);
        bookFault(4, forty + "^best;");
        bookFault(4, forty + "^ann;");
        bookFault(4, forty + "^whisper king;");
        bookFault(3, forty + "^eve as king;");
        bookFault(3, forty + "^king as king;");
        bookFault(1, forty + "^as;");
        bookFault(1, forty + "^;");
        bookFault(1, "best;" + Check.times(" ", 395) + "^ ");
        bookFault(1, "best;" + Check.times(" ", 394) + "b^est;");
        bookFault(3, "best;" + Check.times(" ", 394) + "^bests as king;");
    }

    private static void linesOfBooks() {
        RecastStage x = Check.stage(PLAY);
        CHECK.due("400 bytes", Check.book(x, Check.times(" ", 395) + "best;", 0), 0);
        CHECK.due("40 LINES", Check.book(x, "whisper bob key;" + Check.times("best;", 39), 0), -1);
        CHECK.due("booked(1)", x.booked(1), 40);
        for (int what : new int[] {-1, 4, Integer.MAX_VALUE}) {
            CHECK.due("booked(" + what + ")", x.booked(what), -1);
        }
        Check.tape(x, "best;");
        for (int lives : new int[] {-1, 2, Integer.MIN_VALUE}) {
            CHECK.due("book(" + lives + ")", x.book(lives), -1000);
        }
        CHECK.due("the tape stays", x.count(6), 5);
        CHECK.due("booked stays", x.booked(1), 40);
        CHECK.due("book(0)", x.book(0), 0);
        CHECK.due("the tape is empty", x.count(6), 0);
        CHECK.due("a FAULT", Check.book(x, "best", 0), -6);
        CHECK.due("booked stays", x.booked(0), 13);
    }

    private static void wrong(String text, int line, int why) {
        RecastStage x = Check.stage(PLAY);
        CHECK.due("book(0) of " + text, Check.book(x, text, 0), line);
        CHECK.due("booked(0) of " + text, x.booked(0), why);
        CHECK.due("all stays", x.now(0) + x.now(3) + x.now(4), 0);
        RecastStage y = Check.stage(PLAY);
        CHECK.due("book(1) of " + text, Check.book(y, text, 1), line);
        CHECK.due("booked(0) of " + text, y.booked(0), why);
    }

    private static void wrongLines() {
        wrong("", -1, 0);
        wrong("dot as king;", 0, 4);
        wrong("bob as king;", 0, 6);
        wrong("whisper bob key;bob as king;bob as maid;", 2, 7);
        wrong("dot as maid;cid as maid;", 1, 8);
        wrong("whisper bob key;cid as maid;bob as king;", 2, 9);
        wrong("curtain;", 0, 11);
        wrong("dot as maid;curtain;best;", 1, 11);
        wrong("whisper bob key;whisper bob key;", 1, 12);
        wrong("best;", 0, 13);
        wrong("whisper ann key;ann as maid;best;curtain;ann as maid;", 4, 5);
        wrong("whisper ann key;best;curtain;best;curtain;best;", 5, 13);
        wrong("whisper ann key;best;curtain;best;curtain;curtain;", 5, 11);
        wrong("whisper ann key;best;curtain;best;curtain;ann as maid;", 5, 1);
        wrong("whisper ann key;best;curtain;best;curtain;whisper ann cup;", 5, 12);
    }

    private static void livedBooks() {
        RecastStage x = Check.stage(PLAY);
        // 'best' sends off whoever was cast: bob as king, dot as maid is best, for bob and cid are foes
        CHECK.due("book(1)", Check.book(x, "whisper bob key;ann as maid;best;curtain;ann as maid;bob as king;cid as king;", 1),
                5);
        CHECK.due("booked(0)", x.booked(0), 5);
        CHECK.due("booked(1)", x.booked(1), 5);
        CHECK.due("booked(2)", x.booked(2), 1);
        CHECK.due("booked(3)", x.booked(3), 9);
        CHECK.due("the next ACT", x.now(0), 1);
        CHECK.due("JOY", x.now(1), 9);
        CHECK.due("cast", x.now(3), 1);
        CHECK.due("whispers", x.now(4), 1);
        CHECK.due("bestAs is of best() alone", x.bestAs(0), -1);
        CHECK.due("book(0)", Check.book(x, "best;curtain;", 0), -1);
        CHECK.due("booked(0)", x.booked(0), 0);
        CHECK.due("booked(1)", x.booked(1), 2);
        CHECK.due("booked(2)", x.booked(2), 2);
        CHECK.due("JOY of the BOOK alone", x.booked(3), 7);
        CHECK.due("all stays", x.now(0), 1);
        CHECK.due("cast as it was", x.now(3), 1);
        CHECK.due("undo()", x.undo(), 0);
        CHECK.due("nothing is lived", x.now(0) + x.now(1) + x.now(3) + x.now(4), 0);
    }

    private static void sentenceFault(int kind, String marked) {
        RecastStage x = Check.stage(PLAY);
        Check.sentence(x, "skill > 5");
        String text = marked.replace("^", "");
        CHECK.due("sentence() of " + marked, Check.sentence(x, text), -1 - marked.indexOf('^'));
        CHECK.due("fault() of " + marked, x.fault(), kind);
        CHECK.due("tape behind " + marked, x.count(6), 0);
        CHECK.due("the SENTENCE stays", x.said(-1), 1);
    }

    private static void faultsOfSentences() {
        sentenceFault(1, "^");
        sentenceFault(1, "  ^");
        sentenceFault(1, "^ann");
        sentenceFault(1, "^and");
        sentenceFault(1, "^;");
        sentenceFault(1, "plays ^;");
        sentenceFault(1, "plays ^plays");
        sentenceFault(1, "plays and^");
        sentenceFault(1, "plays or ^or");
        sentenceFault(1, "not^");
        sentenceFault(1, "not ^and");
        sentenceFault(1, "(^)");
        sentenceFault(1, "(plays^");
        sentenceFault(1, "(plays ^sure)");
        sentenceFault(1, "plays^)");
        sentenceFault(1, "knows^");
        sentenceFault(1, "knows ^not");
        sentenceFault(1, "knows ^5");
        sentenceFault(3, "knows ^king");
        sentenceFault(3, "knows ^nothing and");
        sentenceFault(1, "skill ^5");
        sentenceFault(1, "skill <^= 5");
        sentenceFault(1, "skill <^");
        sentenceFault(1, "skill < ^100");
        sentenceFault(1, "skill < ^key");
        sentenceFault(1, "skill ^( 5");
        sentenceFault(1, "^skills < 5");
        String twenty = "sure" + Check.times(" or sure", 19);
        sentenceFault(4, twenty + " and ^sure");
        sentenceFault(4, twenty + " or ^not");
        sentenceFault(4, twenty + " or ^knows king");
        sentenceFault(4, twenty + " or ^(");
        sentenceFault(1, twenty + " or ^as");
        sentenceFault(1, twenty + " or^");
        sentenceFault(4, Check.times("not ", 8) + "^sure");
        sentenceFault(4, Check.times("(", 8) + "^sure");
        sentenceFault(4, Check.times("(", 8) + "^(");
        sentenceFault(1, Check.times("(", 8) + "^)");
        sentenceFault(4, "sure and (not (not (not (not ^(");
        sentenceFault(1, "plays" + Check.times(" ", 195) + "^ ");
        sentenceFault(1, "plays" + Check.times(" ", 193) + "or^ sure");
        sentenceFault(1, "plays" + Check.times(" ", 194) + "^as sure");
        sentenceFault(1, "plays" + Check.times(" ", 195) + "^or sure");
    }

    private static void ones(String text, int count) {
        RecastStage x = Check.stage(PLAY);
        CHECK.due("sentence() of " + text, Check.sentence(x, text), count);
        CHECK.due("fault() of " + text, x.fault(), 0);
    }

    private static void onesOfSentences() {
        ones("plays", 1);
        ones("not plays", 2);
        ones("(plays)", 2);
        ones("not(plays)and(skill<99 or not sure)", 7);
        ones(Check.times("not ", 7) + "sure", 8);
        ones(Check.times("(", 7) + "sure" + Check.times(")", 7), 8);
        ones(Check.times("(", 7) + "sure and sure" + Check.times(")", 7) + " or " + Check.times("(", 7) + "sure"
                + Check.times(")", 7), 17);
        ones("sure" + Check.times(" or sure", 19), 20);
        ones("sure" + Check.times(" ", 196), 1);
    }

    private static void said(RecastStage x, String text, String men) {
        CHECK.due("fault of " + text, Check.sentence(x, text) > 0, true);
        StringBuilder row = new StringBuilder();
        int n = x.said(-1);
        for (int k = 0; k < n; k++) {
            row.append(k == 0 ? "" : " ").append(x.said(k));
        }
        CHECK.row("said of " + text, row.toString(), men);
        CHECK.due("none such", x.said(n), -1);
        CHECK.due("none such", x.said(-2), -1);
        CHECK.due("none such", x.said(Integer.MAX_VALUE), -1);
    }

    private static void saidOfMen() {
        RecastStage x = Check.stage(PLAY);
        CHECK.due("no SENTENCE", x.said(-1), -1);
        CHECK.due("no SENTENCE", x.said(0), -1);
        said(x, "rested", "0 1 2 3");
        said(x, "sure", "");
        Check.book(x, "whisper bob key;best;curtain;cid as maid;", 1);
        said(x, "plays", "2");
        said(x, "rested", "0 2");
        said(x, "knows key", "0 1 2 3");
        said(x, "knows cup", "");
        said(x, "sure", "0 1 2 3");
        said(x, "skill = 5", "1");
        said(x, "skill < 5", "2 3");
        said(x, "skill > 5", "0");
        said(x, "times = 1", "1 3");
        said(x, "times < 01", "0 2");
        said(x, "claps > 0", "1 3");
        said(x, "number > 1", "2 3");
        said(x, "number=0", "0");
        said(x, "not number=0", "1 2 3");
        said(x, "number=0 or number=1 and times=0", "0");
        said(x, "(number=0 or number=1) and times=1", "1");
        said(x, "not number=0 and not number=3", "1 2");
        said(x, "not (number=0 or number=3)", "1 2");
        said(x, "times=1 and skill=3 or plays", "2 3");
        said(x, "not not plays", "2");
        CHECK.due("the SENTENCE is of now", Check.sentence(x, "plays"), 1);
        x.drop(1);
        CHECK.due("so nobody plays", x.said(-1), 0);
        RecastStage empty = Check.stage("act;");
        CHECK.due("of no MEN", Check.sentence(empty, "not plays"), 2);
        CHECK.due("how many", empty.said(-1), 0);
        CHECK.due("the first", empty.said(0), -1);
    }

    private static void images() {
        RecastStage x = Check.stage(PLAY);
        for (int k : new int[] {-1, 2, Integer.MAX_VALUE, Integer.MIN_VALUE}) {
            CHECK.due("image(" + k + ")", x.image(k), false);
            CHECK.due("restore(" + k + ")", x.restore(k), false);
        }
        CHECK.due("nothing is kept there", x.restore(0), false);
        CHECK.due("nothing is kept there", x.restore(1), false);
        CHECK.due("image(1)", x.image(1), true);
        Check.book(x, "whisper bob key;best;", 1);
        Check.sentence(x, "plays");
        CHECK.due("best()", x.best(), 9);
        CHECK.due("prices()", x.prices(), 4);
        CHECK.due("image(0)", x.image(0), true);
        CHECK.due("what can be undone stays", x.undo(), 0);
        Check.play(x, "act;");
        CHECK.due("a FAULT", Check.play(x, "act"), -4);
        Check.tape(x, "rest");
        CHECK.due("restore(0)", x.restore(0), true);
        CHECK.due("the tape stays", x.count(6), 4);
        CHECK.due("the FAULT stays", x.fault(), 1);
        CHECK.due("bestAs stays", x.bestAs(1), 3);
        CHECK.due("price stays", x.price(1), 3);
        CHECK.due("booked stays", x.booked(1), 2);
        CHECK.due("MEN of the PLAY", x.count(2), 4);
        CHECK.due("who is cast", x.now(3), 10);
        CHECK.due("of whom it may be said", x.said(1), 3);
        CHECK.due("nothing can be undone", x.undo(), -1);
        CHECK.due("curtain()", x.curtain(), 1);
        CHECK.due("restore(0)", x.restore(0), true);
        CHECK.due("the image stays", x.now(3), 10);
        CHECK.due("nothing can be undone", x.undo(), -1);
        CHECK.due("restore(1)", x.restore(1), true);
        CHECK.due("no SENTENCE there", x.said(-1), -1);
        CHECK.due("nobody cast there", x.now(3), 0);
        x.end(0);
        CHECK.due("names are those of the PLAY", Check.book(x, "ann as maid;", 1), -1);
        CHECK.due("image(0) anew", x.image(0), true);
        x.drop(1);
        CHECK.due("restore(0)", x.restore(0), true);
        CHECK.due("ann as maid", x.part(1, 2), 0);
    }
}
