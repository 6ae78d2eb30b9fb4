/**
 * The boundary cases that 'Terms' names: what is just a TOKEN, the bounds of texts, sorts, NUMBERS, NAMES, and the
 * FAULTS with their places and kinds. Each function has the document's sentence above it. In a text the mark ^
 * stands where its FAULT is.
 */
public final class TextBoundsTest {
    private static final Check CHECK = new Check();
    private static final String WORDS = "part fact clears man act scene shows needs likes never foes rest as whisper curtain"
            + " best or and not plays rested knows sure skill times claps number";
    private static final String SMALL = "part p 0;part q 0;fact f;fact g;man m 0 1;man n 0 1;act;scene p q;";
    private static final String SIX_PARTS = "part pa 0;part pb 0;part pc 0;part pd 0;part pe 0;part pf 0;";
    private static final String SIX_FACTS = "fact fa;fact fb;fact fc;fact fd;fact fe;fact ff;";
    private static final String EIGHT_MEN = "man ma 0 1;man mb 0 1;man mc 0 1;man md 0 1;man me 0 1;man mf 0 1;"
            + "man mg 0 1;man mh 0 1;";

    public static void main(String[] args) {
        blanks();
        wordsHaveOneToSevenLetters();
        numbersHaveOneOrTwoDigits();
        lettersDigitsAndSignsHaveNeighbours();
        wordsGoOn();
        playHas900Bytes();
        bookHas400Bytes();
        sentenceHas200Bytes();
        tokensAheadOfTheMostBytesAreReadWhole();
        skillOfPart();
        skillOfMan();
        seat();
        liking();
        numberOfSentence();
        namesAreNoneOfTheWords();
        namesAreToldOnce();
        clearsOnce();
        needsOnce();
        likesOnce();
        neverOnce();
        foesOnceAndUnlike();
        restOnce();
        sceneHasItsPartsOnce();
        sceneHasAnActAhead();
        showsHasASceneInThisAct();
        sixParts();
        sixFacts();
        eightMen();
        sixActs();
        twelveScenes();
        fortyLines();
        twentyOnes();
        eightWithin();
        endOfTheText();
        firstAlongTheText();
        leastOfOneToken();
        CHECK.finish();
    }

    private static void fault(int kind, String marked) {
        String text = marked.replace("^", "");
        RecastStage x = new RecastStage();
        CHECK.due("play() of " + marked, Check.play(x, text), -1 - marked.indexOf('^'));
        CHECK.due("fault() of " + marked, x.fault(), kind);
    }

    private static RecastStage fine(int lines, String text) {
        RecastStage x = new RecastStage();
        CHECK.due("play() of " + text, Check.play(x, text), lines);
        CHECK.due("fault() of " + text, x.fault(), 0);
        return x;
    }

    private static void bookFault(int kind, String marked) {
        RecastStage x = Check.stage(SMALL);
        String text = marked.replace("^", "");
        CHECK.due("book(0) of " + marked, Check.book(x, text, 0), -2 - marked.indexOf('^'));
        CHECK.due("fault() of " + marked, x.fault(), kind);
        CHECK.due("book(1) of " + marked, Check.book(x, text, 1), -2 - marked.indexOf('^'));
        CHECK.due("fault() of " + marked, x.fault(), kind);
    }

    private static void bookFine(int lines, String text) {
        RecastStage x = Check.stage(SMALL);
        CHECK.due("book(0) of " + text, Check.book(x, text, 0), -1);
        CHECK.due("fault() of " + text, x.fault(), 0);
        CHECK.due("LINES of " + text, x.booked(1), lines);
    }

    private static void sentenceFault(int kind, String marked) {
        RecastStage x = Check.stage(SMALL);
        String text = marked.replace("^", "");
        CHECK.due("sentence() of " + marked, Check.sentence(x, text), -1 - marked.indexOf('^'));
        CHECK.due("fault() of " + marked, x.fault(), kind);
    }

    private static void sentenceFine(int ones, String text) {
        RecastStage x = Check.stage(SMALL);
        CHECK.due("sentence() of " + text, Check.sentence(x, text), ones);
        CHECK.due("fault() of " + text, x.fault(), 0);
    }

    private static String spaces(int n) {
        return Check.times(" ", n);
    }

    /** "TOKENS of all texts, with blanks (32, 10) between them or not" */
    private static void blanks() {
        fine(1, "part p 0;");
        fine(1, "part\np\n0\n;\n");
        fine(1, " \n part \n p  0 ; ");
        fine(2, "act;act;");
        fine(0, "");
        fine(0, " ");
        fine(0, "\n");
        bookFine(2, "m as p;n as q;");
        bookFine(2, "\nm\nas\np\n;\nn as q ; ");
        sentenceFine(1, "skill<5");
        sentenceFine(1, "\nskill < \n 5\n");
        sentenceFine(4, "not(not sure)");
        for (int c = 0; c < 256; c++) {
            boolean blank = c == 32 || c == 10;
            RecastStage x = new RecastStage();
            CHECK.due("a blank of " + c, Check.play(x, "act;" + (char) c), blank ? 1 : -5);
            CHECK.due("fault() of " + c, x.fault(), blank ? 0 : 1);
        }
    }

    /** "WORDS: small letters, 1 to 7" */
    private static void wordsHaveOneToSevenLetters() {
        fine(1, "part p 0;");
        fine(1, "part abcdef 0;");
        fine(1, "part abcdefg 0;");
        fault(1, "part ^abcdefgh 0;");
        fault(1, "part ^abcdefghabcdefghabcdefgh 0;");
        // of seven letters each counts
        fine(2, "part abcdefg 0;part bbcdefg 0;");
        fine(2, "part abcdefg 0;part abcdefh 0;");
        fine(3, "part zzzzzzz 0;part zzzzzz 0;part zzzzzzy 0;");
        fault(3, "part zzzzzzz 0;part ^zzzzzzz 0;");
        bookFault(1, "^abcdefgh as p;");
        sentenceFault(1, "knows ^abcdefgh");
    }

    /** "NUMBERS: 1 to 2 digits" */
    private static void numbersHaveOneOrTwoDigits() {
        fine(1, "part p 9;");
        fine(1, "part p 09;");
        fault(1, "part p ^009;");
        fault(1, "part p ^0000000000009;");
        fault(1, "part p ^4294967296;");
        CHECK.due("09 is 9", fine(1, "part p 09;").part(0, 0), 9);
        sentenceFine(1, "skill < 9");
        sentenceFine(1, "skill < 99");
        sentenceFault(1, "skill < ^100");
        sentenceFault(1, "skill < ^001");
    }

    /** "small letters", "digits", "; < = > ( ) ." */
    private static void lettersDigitsAndSignsHaveNeighbours() {
        fine(1, "part a 0;");
        fine(1, "part z 0;");
        fault(1, "part ^` 0;");
        fault(1, "part ^{ 0;");
        fault(1, "part ^A 0;");
        fault(1, "part ^Z 0;");
        fault(1, "part ^" + (char) ('a' + 128) + " 0;");
        fault(1, "part z^` 0;");
        fault(1, "part a^{ 0;");
        fine(1, "part p 0;");
        fine(1, "part p 9;");
        fault(1, "part p ^/;");
        fault(1, "part p ^:;");
        fault(1, "part p 0^/;");
        fault(1, "part p 9^:;");
        fault(1, "part p 0^:");
        fault(1, "part p 0^<;");
        fault(1, "part p 0^.;");
        fault(1, "part p 0^" + (char) (';' + 128));
        sentenceFine(2, "(sure)");
        sentenceFault(1, "^'sure)");
        sentenceFault(1, "(sure^*");
        sentenceFine(1, "skill<1");
        sentenceFine(1, "skill=1");
        sentenceFine(1, "skill>1");
        sentenceFault(1, "skill^;1");
        sentenceFault(1, "skill^?1");
        sentenceFault(1, "skill^.1");
        sentenceFault(1, "skill^(1)");
        sentenceFault(1, "sure^.");
    }

    /** "A WORD, NUMBER goes on as long as small letters and digits do; what is not as told is no TOKEN" */
    private static void wordsGoOn() {
        fault(1, "part ^p0;");
        fault(1, "part ^p0 0;");
        fault(1, "part ^0p 0;");
        fault(1, "^partp 0;");
        fault(1, "^part0 0;");
        fault(1, "^actact;");
        fault(1, "part p ^0act;");
        fault(1, "part p ^1a;");
        fault(1, "part ^a1b 0;");
        sentenceFault(1, "skill<^5and sure");
        sentenceFine(2, "skill<5 and sure");
        sentenceFine(3, "not(sure)");
        sentenceFault(1, "^notsure");
        bookFault(1, "^m0 as p;");
        bookFault(3, "^mas p;");
    }

    /** "A PLAY is a text of at most 900 bytes" */
    private static void playHas900Bytes() {
        fine(1, "act;" + spaces(895));
        fine(1, "act;" + spaces(896));
        fault(1, "act;" + spaces(896) + "^ ");
        fault(1, "act;" + spaces(896) + "^" + spaces(40));
        fine(1, spaces(895) + "act;");
        fine(1, spaces(896) + "act;");
        fault(1, spaces(897) + "act^;");
        fault(1, "act;" + spaces(896) + "^act;");
        fault(1, "act;" + spaces(896) + "^;");
        fault(1, "act;" + spaces(896) + "^?");
        fault(1, "act;" + spaces(896) + "^" + spaces(4) + "act;");
        fine(0, spaces(900));
        fault(1, spaces(900) + "^ ");
        fault(1, spaces(900) + "^" + spaces(40));
        fault(1, spaces(899) + "^?");
        fault(1, spaces(900) + "^?");
    }

    /** "A BOOK is a text of at most 400 bytes" */
    private static void bookHas400Bytes() {
        bookFine(1, "m as p;" + spaces(392));
        bookFine(1, "m as p;" + spaces(393));
        bookFault(1, "m as p;" + spaces(393) + "^ ");
        bookFault(1, "m as p;" + spaces(393) + "^" + spaces(540));
        bookFine(1, spaces(392) + "m as p;");
        bookFine(1, spaces(393) + "m as p;");
        bookFault(1, spaces(394) + "m as p^;");
        bookFault(1, "m as p;" + spaces(393) + "^n as q;");
        bookFine(0, "");
        bookFine(0, spaces(400));
        bookFault(1, spaces(400) + "^ ");
        bookFault(1, spaces(400) + "^?");
        // more bytes than a PLAY may have are no more to a BOOK
        bookFault(1, spaces(400) + "^" + spaces(501));
    }

    /** "A SENTENCE is a text of at most 200 bytes" */
    private static void sentenceHas200Bytes() {
        sentenceFine(1, "sure" + spaces(195));
        sentenceFine(1, "sure" + spaces(196));
        sentenceFault(1, "sure" + spaces(196) + "^ ");
        sentenceFault(1, "sure" + spaces(196) + "^" + spaces(740));
        sentenceFine(1, spaces(195) + "sure");
        sentenceFine(1, spaces(196) + "sure");
        sentenceFault(1, spaces(199) + "s^ure");
        sentenceFault(1, spaces(200) + "^sure");
        sentenceFault(1, spaces(199) + "^");
        sentenceFault(1, spaces(200) + "^");
        sentenceFault(1, spaces(200) + "^ ");
        sentenceFault(1, "sure" + spaces(196) + "^and sure");
    }

    /** "the most bytes told, if there are more and no FAULT is ahead: TOKENS that begin ahead of it are read whole" */
    private static void tokensAheadOfTheMostBytesAreReadWhole() {
        // begins at 899: read whole, so it is this WORD that can't come or may, or is told again
        fault(1, "act;" + spaces(895) + "r^est;");
        fault(1, "act;" + spaces(896) + "^rest;");
        fault(1, "act;" + spaces(895) + "^res;");
        fault(1, "act;" + spaces(895) + "^resting;");
        fault(1, "act;" + spaces(895) + "^restabcd;");
        fault(3, "rest;" + spaces(894) + "^rest;");
        fault(1, "rest;" + spaces(895) + "^rest;");
        fault(1, "part p" + spaces(893) + "0^1;");
        fault(2, "part p" + spaces(893) + "^10;");
        fault(1, "part p" + spaces(894) + "^10;");
        fault(1, "part p" + spaces(893) + "^100;");
        fault(1, spaces(896) + "part^ p 0;");
        fault(4, Check.times("act;", 6) + spaces(875) + "^act;");
        fault(1, Check.times("act;", 6) + spaces(876) + "^act;");
        fault(1, "act;" + spaces(895) + "^?");
        bookFault(1, spaces(395) + "m as ^pp;");
        bookFault(3, spaces(394) + "m as ^pp;");
        bookFault(1, spaces(394) + "m as p^;");
        bookFault(1, spaces(393) + "curtain^;");
        bookFault(1, spaces(399) + "c^urtain;");
        sentenceFault(3, spaces(193) + "knows ^ff");
        sentenceFault(1, spaces(194) + "knows ^ff");
        sentenceFault(1, spaces(192) + "skill < ^10");
        sentenceFault(1, spaces(191) + "skill < ^100");
        sentenceFault(1, spaces(191) + "skill < 1^0");
        sentenceFine(1, spaces(190) + "skill < 10");
    }

    /** "'part' NAME SKILL (0 to 9)" */
    private static void skillOfPart() {
        CHECK.due("SKILL 0", fine(1, "part p 0;").part(0, 0), 0);
        CHECK.due("SKILL 1", fine(1, "part p 1;").part(0, 0), 1);
        CHECK.due("SKILL 8", fine(1, "part p 8;").part(0, 0), 8);
        CHECK.due("SKILL 9", fine(1, "part p 9;").part(0, 0), 9);
        fault(2, "part p ^10;");
        fault(2, "part p ^99;");
        fault(1, "part p ^-1;");
        fault(1, "part p^;");
        fault(1, "part p ^q;");
    }

    /** "'man' NAME SKILL SEAT (0 to 9; ..)" */
    private static void skillOfMan() {
        CHECK.due("SKILL 0", fine(1, "man m 0 5;").man(0, 0), 0);
        CHECK.due("SKILL 1", fine(1, "man m 1 5;").man(0, 0), 1);
        CHECK.due("SKILL 8", fine(1, "man m 8 5;").man(0, 0), 8);
        CHECK.due("SKILL 9", fine(1, "man m 9 5;").man(0, 0), 9);
        fault(2, "man m ^10 5;");
        fault(2, "man m ^10 0;");
        fault(2, "man m ^99 5;");
    }

    /** "'man' NAME SKILL SEAT (..; 1 to 9)" */
    private static void seat() {
        fault(2, "man m 5 ^0;");
        fault(2, "man m 5 ^00;");
        CHECK.due("SEAT 1", fine(1, "man m 5 1;").man(0, 1), 1);
        CHECK.due("SEAT 2", fine(1, "man m 5 2;").man(0, 1), 2);
        CHECK.due("SEAT 8", fine(1, "man m 5 8;").man(0, 1), 8);
        CHECK.due("SEAT 9", fine(1, "man m 5 9;").man(0, 1), 9);
        fault(2, "man m 5 ^10;");
        fault(1, "man m 5^;");
    }

    /** "'likes' MAN PART N (1 to 9; ..)" */
    private static void liking() {
        fault(2, SMALL + "likes m p ^0;");
        for (int n = 1; n <= 9; n++) {
            RecastStage x = fine(11, SMALL + "likes m p " + n + ";never m q;never n p;");
            CHECK.due("liked by " + n, x.best(), n);
        }
        fault(2, SMALL + "likes m p ^10;");
        fault(1, SMALL + "likes m p^;");
    }

    /** "SIGN NUMBER": a NUMBER of a SENTENCE has no bounds of its own */
    private static void numberOfSentence() {
        sentenceFine(1, "skill = 0");
        sentenceFine(1, "skill = 00");
        sentenceFine(1, "times > 99");
        sentenceFine(1, "claps < 99");
        sentenceFine(1, "number = 10");
        sentenceFault(1, "number = ^100");
        sentenceFault(1, "number =^");
        sentenceFault(1, "number = ^= 1");
        sentenceFault(1, "number ^1");
    }

    /** "NAME: a WORD, none of those told here, in a BOOK or a SENTENCE" */
    private static void namesAreNoneOfTheWords() {
        for (String word : WORDS.split(" ")) {
            fault(1, "part ^" + word + " 0;");
            fault(1, "fact ^" + word + ";");
            fault(1, "man ^" + word + " 0 1;");
            fault(1, SMALL + "never ^" + word + " p;");
            fault(1, SMALL + "never m ^" + word + ";");
            bookFault(1, "m as ^" + word + ";");
            sentenceFault(1, "knows ^" + word);
            if (word.length() > 2) {
                fine(1, "part " + word.substring(1) + "x 0;");
                fine(1, "part x" + word.substring(1) + " 0;");
                fine(1, "part " + word.substring(0, word.length() - 1) + "x 0;");
            }
        }
    }

    /** "NAME: .. told once"; "a NAME told twice, not told, or of another sort" */
    private static void namesAreToldOnce() {
        String[] news = {"part ^x 0;", "fact ^x;", "man ^x 0 1;"};
        for (String first : news) {
            fine(1, first.replace("^", ""));
            for (String second : news) {
                fault(3, first.replace("^", "") + second);
            }
        }
        for (String told : new String[] {"", "fact x;", "man x 0 1;"}) {
            fault(3, SMALL + told + "clears f ^x;");
            fault(3, SMALL + told + "scene ^x;");
            fault(3, SMALL + told + "scene p ^x;");
            fault(3, SMALL + told + "needs ^x f;");
            fault(3, SMALL + told + "likes m ^x 1;");
            fault(3, SMALL + told + "never m ^x;");
        }
        for (String told : new String[] {"", "part x 0;", "man x 0 1;"}) {
            fault(3, SMALL + told + "clears ^x p;");
            fault(3, SMALL + told + "shows ^x;");
            fault(3, SMALL + told + "needs p ^x;");
        }
        for (String told : new String[] {"", "part x 0;", "fact x;"}) {
            fault(3, SMALL + told + "likes ^x p 1;");
            fault(3, SMALL + told + "never ^x p;");
            fault(3, SMALL + told + "foes ^x m;");
            fault(3, SMALL + told + "foes m ^x;");
        }
        // told behind is not told
        fault(3, "never ^m p;man m 0 1;part p 0;");
        bookFault(3, "^x as p;");
        bookFault(3, "^p as p;");
        bookFault(3, "^f as p;");
        bookFault(3, "m as ^x;");
        bookFault(3, "m as ^m;");
        bookFault(3, "m as ^f;");
        bookFault(3, "whisper ^x f;");
        bookFault(3, "whisper ^p f;");
        bookFault(3, "whisper ^f f;");
        bookFault(3, "whisper m ^x;");
        bookFault(3, "whisper m ^p;");
        bookFault(3, "whisper m ^m;");
        sentenceFault(3, "knows ^x");
        sentenceFault(3, "knows ^p");
        sentenceFault(3, "knows ^m");
        sentenceFine(1, "knows f");
    }

    /** "'clears' FACT PART (each two once)" */
    private static void clearsOnce() {
        fine(12, SMALL + "clears f p;clears f q;clears g p;clears g q;");
        fault(3, SMALL + "clears f p;clears f ^p;");
        fault(3, SMALL + "clears f p;clears g p;clears f q;clears g ^p;");
    }

    /** "'needs' PART FACT (each two once)" */
    private static void needsOnce() {
        fine(12, SMALL + "needs p f;needs p g;needs q f;needs q g;");
        fault(3, SMALL + "needs p f;needs p ^f;");
        fault(3, SMALL + "needs p f;needs p g;needs q f;needs p ^g;");
    }

    /** "'likes' MAN PART N (..; each two once)" */
    private static void likesOnce() {
        fine(12, SMALL + "likes m p 1;likes m q 1;likes n p 1;likes n q 1;");
        fault(3, SMALL + "likes m p 1;likes m ^p 1;");
        fault(3, SMALL + "likes m p 1;likes m q 1;likes n p 9;likes n ^p 0;");
    }

    /** "'never' MAN PART (each two once)" */
    private static void neverOnce() {
        fine(12, SMALL + "never m p;never m q;never n p;never n q;");
        fault(3, SMALL + "never m p;never m ^p;");
        fault(3, SMALL + "never m p;never m q;never n p;never n ^p;");
    }

    /** "'foes' MAN MAN (unlike; each two once, in whatever order)" */
    private static void foesOnceAndUnlike() {
        String three = SMALL + "man o 0 1;";
        fine(10, three + "foes m n;");
        fine(12, three + "foes m n;foes n o;foes o m;");
        fault(3, three + "foes m ^m;");
        fault(3, three + "foes o ^o;");
        fault(3, three + "foes m n;foes m ^n;");
        fault(3, three + "foes m n;foes n ^m;");
        fault(3, three + "foes n m;foes m ^n;");
        fault(3, three + "foes m n;foes n o;foes o ^n;");
    }

    /** "'rest' (once)" */
    private static void restOnce() {
        CHECK.due("no 'rest'", fine(8, SMALL).count(5), 0);
        CHECK.due("'rest'", fine(9, SMALL + "rest;").count(5), 1);
        fault(3, SMALL + "rest;^rest;");
        fault(3, "rest;act;^rest ?");
    }

    /** "'scene' PART { PART } (..; each PART once in it)" */
    private static void sceneHasItsPartsOnce() {
        fault(1, SMALL + "scene^;");
        fault(1, SMALL + "scene ^1;");
        fault(1, SMALL + "scene^");
        CHECK.due("one PART", fine(9, SMALL + "scene q;").scene(1, 1), 2);
        CHECK.due("both PARTS", fine(9, SMALL + "scene q p;").scene(1, 1), 3);
        fault(3, SMALL + "scene q ^q;");
        fault(3, SMALL + "scene q p ^q;");
        fault(3, SMALL + "scene p q ^q;");
        CHECK.due("six PARTS", fine(8, SIX_PARTS + "act;scene pa pb pc pd pe pf;").scene(0, 1), 63);
        fault(3, SIX_PARTS + "act;scene pa pb pc pd pe pf ^pa;");
        fault(1, SIX_PARTS + "act;scene pa pb pc pd pe pf^");
        fault(1, SIX_PARTS + "act;scene pa pb pc pd pe pf ^1;");
        CHECK.due("a PART in two SCENES", fine(10, SMALL + "scene p;scene p;").count(4), 3);
    }

    /** "a SCENE without an ACT ahead" */
    private static void sceneHasAnActAhead() {
        fault(1, "part p 0;^scene p;");
        fault(1, "part p 0;^scene p;act;");
        CHECK.due("an ACT ahead", fine(3, "part p 0;act;scene p;").scene(0, 0), 0);
        CHECK.due("of the ACT told last", fine(4, "part p 0;act;act;scene p;").scene(0, 0), 1);
    }

    /** "'shows' without a SCENE in this ACT"; "'shows' FACT (in the SCENE told last; each once in it)" */
    private static void showsHasASceneInThisAct() {
        String head = "part p 0;fact f;fact g;";
        fault(1, head + "^shows f;");
        fault(1, head + "act;^shows f;");
        CHECK.due("a SCENE ahead", fine(6, head + "act;scene p;shows f;").scene(0, 2), 1);
        fault(1, head + "act;scene p;act;^shows f;");
        fault(1, head + "act;scene p;shows f;act;^shows g;");
        RecastStage x = fine(9, head + "act;scene p;shows f;act;scene p;shows f;");
        CHECK.due("in the SCENE told last", x.scene(1, 2), 1);
        fault(3, head + "act;scene p;shows f;shows ^f;");
        fault(3, head + "act;scene p;shows f;shows g;shows ^f;");
        CHECK.due("each once", fine(7, head + "act;scene p;shows g;shows f;").scene(0, 2), 3);
        CHECK.due("again in the next SCENE", fine(8, head + "act;scene p;shows f;scene p;shows f;").act(0, 2), 1);
    }

    /** "6 PARTS .. at most; .. numbered from 0"; "one more than there may be of a sort" */
    private static void sixParts() {
        CHECK.due("5 PARTS", fine(5, SIX_PARTS.substring(0, 50)).count(0), 5);
        RecastStage x = fine(6, SIX_PARTS);
        CHECK.due("6 PARTS", x.count(0), 6);
        CHECK.due("the last PART", x.part(5, 0), 0);
        CHECK.due("no seventh", x.part(6, 0), -1);
        fault(4, SIX_PARTS + "^part pg 0;");
        fault(4, SIX_PARTS + "^part pa 10;");
        fault(4, SIX_PARTS + "^part");
        fine(20, SIX_PARTS + SIX_FACTS + EIGHT_MEN);
        fault(4, SIX_PARTS + SIX_FACTS + EIGHT_MEN + "^part x 0;");
    }

    /** "6 FACTS .. at most" */
    private static void sixFacts() {
        CHECK.due("5 FACTS", fine(5, SIX_FACTS.substring(0, 40)).count(1), 5);
        CHECK.due("6 FACTS", fine(6, SIX_FACTS).count(1), 6);
        fault(4, SIX_FACTS + "^fact fg;");
        fault(4, SIX_FACTS + "^fact fa;");
        fault(4, SIX_PARTS + SIX_FACTS + EIGHT_MEN + "^fact x;");
    }

    /** "8 MEN .. at most" */
    private static void eightMen() {
        CHECK.due("7 MEN", fine(7, EIGHT_MEN.substring(0, 77)).count(2), 7);
        RecastStage x = fine(8, EIGHT_MEN);
        CHECK.due("8 MEN", x.count(2), 8);
        CHECK.due("the last MAN", x.man(7, 1), 1);
        CHECK.throwsNoSuch("no ninth", x, 8, 1);
        fault(4, EIGHT_MEN + "^man mi 0 1;");
        fault(4, EIGHT_MEN + "^man ma 10 0;");
        fault(4, SIX_PARTS + SIX_FACTS + EIGHT_MEN + "^man x 0 1;");
    }

    /** "6 ACTS .. at most" */
    private static void sixActs() {
        CHECK.due("5 ACTS", fine(5, Check.times("act;", 5)).count(3), 5);
        RecastStage x = fine(6, Check.times("act;", 6));
        CHECK.due("6 ACTS", x.count(3), 6);
        CHECK.due("the last ACT", x.act(5, 0), 0);
        CHECK.due("no seventh", x.act(6, 0), -1);
        fault(4, Check.times("act;", 6) + "^act;");
        fault(4, Check.times("act;", 6) + "^act");
    }

    /** "12 SCENES at most": of all ACTS together */
    private static void twelveScenes() {
        CHECK.due("11 SCENES", fine(13, "part p 0;act;" + Check.times("scene p;", 11)).count(4), 11);
        RecastStage x = fine(14, "part p 0;act;" + Check.times("scene p;", 12));
        CHECK.due("12 SCENES", x.count(4), 12);
        CHECK.due("12 SCENES of one ACT", x.act(0, 0), 12);
        CHECK.due("the last SCENE", x.scene(11, 1), 1);
        CHECK.due("no 13th", x.scene(12, 1), -1);
        fault(4, "part p 0;act;" + Check.times("scene p;", 12) + "^scene p;");
        fault(4, "part p 0;" + Check.times("act;scene p;scene p;", 6) + "^scene p;");
        fault(4, "part p 0;act;" + Check.times("scene p;", 12) + "act;^scene q;");
        fine(19, "part p 0;" + Check.times("act;scene p;scene p;", 6));
        fine(17, "part p 0;fact f;act;" + Check.times("scene p;", 12) + "shows f;rest;");
    }

    /** "{ LINE ; }, 40 at most"; "a 41st LINE of a BOOK (at the LINE's first WORD)" */
    private static void fortyLines() {
        bookFine(39, Check.times("best;", 39));
        bookFine(40, Check.times("best;", 40));
        bookFault(4, Check.times("best;", 40) + "^best;");
        bookFault(4, Check.times("best;", 40) + "\n ^curtain;");
        bookFault(4, Check.times("best;", 40) + "^whisper");
        bookFault(4, Check.times("best;", 40) + "^m as p;");
        bookFault(1, Check.times("best;", 40) + "^;");
        bookFault(1, Check.times("best;", 40) + "^as;");
        bookFine(40, Check.times("best;", 40) + " \n");
        bookFault(1, Check.times("best;", 39) + "best^");
        // a PLAY has as many LINES as its bytes hold
        StringBuilder lines = new StringBuilder(SIX_PARTS + SIX_FACTS + EIGHT_MEN + "act;");
        for (char f = 'a'; f <= 'f'; f++) {
            for (char p = 'a'; p <= 'f'; p++) {
                lines.append("clears f").append(f).append(" p").append(p).append(';');
            }
        }
        fine(57, lines.toString());
    }

    /** "20 ONES"; "a 21st ONE (at its first TOKEN)" */
    private static void twentyOnes() {
        String nineteen = "sure" + Check.times(" or sure", 18);
        sentenceFine(19, nineteen);
        sentenceFine(20, nineteen + " or sure");
        sentenceFine(20, nineteen + " and plays");
        sentenceFault(4, nineteen + " or sure or ^sure");
        sentenceFine(20, "sure" + Check.times(" and sure", 19));
        sentenceFault(4, "sure" + Check.times(" and sure", 19) + " and ^sure");
        sentenceFine(20, Check.times("not sure or ", 9) + "not sure");
        sentenceFault(4, nineteen + " or sure and ^knows ?");
        sentenceFault(4, nineteen + " or sure or ^skill ?");
        sentenceFault(4, nineteen + " or sure or ^(");
        sentenceFault(4, nineteen + " or sure or ^not");
        sentenceFault(4, nineteen + " or not ^sure");
        sentenceFault(4, nineteen + " or (^sure)");
        sentenceFault(1, nineteen + " or (^)");
        sentenceFault(1, nineteen + " or sure ^sure");
        sentenceFault(1, nineteen + " or sure or^");
        // each not and each bracket is a ONE
        sentenceFine(20, Check.times("(not sure) and ", 6) + "not sure");
        sentenceFault(4, Check.times("(not sure) and ", 6) + "not not ^sure");
    }

    /** "8 within one another"; "a ninth within (at its first TOKEN)" */
    private static void eightWithin() {
        sentenceFine(7, Check.times("not ", 6) + "sure");
        sentenceFine(8, Check.times("not ", 7) + "sure");
        sentenceFault(4, Check.times("not ", 8) + "^sure");
        sentenceFine(7, Check.times("(", 6) + "sure" + Check.times(")", 6));
        sentenceFine(8, Check.times("(", 7) + "sure" + Check.times(")", 7));
        sentenceFault(4, Check.times("(", 8) + "^sure" + Check.times(")", 8));
        sentenceFault(4, Check.times("(", 8) + "^(");
        sentenceFault(4, Check.times("(", 8) + "^not");
        sentenceFine(8, "not (not (not (not sure)))");
        sentenceFault(4, "not (not (not (not (^sure))))");
        // beside one another is not within
        sentenceFine(9, Check.times("not ", 7) + "sure and sure");
        sentenceFine(16, Check.times("not ", 7) + "sure or " + Check.times("(", 7) + "sure" + Check.times(")", 7));
        sentenceFine(9, Check.times("(", 7) + "sure and sure" + Check.times(")", 7));
        sentenceFine(9, Check.times("(", 7) + "sure or sure" + Check.times(")", 7));
        sentenceFault(4, Check.times("(", 7) + "sure or not ^sure" + Check.times(")", 7));
        sentenceFault(4, Check.times("(", 7) + "sure and (^sure)" + Check.times(")", 7));
    }

    /** "the end: how many bytes there are" */
    private static void endOfTheText() {
        fault(1, "act^");
        fault(1, "act ^");
        fault(1, "act \n ^");
        fault(1, "part^");
        fault(1, "part p^");
        fault(1, "part p 0^");
        fault(1, "part p 0" + spaces(892) + "^");
        fault(1, "part p 0" + spaces(892) + "^ ");
        bookFault(1, "m^");
        bookFault(1, "m as ^");
        bookFault(1, "m as p^");
        bookFault(1, "whisper^");
        bookFault(1, "whisper m\n^");
        bookFault(1, "whisper m f^");
        bookFault(1, "curtain^");
        bookFault(1, "best" + spaces(396) + "^");
        sentenceFault(1, "^");
        sentenceFault(1, " ^");
        sentenceFault(1, "not^");
        sentenceFault(1, "sure or ^");
        sentenceFault(1, "sure and^");
        sentenceFault(1, "(sure^");
        sentenceFault(1, "knows^");
        sentenceFault(1, "skill^");
        sentenceFault(1, "skill >^");
    }

    /** "FAULTS, the first along the text" */
    private static void firstAlongTheText() {
        fault(2, "part p ^10;part p 1;?");
        fault(3, "part p 1;part ^p 10;?");
        fault(1, "part p 1;^? part p 10;");
        fault(1, "act ^? act;");
        fault(3, "rest;^rest?");
        bookFault(3, "m as ^f ?");
        bookFault(1, "m ^? x");
        sentenceFault(3, "knows ^p ?");
        sentenceFault(1, "skill ^? knows p");
    }

    /** "of one TOKEN the least" */
    private static void leastOfOneToken() {
        // no SCENE may come without an ACT, and none behind twelve: the least stands ahead
        fault(1, "part p 0;^scene p;");
        // 41st, and no MAN's NAME: 3 is less than 4; no TOKEN at all: 1 is less than both
        bookFault(3, Check.times("best;", 40) + "^x as p;");
        bookFault(3, Check.times("best;", 40) + "^p as p;");
        bookFault(1, Check.times("best;", 40) + "^? as p;");
        bookFault(1, Check.times("best;", 40) + "^abcdefgh as p;");
        bookFault(1, Check.times("best;", 40) + "^part;");
        sentenceFault(1, "sure" + Check.times(" or sure", 19) + " or ^?");
        sentenceFault(1, "sure" + Check.times(" or sure", 19) + " or ^f");
        sentenceFault(1, Check.times("not ", 8) + "^?");
        sentenceFault(1, Check.times("not ", 8) + "^or");
    }
}
