/** The TAPE, LAWS and their FAULTS (promises 9 to 11): of each sentence that names a boundary case a test of its own. */
public final class TapeBoundariesTest {
    private static final int LEAST = Integer.MIN_VALUE;
    private static final int MOST = Integer.MAX_VALUE;
    private static final String SIXTY = "steal 1" + "+1".repeat(59);

    private TapeBoundariesTest() {
    }

    public static void main(String[] args) {
        feedTheHighestFirst();
        feedOfAllBytes();
        feedHowManyItHas();
        feedOfMoreThan400();
        feedOfALittleMoreThan400();
        endOfTheFirstAlone();
        endOfAll();
        endOfNone();
        endOfMoreThanThereAre();
        endBelowZero();
        lawEmptiesTheTape();
        lawWithAFault();
        lawOfNothing();
        lawWhenThereAreEight();
        lawOf400Bytes();
        oneToTwelveClauses();
        aThirteenthClause();
        aThirteenthClauseThatCantStand();
        oneToFiveDigits();
        aNumberOfMoreDigits();
        digitsAsFarAsTheyGoOn();
        smallLettersAsFarAsTheyGo();
        wordsOneLetterOff();
        wordsThatCantStand();
        clausesThatCantStand();
        bytesThatCantStand();
        signsThatCantStand();
        signsOfTwoBytes();
        blanksStandBetween();
        noOtherBlanks();
        theEnd();
        theEndOf400Bytes();
        tenDeep();
        tooDeepAtTheSignThatOpens();
        tooDeepAtTheWordNot();
        deepnessEnds();
        sixtyValues();
        sixtyValuesAndFacts();
        oneValueTooMany();
        oneFactTooMany();
        notAndBracketsAreNotCounted();
        theFirstAlongTheText();
        ofOnePlaceTheLeast();
        eachTextIsReadAnew();
        eachLawIsItsOwn();
        Due.end();
    }

    private static void about(String sentence) {
        Due.about(sentence);
    }

    private static void due(String call, long got, long want) {
        Due.due(call, got, want);
    }

    private static void due(String call, boolean got, boolean want) {
        Due.due(call, got, want);
    }

    private static void dueRight(String text) {
        due("law of '" + text + "'", Due.law(new GuardedStreets(), text), 0);
    }

    private static void dueFault(String text, int place, int kind) {
        due("law of '" + text + "'", Due.law(new GuardedStreets(), text), -2 - (1 + 8 * place + kind));
    }

    private static void feedTheHighestFirst() {
        about("9: Twenty bytes come behind the TAPE, of each number the highest first");
        GuardedStreets x = Made.oneStreet();
        x.feed('s' << 24 | 't' << 16 | 'e' << 8 | 'a', 'l' << 24 | ' ' << 16 | '1' << 8 | '2', '3' << 24 | '4' << 16 | '5' << 8 | ';',
                't' << 24 | 'o' << 16 | 'l' << 8 | 'd', ' ' << 24 | '9' << 16 | '8' << 8 | '7');
        due("law", x.law(), 0);
        due("STOLEN", x.by(0, 0, 0, 0), 12345);
        due("TOLD", x.by(0, 0, 0, 3), 987);
    }

    private static void feedOfAllBytes() {
        about("9: Twenty bytes, whatever the numbers");
        GuardedStreets x = new GuardedStreets();
        due("the least", x.feed(LEAST, LEAST, LEAST, LEAST, LEAST), 20);
        due("the most", x.feed(MOST, MOST, MOST, MOST, MOST), 40);
        due("-1", x.feed(-1, -1, -1, -1, -1), 60);
        due("0", x.feed(0, 0, 0, 0, 0), 80);
        due("bytes", x.count(6), 80);
        due("law", x.law(), -2 - 1);
    }

    private static void feedHowManyItHas() {
        about("9: how many it has");
        GuardedStreets x = new GuardedStreets();
        for (int i = 1; i <= 20; i++) {
            due("feed", x.feed(i, 2, 3, 4, 5), 20 * i);
            due("bytes", x.count(6), 20 * i);
        }
        x.end(3);
        due("behind three", x.feed(1, 2, 3, 4, 5), 23);
    }

    private static void feedOfMoreThan400() {
        about("9: NONE, and none comes, if it would have more than 400");
        GuardedStreets x = Made.oneStreet();
        Due.feed(x, "steal 1" + " ".repeat(391) + "+1");
        due("feed at 400", x.feed(-1, -1, -1, -1, -1), -1);
        due("bytes", x.count(6), 400);
        due("none came", x.law(), 0);
        due("STOLEN", x.by(0, 0, 0, 0), 2);
    }

    private static void feedOfALittleMoreThan400() {
        about("9: NONE, and none comes, if it would have more than 400: 401");
        GuardedStreets x = Made.oneStreet();
        Due.feed(x, "steal 1" + " ".repeat(374));
        due("feed at 381", x.feed(-1, -1, -1, -1, -1), -1);
        due("bytes", x.count(6), 381);
        due("end(380)", x.end(380), 380);
        due("feed at 380", x.feed(0x20202020, 0x20202020, 0x20202020, 0x20202020, 0x20202B31), 400);
        due("law", x.law(), 0);
        due("STOLEN", x.by(0, 0, 0, 0), 2);
    }

    private static void endOfTheFirstAlone() {
        about("10: The TAPE has its first n bytes alone: n");
        GuardedStreets x = Made.oneStreet();
        Due.feed(x, "steal 12");
        due("end(7)", x.end(7), 7);
        due("bytes", x.count(6), 7);
        due("law", x.law(), 0);
        due("STOLEN", x.by(0, 0, 0, 0), 1);
        Due.feed(x, "steal 123456");
        x.end(8);
        x.feed('3' << 24, 0, 0, 0, 0);
        due("end(9)", x.end(9), 9);
        due("law", x.law(), 1);
        due("STOLEN", x.by(1, 0, 0, 0), 123);
    }

    private static void endOfAll() {
        about("10: its first n bytes alone: all of them");
        GuardedStreets x = new GuardedStreets();
        Due.feed(x, "steal 12");
        due("end(8)", x.end(8), 8);
        due("bytes", x.count(6), 8);
        due("law", x.law(), 0);
        for (int i = 0; i < 20; i++) {
            x.feed(1, 2, 3, 4, 5);
        }
        due("end(400)", x.end(400), 400);
        due("bytes", x.count(6), 400);
    }

    private static void endOfNone() {
        about("10: its first n bytes alone: none");
        GuardedStreets x = new GuardedStreets();
        due("of an empty TAPE", x.end(0), 0);
        x.feed(1, 2, 3, 4, 5);
        due("of twenty", x.end(0), 0);
        due("bytes", x.count(6), 0);
    }

    private static void endOfMoreThanThereAre() {
        about("10: NONE, and nothing happens, if it has not so many");
        GuardedStreets x = Made.busy();
        String before = State.of(x);
        due("end(8)", x.end(8), -1);
        due("end(20)", x.end(20), -1);
        due("end(400)", x.end(400), -1);
        due("end(most)", x.end(MOST), -1);
        due("nothing happens", State.of(x).equals(before), true);
        due("law", x.law(), 1);
        due("end(1) of an empty TAPE", new GuardedStreets().end(1), -1);
    }

    private static void endBelowZero() {
        about("10: NONE, and nothing happens, or n is below 0");
        GuardedStreets x = Made.busy();
        String before = State.of(x);
        due("end(-1)", x.end(-1), -1);
        due("end(least)", x.end(LEAST), -1);
        due("nothing happens", State.of(x).equals(before), true);
        due("law", x.law(), 1);
        due("end(-1) of an empty TAPE", new GuardedStreets().end(-1), -1);
    }

    private static void lawEmptiesTheTape() {
        about("11: The TAPE, which is empty then, is a LAW: its number (LAWS 0 to 7)");
        GuardedStreets x = Made.oneStreet();
        for (int i = 0; i < 8; i++) {
            due("law", Due.law(x, "steal 1" + i), i);
            due("bytes", x.count(6), 0);
            due("LAWS", x.count(5), i + 1);
        }
        for (int i = 0; i < 8; i++) {
            due("STOLEN by " + i, x.by(i, 0, 0, 0), 10 + i);
        }
    }

    private static void lawWithAFault() {
        about("11: -2 - its FAULT (the TAPE is empty then, too)");
        GuardedStreets x = Made.oneStreet();
        due("law", Due.law(x, "steal ?"), -2 - (1 + 8 * 6));
        due("bytes", x.count(6), 0);
        due("LAWS", x.count(5), 0);
        due("by", x.by(0, 0, 0, 0), -1);
        due("the next one's number", Due.law(x, "steal 1"), 0);
        due("law", Due.law(x, "steal 2;moves"), -2 - (1 + 8 * 13));
        due("LAWS", x.count(5), 1);
        due("STOLEN", x.by(0, 0, 0, 0), 1);
    }

    private static void lawOfNothing() {
        about("11: -2 - its FAULT: an empty TAPE");
        GuardedStreets x = new GuardedStreets();
        due("law", x.law(), -3);
        due("LAWS", x.count(5), 0);
        x.feed(1, 2, 3, 4, 5);
        x.end(0);
        due("law", x.law(), -3);
    }

    private static void lawWhenThereAreEight() {
        about("11: NONE, and nothing happens: there are 8");
        GuardedStreets x = Made.oneStreet();
        for (int i = 0; i < 8; i++) {
            Due.law(x, "steal 1" + i);
        }
        due("of an empty TAPE", x.law(), -1);
        due("a right one", Due.law(x, "steal 9"), -1);
        due("bytes", x.count(6), 7);
        due("LAWS", x.count(5), 8);
        due("end(0)", x.end(0), 0);
        due("one with a FAULT", Due.law(x, "steal ?"), -1);
        due("bytes", x.count(6), 7);
        due("by(8)", x.by(8, 0, 0, 0), -1);
        due("the last", x.by(7, 0, 0, 0), 17);
        due("the first", x.by(0, 0, 0, 0), 10);
    }

    private static void lawOf400Bytes() {
        about("II: texts of at most 400 bytes");
        GuardedStreets x = Made.oneStreet();
        due("law", Due.law(x, "steal 12" + " ".repeat(385) + ";told 7"), 0);
        due("STOLEN", x.by(0, 0, 0, 0), 12);
        due("TOLD", x.by(0, 0, 0, 3), 7);
        due("with a FAULT in the last byte", Due.law(x, "steal 12" + " ".repeat(391) + "7"), -2 - (1 + 8 * 399));
    }

    private static void oneToTwelveClauses() {
        about("II: CLAUSE { ; CLAUSE }, 12 at most");
        GuardedStreets x = Made.oneStreet();
        due("one", Due.law(x, "steal 5"), 0);
        due("twelve", Due.law(x, "steal 1 if 1=2;".repeat(11) + "steal 12"), 1);
        due("the twelfth holds", x.by(1, 0, 0, 0), 12);
    }

    private static void aThirteenthClause() {
        about("II: FAULT 4 a thirteenth CLAUSE (at its first byte)");
        dueFault("told 1" + ";told 1".repeat(12), 6 + 11 * 7 + 1, 4);
        dueFault("told 1" + ";told 1".repeat(11) + ";   moves 2 ;", 6 + 11 * 7 + 4, 4);
        dueFault("told 1" + ";told 1".repeat(11) + ";steal", 6 + 11 * 7 + 1, 4);
        dueFault("told 1" + ";told 1".repeat(30), 6 + 11 * 7 + 1, 4);
    }

    private static void aThirteenthClauseThatCantStand() {
        about("II: Of one place the least: what can't stand behind the twelfth CLAUSE");
        dueFault("told 1" + ";told 1".repeat(11) + ";cars 1", 6 + 11 * 7 + 1, 0);
        dueFault("told 1" + ";told 1".repeat(11) + ";", 6 + 11 * 7 + 1, 0);
        dueFault("told 1" + ";told 1".repeat(11) + ";;", 6 + 11 * 7 + 1, 0);
        dueFault("told 1" + ";told 1".repeat(11) + ";?", 6 + 11 * 7 + 1, 0);
        dueFault("told 1" + ";told 1".repeat(11) + " told 1", 6 + 11 * 7 + 1, 0);
    }

    private static void oneToFiveDigits() {
        about("II: NUMBER (1 to 5 digits)");
        dueSum("0", 0);
        dueSum("9", 9);
        dueSum("10000", 10000);
        dueSum("99999", 99999);
        dueSum("00000", 0);
        dueSum("00001", 1);
    }

    private static void dueSum(String sum, int want) {
        GuardedStreets x = Made.oneStreet();
        due("law of steal " + sum, Due.law(x, "steal " + sum), 0);
        due(sum, x.by(0, 0, 0, 0), want);
    }

    private static void aNumberOfMoreDigits() {
        about("II: FAULT 1 a NUMBER of more digits");
        dueFault("steal 100000", 6, 1);
        dueFault("steal 000000", 6, 1);
        dueFault("steal 1+123456", 8, 1);
        dueFault("steal 1 if 1=123456", 13, 1);
        dueFault("steal " + "7".repeat(394), 6, 1);
        dueFault("steal 1 if 4294967297=1", 11, 1);
    }

    private static void digitsAsFarAsTheyGoOn() {
        about("II: NUMBER: as far as digits go on");
        dueSum("12345+54321", 66666);
        dueRight("steal 12if 3=3");
        dueFault("steal 12cars", 8, 0);
        dueFault("steal 12345 6", 12, 0);
        dueFault("steal 12.5", 8, 0);
        dueFault("steal 12:5", 8, 0);
    }

    private static void smallLettersAsFarAsTheyGo() {
        about("II: WORDS (small letters, as far as these go on)");
        dueSum("cars", 7);
        dueSum("cars+wish", 10);
        dueRight("steal cars;told wish");
        dueRight("steal1if1=1or1=1and not[1=1]");
        dueFault("steal cars1", 10, 0);
        dueFault("steal carsa", 6, 0);
        dueFault("steal carsz", 6, 0);
        dueFault("steal carswish", 6, 0);
        dueFault("steal car", 6, 0);
        dueFault("steal carS", 6, 0);
        dueFault("steal cars_", 10, 0);
    }

    private static void wordsOneLetterOff() {
        about("II: FAULT 0 a WORD that can't stand there: one letter off");
        String[] words = {"cars", "wish", "guard", "ring", "week", "since", "house", "street"};
        for (String word : words) {
            dueOneLetterOff("steal ", word, "", 6);
        }
        String[] sorts = {"steal", "moves", "told"};
        for (String sort : sorts) {
            dueOneLetterOff("", sort, " 1", 0);
        }
        dueOneLetterOff("steal 1 ", "if", " 1=1", 8);
        dueOneLetterOff("steal 1 if ", "not", " 1=1", 11);
        dueOneLetterOff("steal 1 if 1=1 ", "and", " 1=1", 15);
        dueOneLetterOff("steal 1 if 1=1 ", "or", " 1=1", 15);
    }

    private static void dueOneLetterOff(String before, String word, String behind, int place) {
        dueRight(before + word + behind);
        for (int i = 0; i <= word.length(); i++) {
            String start = word.substring(0, i);
            dueFault(before + start + "x" + word.substring(i) + behind, place, 0);
            if (i < word.length()) {
                String rest = word.substring(i + 1);
                dueFault(before + start + "x" + rest + behind, place, 0);
                dueFault(before + start + (char) (word.charAt(i) + 1) + rest + behind, place, 0);
                dueFault(before + start + rest + behind, place, 0);
            }
        }
    }

    private static void wordsThatCantStand() {
        about("II: FAULT 0 a WORD that can't stand there");
        dueFault("steal foo", 6, 0);
        dueFault("steal steal", 6, 0);
        dueFault("steal moves", 6, 0);
        dueFault("steal told", 6, 0);
        dueFault("steal if", 6, 0);
        dueFault("steal not", 6, 0);
        dueFault("steal and", 6, 0);
        dueFault("steal or", 6, 0);
        dueFault("steal 1 cars", 8, 0);
        dueFault("steal 1 and 1=1", 8, 0);
        dueFault("steal 1 not 1=1", 8, 0);
        dueFault("steal 1 steal 1", 8, 0);
        dueFault("steal 1 if if 1=1", 11, 0);
        dueFault("steal 1 if and 1=1", 11, 0);
        dueFault("steal 1 if 1 or 1=1", 13, 0);
        dueFault("steal 1 if 1=1 if 1=1", 15, 0);
        dueFault("steal 1 if 1=1 or or 1=1", 18, 0);
        dueFault("steal 1 if 1=1 and or 1=1", 19, 0);
        dueFault("steal 1 if 1=1 told 1", 15, 0);
        dueFault("steal 1 if 1=not 1", 13, 0);
    }

    private static void clausesThatCantStand() {
        about("II: FAULT 0 a byte or WORD that can't stand there: no CLAUSE");
        String[] none = {"stea 1", "steals 1", "move 1", "tell 1", "cars 1", "if 1=1", "not 1=1", "1", ";", "[1=1]", "+1", "Steal 1"};
        for (String text : none) {
            dueFault(text, 0, 0);
            dueFault("moves 1;" + text, 8, 0);
        }
        dueFault("moves 1;;moves 1", 8, 0);
    }

    private static void bytesThatCantStand() {
        about("II: FAULT 0 a byte that can't stand there");
        for (int c = 0; c < 256; c++) {
            boolean isOfTheLanguage = "0123456789 +-*/;".indexOf(c) >= 0;
            if (!isOfTheLanguage) {
                dueFault("steal 1" + (char) c, 7, 0);
            }
            if ("0123456789 ".indexOf(c) < 0) {
                dueFault("steal " + (char) c, 6, 0);
            }
        }
    }

    private static void signsThatCantStand() {
        about("II: FAULT 0 a byte that can't stand there: signs of the language");
        dueFault("steal +1", 6, 0);
        dueFault("steal -1", 6, 0);
        dueFault("steal [1]", 6, 0);
        dueFault("steal 1+*1", 8, 0);
        dueFault("steal 1//1", 8, 0);
        dueFault("steal 1=1", 7, 0);
        dueFault("steal 1]", 7, 0);
        dueFault("steal 1 if []", 12, 0);
        dueFault("steal 1 if [1=1 1=1]", 16, 0);
        dueFault("steal 1 if [1]=1", 13, 0);
        dueFault("steal 1 if 1=[1]", 13, 0);
        dueFault("steal 1 if [1=1;", 15, 0);
        dueFault("steal 1 if [1=1]]", 16, 0);
        dueFault("steal 1 if 1=1[1=1]", 14, 0);
        dueFault("steal 1 if 1=1=1", 14, 0);
        dueFault("steal 1 if 1", 12, 0);
        dueFault("steal 1 if 1;", 12, 0);
    }

    private static void signsOfTwoBytes() {
        about("II: SIGN one of < <= = >= >");
        String[] signs = {"<", "<=", "=", ">=", ">"};
        for (String sign : signs) {
            dueRight("steal 1 if 1" + sign + "1");
            dueFault("steal 1 if 1" + sign + ">1", 12 + sign.length(), 0);
            dueFault("steal 1 if 1" + sign + " =1", 13 + sign.length(), 0);
        }
        dueFault("steal 1 if 1==1", 13, 0);
        dueFault("steal 1 if 1<==1", 14, 0);
        dueFault("steal 1 if 1=<1", 13, 0);
        dueFault("steal 1 if 1=>1", 13, 0);
        dueFault("steal 1 if 1<>1", 13, 0);
        dueFault("steal 1 if 1!1", 12, 0);
    }

    private static void blanksStandBetween() {
        about("II: Blanks (32) stand between as one likes");
        dueRight("steal 1");
        dueRight("   steal   1   ");
        dueRight(" steal 1 ; told 2 if [ 1 = 1 ] and not 1 <= 2 ");
        dueRight("steal 1;told 2if[1=1]and not[1<=2]");
        dueRight("steal1+2*3");
        dueFault("st eal 1", 0, 0);
        dueFault("stealcars", 0, 0);
        dueFault("steal 1 2", 8, 0);
    }

    private static void noOtherBlanks() {
        about("II: Blanks (32), and no others");
        dueFault("steal\t1", 5, 0);
        dueFault("steal 1\n", 7, 0);
        dueFault("\r", 0, 0);
        dueFault("steal 1\u0000", 7, 0);
        dueFault("steal 1\u001f", 7, 0);
        dueFault("steal 1\u0021", 7, 0);
        dueFault("steal 1\u00a0", 7, 0);
    }

    private static void theEnd() {
        about("II: FAULT 0 the end (behind the last byte)");
        String[] texts = {"", " ", "steal", "steal  ", "steal 1+", "steal 1*", "steal 1;", "steal 1; ", "steal 1 if", "steal 1 if not",
            "steal 1 if [", "steal 1 if [1=1", "steal 1 if [1=1 ", "steal 1 if 1", "steal 1 if 1<", "steal 1 if 1=1 or", "steal 1 if 1=1 and"};
        for (String text : texts) {
            dueFault(text, text.length(), 0);
        }
    }

    private static void theEndOf400Bytes() {
        about("II: FAULT 0 the end (behind the last byte): of a full TAPE");
        dueFault(" ".repeat(395) + "steal", 400, 0);
        dueFault("steal" + " ".repeat(395), 400, 0);
        dueFault(" ".repeat(400), 400, 0);
        dueFault(" ".repeat(399) + "?", 399, 0);
        dueFault(" ".repeat(399) + "s", 399, 0);
        dueFault("steal " + "1".repeat(394), 6, 1);
        dueFault("s".repeat(400), 0, 0);
    }

    private static void tenDeep() {
        about("II: [ and not lie within one another 10 deep at most");
        dueRight("steal 1 if " + "[".repeat(10) + "1=1" + "]".repeat(10));
        dueRight("steal 1 if " + "not ".repeat(10) + "1=1");
        dueRight("steal 1 if " + "not[".repeat(5) + "1=1" + "]".repeat(5));
        dueRight("steal 1 if " + "[not ".repeat(5) + "1=1" + "]".repeat(5));
        GuardedStreets x = Made.oneStreet();
        Due.law(x, "steal 1 if " + "not ".repeat(10) + "1=1");
        Due.law(x, "steal 1 if " + "[".repeat(9) + "not 1=1" + "]".repeat(9));
        due("not ten times", x.by(0, 0, 0, 0), 1);
        due("not in nine brackets", x.by(1, 0, 0, 0), 0);
    }

    private static void tooDeepAtTheSignThatOpens() {
        about("II: FAULT 2 too deep (at the sign that opens)");
        dueFault("steal 1 if " + "[".repeat(11) + "1=1" + "]".repeat(11), 21, 2);
        dueFault("steal 1 if " + "[".repeat(11), 21, 2);
        dueFault("steal 1 if " + "not ".repeat(10) + "[1=1]", 51, 2);
        dueFault("steal 1 if " + "[ ".repeat(12), 31, 2);
        dueFault("steal 1 if " + "[".repeat(300), 21, 2);
        dueFault("steal 1 if " + "[".repeat(9) + "1=1 and [1=1 or [1=1]]" + "]".repeat(9), 36, 2);
    }

    private static void tooDeepAtTheWordNot() {
        about("II: FAULT 2 too deep (or the word not)");
        dueFault("steal 1 if " + "not ".repeat(11) + "1=1", 51, 2);
        dueFault("steal 1 if " + "[".repeat(10) + "not 1=1" + "]".repeat(10), 21, 2);
        dueFault("steal 1 if " + "not ".repeat(90), 51, 2);
        dueFault("steal 1 if " + "[".repeat(10) + "1=1 or not 1=1" + "]".repeat(10), 28, 2);
    }

    private static void deepnessEnds() {
        about("II: within one another: beside one another they aren't deeper");
        String deep = "[".repeat(10) + "1=1" + "]".repeat(10);
        String nots = "not ".repeat(10) + "1=1";
        dueRight("steal 1 if " + deep + " and " + deep + " or " + deep + ";told 1 if " + deep);
        dueRight("steal 1 if " + nots + " and " + nots + " or " + nots);
        dueRight("steal 1 if " + "[".repeat(9) + "not 1=1 or not 1=1 and not 1=1" + "]".repeat(9));
        dueRight("steal 1 if " + "[1=1] and ".repeat(15) + "not 1=1");
        dueFault("steal 1 if " + deep + " and [" + deep + "]", 11 + 23 + 5 + 10, 2);
    }

    private static void sixtyValues() {
        about("II: at most 60 VALUES");
        dueRight(SIXTY);
        dueRight("steal 1" + "+cars".repeat(59));
        dueRight("steal 1" + ";told 1+1+1+1+1".repeat(11) + "+1+1+1+1");
        GuardedStreets x = Made.oneStreet();
        Due.law(x, SIXTY);
        Due.law(x, "steal 1" + "*1".repeat(58) + "+1");
        Due.law(x, "steal 99999" + "-1".repeat(59));
        due("sixty ones", x.by(0, 0, 0, 0), 60);
        due("fifty-nine times", x.by(1, 0, 0, 0), 2);
        due("fifty-nine less", x.by(2, 0, 0, 0), 99940);
    }

    private static void sixtyValuesAndFacts() {
        about("II: at most 60 VALUES and FACTS made of a SIGN, together");
        // One, and 19 FACTS of two VALUES and themselves: 58.
        String facts = "steal 1 if 1=1" + " and 1=1".repeat(18);
        dueRight(facts);
        dueRight(facts + ";told 1+1");
        dueFault(facts + ";told 1+1+1", facts.length() + 10, 3);
        dueRight("steal 1+1+1 if 1=1" + " and 1=1".repeat(18));
    }

    private static void oneValueTooMany() {
        about("II: FAULT 3 one VALUE too many (at its first byte)");
        dueFault(SIXTY + "+1", SIXTY.length() + 1, 3);
        dueFault(SIXTY + "+ cars", SIXTY.length() + 2, 3);
        dueFault(SIXTY + "*12345", SIXTY.length() + 1, 3);
        dueFault(SIXTY + ";told 1", SIXTY.length() + 6, 3);
        dueFault(SIXTY + " if 1=1", SIXTY.length() + 4, 3);
        dueFault("steal 1" + ";told 1+1+1+1+1+1".repeat(11), 7 + 9 * 17 + 16, 3);
        dueFault("steal 1+1+1+1 if 1=1" + " and 1=1".repeat(18), 20 + 17 * 8 + 7, 3);
        dueFault("steal 1 if 1=1" + " and 1=1".repeat(19), 14 + 18 * 8 + 7, 3);
    }

    private static void oneFactTooMany() {
        about("II: FAULT 3 one FACT too many (of a FACT at its SIGN)");
        String fiftyNine = "steal 1" + "+1".repeat(58);
        dueFault(fiftyNine + " if 1=1", fiftyNine.length() + 5, 3);
        dueFault(fiftyNine + " if 1 <= 1", fiftyNine.length() + 6, 3);
        dueFault("steal 1+1 if 1=1" + " and 1=1".repeat(19), 16 + 18 * 8 + 6, 3);
        dueFault(fiftyNine + " if 1 1", fiftyNine.length() + 6, 0);
        dueFault(fiftyNine + " if 1", fiftyNine.length() + 5, 0);
    }

    private static void notAndBracketsAreNotCounted() {
        about("II: VALUES and FACTS made of a SIGN alone are counted");
        // 57 and three: not and brackets are no more.
        String text = "steal 1" + "+1".repeat(56);
        dueRight(text + " if 1=1");
        dueRight(text + " if " + "not [".repeat(5) + "1=1" + "]".repeat(5));
        dueFault(text + " if not 1=1 and 1=1", text.length() + 16, 3);
    }

    private static void theFirstAlongTheText() {
        about("II: FAULTS, the first along the text");
        dueFault("steal 123456 ?", 6, 1);
        dueFault("steal ? 123456", 6, 0);
        dueFault("moves ;steal 123456", 6, 0);
        dueFault("steal 1 if " + "[".repeat(11) + "123456", 21, 2);
        dueFault("steal 1 if 123456 = " + "[".repeat(11), 11, 1);
        dueFault(SIXTY + "+1+123456", SIXTY.length() + 1, 3);
        dueFault(SIXTY + " ? +1", SIXTY.length() + 1, 0);
        dueFault("told 1" + ";told 1".repeat(12) + "?", 6 + 11 * 7 + 1, 4);
        dueFault("told ?" + ";told 1".repeat(12), 5, 0);
    }

    private static void ofOnePlaceTheLeast() {
        about("II: Of one place the least");
        dueFault(SIXTY + "+123456", SIXTY.length() + 1, 1);
        dueFault(SIXTY + "+foo", SIXTY.length() + 1, 0);
        dueFault(SIXTY + "+told", SIXTY.length() + 1, 0);
        dueFault(SIXTY + "+?", SIXTY.length() + 1, 0);
        dueFault(SIXTY + "+", SIXTY.length() + 1, 0);
        dueFault("steal " + "[".repeat(11), 6, 0);
        dueFault("steal 1 if " + "[".repeat(10) + "]", 21, 0);
        dueFault("steal 1 if " + "[".repeat(10) + "or", 21, 0);
        dueFault("steal 1 if " + "[".repeat(10) + "1=not", 23, 0);
    }

    private static void eachTextIsReadAnew() {
        about("11: The TAPE is a LAW: what was counted of another text doesn't count");
        GuardedStreets x = new GuardedStreets();
        due("sixty VALUES", Due.law(x, SIXTY), 0);
        due("sixty VALUES again", Due.law(x, SIXTY), 1);
        due("twelve CLAUSES", Due.law(x, "told 1" + ";told 1".repeat(11)), 2);
        due("twelve CLAUSES again", Due.law(x, "told 1" + ";told 1".repeat(11)), 3);
        due("too deep", Due.law(x, "told 1 if " + "[".repeat(11)), -2 - (1 + 8 * 20 + 2));
        due("ten deep", Due.law(x, "told 1 if " + "[".repeat(10) + "1=1" + "]".repeat(10)), 4);
        due("sixty-one VALUES", Due.law(x, SIXTY + "+1"), -2 - (1 + 8 * 126 + 3));
        due("sixty VALUES once more", Due.law(x, SIXTY), 5);
    }

    private static void eachLawIsItsOwn() {
        about("11: The TAPE is a LAW: eight of sixty VALUES");
        GuardedStreets x = Made.oneStreet();
        for (int i = 0; i < 8; i++) {
            due("law", Due.law(x, SIXTY + ";told 1 if 1=1 ?"), -2 - (1 + 8 * 131 + 3));
            due("law", Due.law(x, "steal cars+" + i + "+1".repeat(58)), i);
        }
        for (int i = 0; i < 8; i++) {
            due("STOLEN by " + i, x.by(i, 0, 0, 0), 7 + i + 58);
        }
    }
}
