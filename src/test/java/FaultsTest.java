import java.util.Random;

/** FAULTS of LAWS: at the edges that the document names, and of drawn texts as TwinLaw finds them. */
public final class FaultsTest {
    private static final int DRAWN = 40000;

    private FaultsTest() {
    }

    public static void main(String[] args) {
        wordsAndBytes();
        ends();
        numbers();
        depth();
        weight();
        clauses();
        several();
        drawn();
        Due.end();
    }

    private static void dueRight(String text) {
        Due.due("11: law of " + text, Due.law(new GuardedStreets(), text), 0);
    }

    private static void dueFault(String text, int place, int kind) {
        Due.due("11: law of " + text, Due.law(new GuardedStreets(), text), -2 - (1 + 8 * place + kind));
    }

    private static void wordsAndBytes() {
        dueRight("steal 1");
        dueRight("  steal  1  ");
        dueRight("steal 1if 1=1");
        dueRight("steal cars+wish*guard/ring-week if since<house or street>=1");
        dueRight("steal 1;moves 2;told 3;told 4;moves 5;steal 6");
        dueRight("steal 1 if not[1=1]and[not 1<2]or not not 3>=2");
        dueRight("steal1");
        dueFault("steal1 2", 7, 0);
        dueFault("stealcars", 0, 0);
        dueFault("steala 1", 0, 0);
        dueFault("stealz 1", 0, 0);
        dueFault("steal` 1", 5, 0);
        dueFault("steal{ 1", 5, 0);
        dueFault("steal 1: 1", 7, 0);
        dueFault("STEAL 1", 0, 0);
        dueFault("cars", 0, 0);
        dueFault("1", 0, 0);
        dueFault("steal steal", 6, 0);
        dueFault("steal told", 6, 0);
        dueFault("steal if", 6, 0);
        dueFault("steal car", 6, 0);
        dueFault("steal carss", 6, 0);
        dueFault("steal Cars", 6, 0);
        dueFault("steal 1 2", 8, 0);
        dueFault("steal 1 cars", 8, 0);
        dueFault("steal -1", 6, 0);
        dueFault("steal [1]", 6, 0);
        dueFault("steal 1 < 2", 8, 0);
        dueFault("steal 1 and 2", 8, 0);
        dueFault("steal 1 ]", 8, 0);
        dueFault("steal 1\t", 7, 0);
        dueFault("steal 1\u0000", 7, 0);
        dueFault("steal 1\u00e9", 7, 0);
        dueFault("steal 1\u00a0", 7, 0);
        dueFault("steal 1 if cars", 15, 0);
        dueFault("steal 1 if cars and 1 = 1", 16, 0);
        dueFault("steal 1 if 1 = 1 if 1 = 1", 17, 0);
        dueFault("steal 1 if 1 = 1 = 1", 17, 0);
        dueFault("steal 1 if 1 < = 1", 15, 0);
        dueFault("steal 1 if 1 =< 1", 14, 0);
        dueFault("steal 1 if 1 == 1", 14, 0);
        dueFault("steal 1 if 1 <> 1", 14, 0);
        dueFault("steal 1 if 1 <== 1", 15, 0);
        dueFault("steal 1 if 1 ! 1", 13, 0);
        dueFault("steal 1 if [1 = 1 ; steal 1", 18, 0);
        dueFault("steal 1 if [1 = 1]]", 18, 0);
        dueFault("steal 1 if [1] = 1", 13, 0);
        dueFault("steal 1 if 1 = [1]", 15, 0);
        dueFault("steal 1 if 1 = not 1", 15, 0);
        dueFault("steal 1 if 1 + not 1 = 1", 15, 0);
        dueFault("steal 1 if 1 = 1 not 1 = 1", 17, 0);
        dueFault("steal 1 if 1 = 1 [1 = 1]", 17, 0);
        dueFault("steal 1 if or 1 = 1", 11, 0);
        dueFault("steal 1 if 1 = 1 or and 1 = 1", 20, 0);
        dueFault("steal 1;;steal 1", 8, 0);
        dueFault(";steal 1", 0, 0);
    }

    private static void ends() {
        dueFault("", 0, 0);
        dueFault("   ", 3, 0);
        dueFault("steal", 5, 0);
        dueFault("steal ", 6, 0);
        dueFault("steal 1 +", 9, 0);
        dueFault("steal 1 *  ", 11, 0);
        dueFault("steal 1;", 8, 0);
        dueFault("steal 1 ; ", 10, 0);
        dueFault("steal 1 if", 10, 0);
        dueFault("steal 1 if not", 14, 0);
        dueFault("steal 1 if [", 12, 0);
        dueFault("steal 1 if [1 = 1", 17, 0);
        dueFault("steal 1 if [[1 = 1] ", 20, 0);
        dueFault("steal 1 if 1", 12, 0);
        dueFault("steal 1 if 1 <", 14, 0);
        dueFault("steal 1 if 1 < 1 or", 19, 0);
        dueFault("steal 1 if 1 < 1 and ", 21, 0);
        dueRight("steal 1" + " ".repeat(393));
        dueRight(" ".repeat(393) + "steal 1");
        dueFault(" ".repeat(394) + "steal ", 400, 0);
    }

    private static void numbers() {
        dueRight("steal 99999");
        dueRight("steal 00000");
        dueFault("steal 100000", 6, 1);
        dueFault("steal 000001", 6, 1);
        dueFault("steal 1+" + "9".repeat(392), 8, 1);
        dueFault("steal 1 123456", 8, 0);
        dueFault("steal 123456 foo", 6, 1);
        dueFault("steal 1 if 123456 = 1", 11, 1);
        dueFault("steal 1 if 1 = 123456", 15, 1);
        dueFault("123456", 0, 0);
    }

    private static void depth() {
        dueRight("steal 1 if " + "[".repeat(10) + "1=1" + "]".repeat(10));
        dueFault("steal 1 if " + "[".repeat(11) + "1=1" + "]".repeat(11), 21, 2);
        dueRight("steal 1 if " + "not ".repeat(10) + "1=1");
        dueFault("steal 1 if " + "not ".repeat(11) + "1=1", 51, 2);
        dueRight("steal 1 if " + "not[".repeat(5) + "1=1" + "]".repeat(5));
        dueFault("steal 1 if " + "not[".repeat(5) + "not 1=1" + "]".repeat(5), 31, 2);
        dueFault("steal 1 if " + "not[".repeat(5) + "[1=1]" + "]".repeat(5), 31, 2);
        String deep = "[".repeat(9) + "not 1=1 and not 1=1 or not 1=1" + "]".repeat(9);
        dueRight("steal 1 if " + deep + " and " + deep + "; steal 1 if " + deep);
        dueFault("steal 1 if " + "[".repeat(9) + "1=1]" + "[", 24, 0);
        dueFault("steal 1 if 1=1 " + "[".repeat(11), 15, 0);
        dueFault("steal 1 if " + "[".repeat(11), 21, 2);
        dueFault("steal 1 if " + "[".repeat(10), 21, 0);
    }

    private static void weight() {
        dueRight("steal 1" + "+1".repeat(59));
        dueFault("steal 1" + "+1".repeat(60), 126, 3);
        dueFault("steal 1" + "+1".repeat(59) + "+123456", 126, 1);
        dueFault("steal 1" + "+1".repeat(59) + "+foo", 126, 0);
        dueFault("steal 1" + "+1".repeat(59) + "+", 126, 0);
        dueFault("steal 1" + "+1".repeat(59) + " 1", 126, 0);
        dueFault("steal 1" + "+1".repeat(59) + ";told cars", 131, 3);
        // 20 FACTS of three are 60; the SUM of the CLAUSE is one more.
        String facts = "1=1" + " or 1=1".repeat(18);
        dueRight("steal 1+1 if " + facts);
        dueFault("steal 1 if " + facts + " or 1=1", 11 + 19 * 7 + 2, 3);
        dueFault("steal 1+1 if " + facts + " or 1=1", 13 + 19 * 7 + 1, 3);
        dueFault("steal 1+1+1 if " + facts + " or 1=1", 15 + 19 * 7, 3);
        dueFault("steal 1+1 if " + facts + " or 1 1", 13 + 19 * 7 + 2, 0);
        dueRight("steal 1+1 if " + "not [" + facts + "]");
    }

    private static void clauses() {
        dueRight("steal 1" + ";told 1".repeat(11));
        dueFault("steal 1" + ";told 1".repeat(12), 7 + 11 * 7 + 1, 4);
        dueFault("steal 1" + ";told 1".repeat(11) + "; moves", 7 + 11 * 7 + 2, 4);
        dueFault("steal 1" + ";told 1".repeat(11) + ";cars", 7 + 11 * 7 + 1, 0);
        dueFault("steal 1" + ";told 1".repeat(11) + ";", 7 + 11 * 7 + 1, 0);
        dueFault("steal 1" + ";told 1".repeat(11) + ";  ", 7 + 11 * 7 + 3, 0);
    }

    private static void several() {
        GuardedStreets x = new GuardedStreets();
        Due.due("11: the first along the text", Due.law(x, "steal 123456 ? 1"), -2 - (1 + 8 * 6 + 1));
        Due.due("11: the next text is read anew", Due.law(x, "steal 1+1" + "+1".repeat(58)), 0);
        Due.due("11: its weight, too", Due.law(x, "steal 1+1" + "+1".repeat(58)), 1);
        Due.due("11: and its CLAUSES", Due.law(x, "steal 1" + ";told 1".repeat(11)), 2);
        Due.due("11: all of it", Due.law(x, "steal 1" + ";told 1".repeat(11)), 3);
    }

    private static void drawn() {
        LawTexts texts = new LawTexts(new Random(1));
        for (int i = 0; i < DRAWN; i++) {
            String text = texts.oftenWrong();
            text = text.substring(0, Math.min(400, text.length()));
            int fault = new TwinLaw(text).fault;
            Due.due("11: law of " + text, Due.law(new GuardedStreets(), text), fault == 0 ? 0 : -2 - fault);
        }
    }
}
