import java.util.ArrayList;
import java.util.HashSet;
import java.util.List;
import java.util.Set;

/**
 * FAULT by its definition alone: the grammar stands here as the document has it, and a word or sign is one with which no
 * TEXT goes on, if no way of going on by the grammar is left with it. All short TEXTS over some signs are tried.
 */
public final class GrammarTests extends Checks {
    private static final String[] KEYS = {"hard", "fee", "fine"};
    private static final String[] NAMES = {"syl", "cy", "yl"};
    /** Capitals are the document's parts (M is TERM), small letters what may follow in them; # is a NUMBER, @ a NAME, . ends a !. */
    private static final String[] GRAMMAR = {
        "O:Ao", "o:|Ao", "o:",
        "A:Ta", "a:&Ta", "a:",
        "T:St", "t:<S", "t:=S", "t:>S", "t:",
        "S:Ms", "s:+Ms", "s:-Ms", "s:",
        "M:Pm", "m:*Pm", "m:/Pm", "m:",
        "P:#", "P:@", "P:!P.", "P:(O)", ".:",
    };
    private static final int MOST_OPEN = 8;

    /** One TEXT as it is read: its words and signs with their places. */
    private static final class Reading {
        int key = -1;
        int fault = -1;
        final List<String> words = new ArrayList<>();
        /** What may still come, each way of it, the next first. */
        Set<String> ways = new HashSet<>(Set.of("O"));

        Reading(String tape) {
            int at = 0;
            boolean behindWord = false;
            while (at < tape.length() && fault < 0) {
                if (tape.charAt(at) == ' ') {
                    behindWord = false;
                    at++;
                    continue;
                }
                int end = endOf(tape, at);
                boolean isWord = isWord(tape.charAt(at));
                if (behindWord && isWord || !goesOn(tape.substring(at, end))) {
                    fault = at;
                }
                behindWord = isWord;
                at = end;
            }
            if (fault < 0 && (key < 0 || !mayEnd())) {
                fault = tape.length();
            }
        }

        private static boolean isWord(char c) {
            return c >= 'a' && c <= 'z' || c >= '0' && c <= '9';
        }

        private static int endOf(String tape, int at) {
            String letters = "[a-z]+";
            String digits = "[0-9]+";
            int end = at + 1;
            while (end < tape.length() && (tape.substring(at, end + 1).matches(letters) || tape.substring(at, end + 1).matches(digits))) {
                end++;
            }
            return end;
        }

        private boolean goesOn(String word) {
            if (key < 0) {
                key = List.of(KEYS).indexOf(word);
                return key >= 0;
            }
            words.add(word);
            char sign = word.matches("[0-9]{1,4}") ? '#' : word.matches("[" + NAMES[key] + "]") ? '@' : word.charAt(0);
            if (sign != '@' && sign != '#' && (isWord(sign) || isPart(sign))) {
                return false;
            }
            Set<String> then = new HashSet<>();
            for (String way : ways) {
                takes(way, sign, then);
            }
            ways = then;
            return !ways.isEmpty();
        }

        /** Signs of the grammar that no tape means: its parts, and # @ . as they stand in a tape. */
        private static boolean isPart(char sign) {
            return "OATSMP#@.".indexOf(sign) >= 0;
        }

        private static void takes(String way, char sign, Set<String> then) {
            if (way.isEmpty()) {
                return;
            }
            boolean part = false;
            for (String rule : GRAMMAR) {
                if (rule.charAt(0) == way.charAt(0)) {
                    part = true;
                    takes(rule.substring(2) + way.substring(1), sign, then);
                }
            }
            String rest = way.substring(1);
            boolean tooDeep = sign == '!' && open(rest, '.') > MOST_OPEN || sign == '(' && open(rest, ')') > MOST_OPEN;
            if (!part && way.charAt(0) == sign && !tooDeep) {
                then.add(rest);
            }
        }

        private static long open(String way, char end) {
            return way.chars().filter(c -> c == end).count();
        }

        private boolean mayEnd() {
            for (String way : ways) {
                if (way.matches("[oatsm.]*")) {
                    return true;
                }
            }
            return false;
        }
    }

    private static CorkBreaks x;
    private static int calls = 0;

    /** An object is used for 512 calls, so there is a new one now and then; the IMAGE gives TEXTS room again. */
    private static void renewed() {
        if (calls == 0) {
            x = withBottle(0, 37, 0);
            x.keep();
        }
        calls = (calls + 1) % 15;
        x.back();
    }

    private static void tries(String tape) {
        Reading reading = new Reading(tape);
        renewed();
        int answer = text(x, tape);
        due("text of '" + tape + "'", answer, reading.fault < 0 ? 0 : -100 - reading.fault);
        if (reading.fault >= 0 || answer != 0) {
            return;
        }
        ModelTests.Law law = new ModelTests.Law();
        law.key = reading.key;
        law.words.addAll(reading.words);
        due("textTold of '" + tape + "'", x.textTold(0, 1), law.operands());
        if (reading.key == 2) {
            due("fine by '" + tape + "'", x.fine(0), law.value(37, 6));
        }
    }

    /** All rows of so many of the signs at most, behind a beginning. */
    private static void triesAll(String beginning, String signs, int most) {
        tries(beginning);
        for (int k = 0; k < signs.length() && most > 0; k++) {
            triesAll(beginning + signs.charAt(k), signs, most - 1);
        }
    }

    private static void triesNested() {
        for (int k = 0; k < 10000; k++) {
            int a = k % 10;
            int b = k / 10 % 10;
            int c = k / 100 % 10;
            int d = k / 1000;
            String inner = "!".repeat(a) + "(".repeat(b) + "!".repeat(c) + "(".repeat(d) + "y";
            tries("fine " + inner + ")".repeat(b + d));
            String twice = "fine " + inner + ")".repeat(d) + "+" + inner + ")".repeat(b);
            if (a == c && twice.length() <= 96) {
                tries(twice);
            }
        }
    }

    public static void main(String[] args) {
        said("FAULT: the first byte of the first word or sign with which no TEXT goes on");
        triesAll("fine", "7y(!)|=-* s", 5);
        triesAll("fine y", "7y(!)|&<>=+-*/ ?", 3);
        triesAll("fine (!y", "7y()!&<+/ ", 4);
        triesAll("", "fineh ", 5);
        triesAll("hard", "aslyc1 ", 4);
        triesAll("fee", "sylc1 ", 4);
        triesAll("fine ", "12 y", 6);
        said("the ninth ( that would be open within others, the ninth ! likewise, each by itself");
        triesNested();
        ends();
    }
}
