import java.util.ArrayList;
import java.util.List;

/** TEXTS by lot: what they give against a reckoning while they are made, faults against another reader. */
public final class TextsByLotTest {
    private static final Check CHECK = new Check("texts by lot");
    private static final String[] WORDS = {"days", "all", "weeks", "rest", "rate", "hours", "over", "rain", "broken",
        "fuel", "harm", "worth", "own", "sub", "from", "up", "to", "least", "most", "x", "dayss"};
    private static final String SIGNS = "+-*/(),;.";

    private final Lots lots;
    private final StringBuilder text = new StringBuilder();

    private TextsByLotTest(int seed) {
        lots = new Lots(seed);
    }

    public static void main(String[] args) {
        for (int seed = 1; seed <= 4000; seed++) {
            new TextsByLotTest(seed).gives(seed);
            new TextsByLotTest(seed).fault(seed);
        }
        CHECK.done();
    }

    private void gives(int seed) {
        int worked = lots.below(30);
        int due = sum(worked, 0);
        if (text.length() > 200) {
            return;
        }
        Scene s = Scene.hire();
        CHECK.is("37: '" + text + "'", s.terms(0, 0, text.toString()), 0);
        CHECK.is("38: '" + text + "' by " + worked, s.yard.gives(0, 0, worked), Math.max(0, Math.min(9999999, due)));
    }

    private void blanks() {
        for (int i = lots.below(8) - 5; i > 0; i--) {
            text.append(' ');
        }
    }

    private void put(char sign) {
        blanks();
        text.append(sign);
        blanks();
    }

    private int sum(int worked, int open) {
        int value = product(worked, open);
        for (int i = lots.below(3); i > 0; i--) {
            boolean plus = lots.below(2) == 0;
            put(plus ? '+' : '-');
            int other = product(worked, open);
            value = plus ? value + other : value - other;
        }
        return value;
    }

    private int product(int worked, int open) {
        int value = operand(worked, open);
        for (int i = lots.below(5) - 2; i > 0; i--) {
            boolean times = lots.below(2) == 0;
            put(times ? '*' : '/');
            int other = operand(worked, open);
            value = times ? value * other : other == 0 ? 0 : value / other;
        }
        return value;
    }

    private int operand(int worked, int open) {
        int sort = open >= 8 ? lots.below(5) : lots.below(10);
        if (sort < 4) {
            int number = lots.below(sort == 0 ? 1000000 : 20);
            text.append(number);
            return number;
        }
        if (sort == 4) {
            text.append("days");
            return worked;
        }
        if (sort < 7) {
            put('(');
            int value = sum(worked, open + 1);
            put(')');
            return value;
        }
        text.append(sort == 7 ? "least" : "most");
        put('(');
        int a = sum(worked, open + 1);
        put(',');
        int b = sum(worked, open + 1);
        put(')');
        return sort == 7 ? Math.min(a, b) : Math.max(a, b);
    }

    /** A text of words by lot, each mostly one that may stand there. */
    private void fault(int seed) {
        Reader reader = new Reader();
        int due = -1;
        for (int i = 3 + lots.below(40); i > 0 && due < 0; i--) {
            String token = token();
            for (int tries = 0; tries < 6 && !reader.takes(token); tries++) {
                token = token();
            }
            boolean apart = text.length() > 0 && sameSort(text.charAt(text.length() - 1), token.charAt(0));
            if (apart || lots.below(6) == 0) {
                text.append(' ');
            }
            if (!reader.takes(token)) {
                due = text.length();
            }
            reader.take(token);
            text.append(token);
        }
        if (text.length() > 200) {
            return;
        }
        if (due < 0 && !reader.mayEnd()) {
            due = text.length();
        }
        int answer = Scene.plain().terms(0, 0, text.toString());
        CHECK.is("37: '" + text + "'", answer, due < 0 ? 0 : -100 - due);
    }

    private String token() {
        int sort = lots.below(4);
        if (sort == 0) {
            return WORDS[lots.below(WORDS.length)];
        }
        if (sort == 1) {
            return lots.below(30) == 0 ? "1234567" : Integer.toString(lots.below(1000000));
        }
        return lots.below(3) == 0 ? "(" : String.valueOf(SIGNS.charAt(lots.below(SIGNS.length())));
    }

    private static boolean sameSort(char a, char b) {
        return Character.isLetter(a) && Character.isLetter(b) || Character.isDigit(a) && Character.isDigit(b);
    }

    /** Reads word by word, with what is open on a list: no grammar by functions. */
    private static final class Reader {
        /** What may come: 0 a step, 1 an operand, 2 an operator, 3 N, 4 up or to, 5 N behind to, 6 ( of a pair, 7 nothing. */
        private int state;
        /** What is open: ( of one E, a before the comma of a pair, b behind it. */
        private final List<Character> open = new ArrayList<>();

        private static boolean isNumber(String token) {
            return Character.isDigit(token.charAt(0)) && token.length() <= 6;
        }

        private int after(String token) {
            boolean operand = state == 0 || state == 1;
            if (state == 0 && token.equals("from")) {
                return 3;
            }
            if (operand && (isNumber(token) || List.of(WORDS).subList(0, 14).contains(token))) {
                return 2;
            }
            if (operand && (token.equals("least") || token.equals("most"))) {
                return 6;
            }
            if ((operand || state == 6) && token.equals("(")) {
                return open.size() < 8 ? 1 : 7;
            }
            if (state == 3 && isNumber(token)) {
                return 4;
            }
            if (state == 4 && (token.equals("up") || token.equals("to"))) {
                return token.equals("up") ? 1 : 5;
            }
            if (state == 5 && isNumber(token)) {
                return 1;
            }
            return state == 2 ? afterOperand(token) : 7;
        }

        private int afterOperand(String token) {
            char last = open.isEmpty() ? ' ' : open.get(open.size() - 1);
            switch (token) {
                case "+": case "-": case "*": case "/": return 1;
                case ";": return last == ' ' ? 0 : 7;
                case ",": return last == 'a' ? 1 : 7;
                case ")": return last == '(' || last == 'b' ? 2 : 7;
                default: return 7;
            }
        }

        boolean takes(String token) {
            return after(token) != 7;
        }

        void take(String token) {
            int then = after(token);
            if (then != 7 && token.equals("(")) {
                open.add(state == 6 ? 'a' : '(');
            } else if (then != 7 && token.equals(",")) {
                open.set(open.size() - 1, 'b');
            } else if (then != 7 && token.equals(")")) {
                open.remove(open.size() - 1);
            }
            state = then;
        }

        boolean mayEnd() {
            return state == 2 && open.isEmpty();
        }
    }
}
