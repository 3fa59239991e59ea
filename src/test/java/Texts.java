import java.util.HashMap;
import java.util.Map;

/** What a TEXT without a fault gives, reckoned anew from its signs each time. */
final class Texts {
    private final Map<String, Integer> names = new HashMap<>();
    private String text;
    private int at;

    void put(String name, int value) {
        names.put(name, value);
    }

    /** DAYS of the hire, and what follows from them; hours and the work a day are told ahead. */
    void all(int days) {
        put("all", days);
        put("weeks", days / 7);
        put("rest", days % 7);
        put("over", Math.max(0, names.get("hours") - days * names.get("work")));
    }

    int give(String whole) {
        for (String step : whole.split(";")) {
            text = step;
            at = 0;
            if (counts()) {
                return Math.max(0, Math.min(9999999, sum()));
            }
        }
        return 0;
    }

    private boolean counts() {
        if (!comes("from")) {
            return true;
        }
        int least = number(), days = names.get("days");
        if (comes("up")) {
            return days >= least;
        }
        comes("to");
        return days >= least & days <= number();
    }

    private void skip() {
        while (at < text.length() && text.charAt(at) == ' ') {
            at++;
        }
    }

    private boolean comes(String what) {
        skip();
        if (text.startsWith(what, at)) {
            at += what.length();
            return true;
        }
        return false;
    }

    private int number() {
        skip();
        int from = at;
        while (at < text.length() && Character.isDigit(text.charAt(at))) {
            at++;
        }
        return Integer.parseInt(text.substring(from, at));
    }

    private int sum() {
        int value = product();
        while (true) {
            if (comes("+")) {
                value += product();
            } else if (comes("-")) {
                value -= product();
            } else {
                return value;
            }
        }
    }

    private int product() {
        int value = operand();
        while (true) {
            if (comes("*")) {
                value *= operand();
            } else if (comes("/")) {
                int by = operand();
                value = by == 0 ? 0 : value / by;
            } else {
                return value;
            }
        }
    }

    private int operand() {
        skip();
        if (Character.isDigit(text.charAt(at))) {
            return number();
        }
        if (comes("(")) {
            int value = sum();
            comes(")");
            return value;
        }
        boolean least = comes("least");
        if (least || comes("most")) {
            comes("(");
            int a = sum();
            comes(",");
            int b = sum();
            comes(")");
            return least ? Math.min(a, b) : Math.max(a, b);
        }
        int from = at;
        while (at < text.length() && Character.isLetter(text.charAt(at))) {
            at++;
        }
        return names.get(text.substring(from, at));
    }
}
