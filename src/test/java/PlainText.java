import java.util.ArrayDeque;
import java.util.ArrayList;
import java.util.Deque;
import java.util.List;
import java.util.Map;
import java.util.Set;

/** The orders of a text, read by a table of what may follow and worked out by splitting; no grammar is walked. */
final class PlainText {
    private static final Set<String> NO_NAMES = Set.of("when", "do", "turn", "wash", "brush", "or", "and", "not");
    private static final Set<String> NAMES =
        Set.of("kind", "age", "ripe", "mould", "weight", "air", "damp", "side", "shelf", "day");
    private static final String BAD = "?";
    private static final String END = "";

    final List<List<String>> conditions = new ArrayList<>();
    final List<String> deeds = new ArrayList<>();
    int fault = 0;
    int place = -1;

    private final List<String> tokens = new ArrayList<>();
    private final List<Integer> places = new ArrayList<>();

    /** What is open: the whole of a line's e, or one ( ). */
    private static final class Open {
        int nots = 0;
        boolean compared = false;
    }

    PlainText(String text) {
        cut(text);
        check();
        if (fault == 0) {
            gather();
        }
    }

    private void cut(String text) {
        int i = 0;
        while (i < text.length()) {
            char c = text.charAt(i);
            if (c == ' ' || c == '\n') {
                i++;
                continue;
            }
            int end = i + 1;
            boolean letter = c >= 'a' && c <= 'z';
            boolean digit = c >= '0' && c <= '9';
            while (end < text.length() && (letter && isLetter(text, end) || digit && isDigit(text, end))) {
                end++;
            }
            boolean good = letter && end - i <= 8
                || digit && end - i <= 6 && !isLetter(text, end)
                || ";<>=+-()".indexOf(c) >= 0;
            tokens.add(good ? text.substring(i, end) : BAD);
            places.add(i);
            i = end;
        }
        tokens.add(END);
        places.add(text.length());
    }

    private static boolean isLetter(String text, int at) {
        return at < text.length() && text.charAt(at) >= 'a' && text.charAt(at) <= 'z';
    }

    private static boolean isDigit(String text, int at) {
        return at < text.length() && text.charAt(at) >= '0' && text.charAt(at) <= '9';
    }

    private void check() {
        String state = "line";
        int lines = 0;
        int operands = 0;
        boolean oneBegins = false;
        Deque<Open> open = new ArrayDeque<>();
        for (int i = 0; i < tokens.size(); i++) {
            String t = tokens.get(i);
            if (t.equals(BAD)) {
                tell(1, i);
                return;
            }
            String after = null;
            boolean isOperand = !t.isEmpty() && Character.isLetterOrDigit(t.charAt(0)) && !NO_NAMES.contains(t);
            if (state.equals("line")) {
                if (t.equals(END)) {
                    return;
                }
                if (t.equals("when") && lines < 8) {
                    lines++;
                    open.push(new Open());
                    oneBegins = true;
                    after = "operand";
                }
            } else if (state.equals("operand")) {
                int depth = open.size() - 1;
                for (Open o : open) {
                    depth += o.nots;
                }
                if (oneBegins && depth >= 8) {
                    after = null;
                } else if (t.equals("not") && oneBegins) {
                    open.peek().nots++;
                    after = "operand";
                } else if (t.equals("(")) {
                    open.push(new Open());
                    oneBegins = true;
                    after = "operand";
                } else if (isOperand && operands < 80) {
                    operands++;
                    if (Character.isLetter(t.charAt(0)) && !NAMES.contains(t)) {
                        tell(3, i);
                        return;
                    }
                    after = "joint";
                }
            } else if (state.equals("joint")) {
                if (t.equals("+") || t.equals("-")) {
                    oneBegins = false;
                    after = "operand";
                } else if ((t.equals("<") || t.equals(">") || t.equals("=")) && !open.peek().compared) {
                    open.peek().compared = true;
                    oneBegins = false;
                    after = "operand";
                } else if (t.equals("and") || t.equals("or")) {
                    open.peek().compared = false;
                    open.peek().nots = 0;
                    oneBegins = true;
                    after = "operand";
                } else if (t.equals(")") && open.size() > 1) {
                    open.pop();
                    after = "joint";
                } else if (t.equals("do") && open.size() == 1) {
                    open.pop();
                    after = "deed";
                }
            } else if (state.equals("deed")) {
                after = t.equals("turn") || t.equals("wash") || t.equals("brush") ? "semicolon" : null;
            } else {
                after = t.equals(";") ? "line" : null;
            }
            if (after == null) {
                tell(2, i);
                return;
            }
            state = after;
        }
    }

    private void tell(int kind, int token) {
        fault = kind;
        place = places.get(token);
    }

    private void gather() {
        int begin = 1;
        for (int i = 0; i < tokens.size(); i++) {
            if (tokens.get(i).equals("do")) {
                conditions.add(tokens.subList(begin, i));
                deeds.add(tokens.get(i + 1));
                begin = i + 4;
            }
        }
    }

    static int worth(List<String> e, Map<String, Integer> names) {
        for (String joint : new String[] {"or", "and"}) {
            int at = lastOutside(e, joint, joint);
            if (at >= 0) {
                boolean left = worth(e.subList(0, at), names) != 0;
                boolean right = worth(e.subList(at + 1, e.size()), names) != 0;
                return (joint.equals("or") ? left | right : left & right) ? 1 : 0;
            }
        }
        if (e.get(0).equals("not")) {
            return worth(e.subList(1, e.size()), names) == 0 ? 1 : 0;
        }
        for (String sign : new String[] {"<", ">", "="}) {
            int at = lastOutside(e, sign, sign);
            if (at >= 0) {
                int order = Integer.compare(worth(e.subList(0, at), names), worth(e.subList(at + 1, e.size()), names));
                return order == (sign.equals("<") ? -1 : sign.equals(">") ? 1 : 0) ? 1 : 0;
            }
        }
        int at = lastOutside(e, "+", "-");
        if (at >= 0) {
            int right = worth(e.subList(at + 1, e.size()), names);
            return worth(e.subList(0, at), names) + (e.get(at).equals("+") ? right : -right);
        }
        if (e.get(0).equals("(")) {
            return worth(e.subList(1, e.size() - 1), names);
        }
        return names.containsKey(e.get(0)) ? names.get(e.get(0)) : Integer.parseInt(e.get(0));
    }

    private static int lastOutside(List<String> e, String a, String b) {
        int inside = 0;
        for (int i = e.size() - 1; i >= 0; i--) {
            String t = e.get(i);
            inside += t.equals(")") ? 1 : t.equals("(") ? -1 : 0;
            if (inside == 0 && (t.equals(a) || t.equals(b))) {
                return i;
            }
        }
        return -1;
    }
}
