import java.util.ArrayList;
import java.util.LinkedHashSet;
import java.util.List;
import java.util.Random;
import java.util.Set;

/**
 * Faults of random texts. A law's due fault comes from its grammar alone: all rows of signs that could
 * still follow are kept as stacks, and the first byte that leaves none is wrong. A parish's due fault
 * comes from a walk over its bytes, one state after the other.
 */
public final class FaultTest {
    private static int wrong = 0;

    public static void main(String[] args) {
        Random random = new Random(7);
        for (int k = 0; k < 6000 && wrong < 20; k++) {
            String text = mutated(random, random.nextBoolean() ? lawWalk(random) : madeLaw(random), "yabxn:;?|&!()[]=<>+-*/0123456789 pz");
            check(text, 1, lawFault(text));
        }
        for (int k = 0; k < 20000 && wrong < 20; k++) {
            String text = mutated(random, madeParish(random), "pr;ydhmc0123456789 x:");
            check(text, 0, parishFault(text));
        }
        System.out.println(wrong == 0 ? "FaultTest: all answers are as due" : "FaultTest: " + wrong + " wrong");
        if (wrong != 0) {
            System.exit(1);
        }
    }

    private static void check(String text, int sort, int want) {
        AgeRoofs roofs = new AgeRoofs();
        for (int at = 0; at < text.length(); at += 20) {
            int[] five = new int[5];
            for (int k = 0; k < 20 && at + k < text.length(); k++) {
                five[k / 4] |= text.charAt(at + k) << 24 - 8 * (k % 4);
            }
            roofs.feed(five[0], five[1], five[2], five[3], five[4]);
        }
        int got = roofs.fault(sort);
        boolean stood = roofs.text(sort) != -1;
        boolean emptied = roofs.count(3) == 0;
        if (got != want || stood != (want == -1) || emptied != (want == -1 || text.isEmpty())) {
            wrong++;
            System.out.println("fault(" + sort + ") of \"" + text + "\" is " + got + ", due is " + want + "; text stood: " + stood);
        }
    }

    private static String mutated(Random random, String text, String signs) {
        StringBuilder made = new StringBuilder(text);
        int changes = random.nextInt(4);
        for (int k = 0; k < changes; k++) {
            int at = random.nextInt(made.length() + 1);
            char sign = random.nextInt(3) == 0 ? ' ' : random.nextInt(20) == 0 ? (char) (1 + random.nextInt(255)) : signs.charAt(random.nextInt(signs.length()));
            int kind = random.nextInt(4);
            if (kind == 0 || at == made.length()) {
                made.insert(at, sign);
            } else if (kind == 1) {
                made.setCharAt(at, sign);
            } else if (kind == 2) {
                made.deleteCharAt(at);
            } else {
                made.setLength(at);
            }
        }
        made.setLength(Math.min(160, made.length()));
        return made.toString();
    }

    // ---- laws: stacks as texts of words, the next one first

    private static List<String> expand(String word) {
        List<String> rows = new ArrayList<>();
        String kind = word.substring(0, word.length() - 1);
        int d = word.charAt(word.length() - 1) - '0';
        switch (kind) {
            case "law": rows.add("clause0 clauses0"); break;
            case "clauses": rows.add(""); rows.add("t; clause0 clauses0"); break;
            case "clause": rows.add("ty t: sum0"); rows.add("ty t: cond0 t? sum0"); break;
            case "cond": rows.add("truth" + d + " truths" + d); break;
            case "truths": rows.add(""); rows.add("t| truth" + d + " truths" + d); break;
            case "truth": rows.add("unit" + d + " units" + d); break;
            case "units": rows.add(""); rows.add("t& unit" + d + " units" + d); break;
            case "unit":
                rows.add("sum" + d + " rel0 sum" + d);
                if (d < 6) {
                    rows.add("t! unit" + (d + 1));
                    rows.add("t( cond" + (d + 1) + " t)");
                }
                break;
            case "rel": rows.add("t="); rows.add("t<"); rows.add("t>"); break;
            case "sum": rows.add("term" + d + " terms" + d); break;
            case "terms": rows.add(""); rows.add("t+ term" + d + " terms" + d); rows.add("t- term" + d + " terms" + d); break;
            case "term": rows.add("atom" + d + " atoms" + d); break;
            case "atoms": rows.add(""); rows.add("t* atom" + d + " atoms" + d); rows.add("t/ atom" + d + " atoms" + d); break;
            case "atom":
                rows.add("digit digits3");
                for (char letter : "abxyn".toCharArray()) {
                    rows.add("t" + letter);
                }
                if (d < 6) {
                    rows.add("t[ sum" + (d + 1) + " t]");
                }
                break;
            default:
                rows.add("");
                if (d > 0) {
                    rows.add("next digits" + (d - 1));
                }
                break;
        }
        return rows;
    }

    private static boolean isSign(String word) {
        return word.length() == 2 && word.charAt(0) == 't' || word.equals("digit") || word.equals("next");
    }

    private static String joined(String row, String rest) {
        return row.isEmpty() ? rest : rest.isEmpty() ? row : row + " " + rest;
    }

    private static String head(String stack) {
        return stack.contains(" ") ? stack.substring(0, stack.indexOf(' ')) : stack;
    }

    private static String rest(String stack) {
        return stack.contains(" ") ? stack.substring(stack.indexOf(' ') + 1) : "";
    }

    /** All stacks whose first word is a sign, or that are empty. */
    private static Set<String> opened(Set<String> stacks) {
        Set<String> found = new LinkedHashSet<>();
        List<String> open = new ArrayList<>(stacks);
        for (int k = 0; k < open.size(); k++) {
            String stack = open.get(k);
            if (stack.isEmpty() || isSign(head(stack))) {
                found.add(stack);
                continue;
            }
            for (String row : expand(head(stack))) {
                open.add(joined(row, rest(stack)));
            }
        }
        return found;
    }

    private static Set<String> behind(Set<String> stacks, char sign) {
        Set<String> found = new LinkedHashSet<>();
        for (String stack : stacks) {
            String word = stack.isEmpty() ? "" : head(stack);
            boolean digit = sign >= '0' && sign <= '9';
            if (sign == ' ' ? !word.equals("next") : !word.isEmpty() && (word.charAt(0) == 't' ? word.charAt(1) == sign : digit)) {
                found.add(sign == ' ' ? stack : rest(stack));
            }
        }
        return opened(found);
    }

    private static int lawFault(String text) {
        Set<String> stacks = opened(Set.of("law0"));
        for (int at = 0; at < text.length(); at++) {
            stacks = behind(stacks, text.charAt(at));
            if (stacks.isEmpty()) {
                return at;
            }
        }
        return stacks.contains("") ? -1 : text.length();
    }

    private static String lawWalk(Random random) {
        StringBuilder text = new StringBuilder();
        Set<String> stacks = opened(Set.of("law0"));
        int least = random.nextInt(60);
        for (int k = 0; k < 120; k++) {
            if (k >= least && stacks.contains("")) {
                break;
            }
            List<String> some = new ArrayList<>(stacks);
            some.remove("");
            String word = head(some.get(random.nextInt(some.size())));
            char sign = word.charAt(0) == 't' ? word.charAt(1) : (char) ('0' + random.nextInt(10));
            text.append(sign);
            stacks = behind(stacks, sign);
        }
        return text.toString();
    }

    /** Deeply nested laws, some too deep. */
    private static String madeLaw(Random random) {
        StringBuilder text = new StringBuilder("y:");
        StringBuilder close = new StringBuilder();
        int levels = random.nextInt(8);
        boolean sums = false;
        for (int k = 0; k < levels; k++) {
            int kind = random.nextInt(3);
            sums |= kind == 2;
            text.append(sums ? "[" : kind == 0 ? "!" : "(");
            close.insert(0, sums ? "]" : kind == 0 ? "" : ")");
        }
        String inside = close.toString();
        int brackets = 0;
        while (brackets < inside.length() && inside.charAt(brackets) == ']') {
            brackets++;
        }
        text.append("a").append(inside, 0, brackets).append("=[b]").append(inside.substring(brackets)).append("?1");
        return text.toString();
    }

    // ---- parishes

    private static String madeParish(Random random) {
        StringBuilder text = new StringBuilder();
        int clauses = 1 + random.nextInt(11);
        for (int k = 0; k < clauses; k++) {
            boolean person = random.nextInt(5) < 3;
            text.append(k == 0 ? "" : ";").append(person ? "p" : "r");
            for (char letter : (person ? "dyh" : "cm").toCharArray()) {
                if (random.nextInt(3) == 0) {
                    int usual = letter == 'h' ? random.nextInt(4) : letter == 'm' ? 1 + random.nextInt(6) : 1 + random.nextInt(letter == 'd' ? 360 : 99);
                    text.append(letter).append(random.nextInt(30) == 0 ? random.nextInt(1200) : usual);
                }
            }
        }
        return text.toString();
    }

    private static int parishFault(String text) {
        int people = 0;
        int houses = 0;
        int highest = -1;
        String letters = "";
        char letter = 0;
        boolean clauseDue = true;
        boolean numberDue = false;
        for (int at = 0; at < text.length(); at++) {
            char sign = text.charAt(at);
            if (sign == ' ') {
                continue;
            }
            if (clauseDue) {
                people += sign == 'p' ? 1 : 0;
                houses += sign == 'r' ? 1 : 0;
                if (sign != 'p' && sign != 'r' || people > 6 || houses > 4) {
                    return at;
                }
                letters = sign == 'p' ? "ydh" : "mc";
                clauseDue = false;
            } else if (numberDue) {
                int end = at;
                while (end < text.length() && Character.toString(text.charAt(end)).matches("[0-9]")) {
                    end++;
                }
                if (end == at) {
                    return at;
                }
                if (end - at > 3) {
                    return at + 3;
                }
                int value = Integer.parseInt(text.substring(at, end));
                int low = letter == 'd' || letter == 'm' ? 1 : 0;
                int high = letter == 'd' ? 360 : letter == 'h' ? 3 : letter == 'm' ? 6 : 99;
                if (value < low || value > high) {
                    return end - 1;
                }
                highest = letter == 'h' ? Math.max(highest, value) : highest;
                numberDue = false;
                at = end - 1;
            } else if (sign == ';') {
                clauseDue = true;
            } else if (letters.indexOf(sign) >= 0) {
                letters = letters.replace(Character.toString(sign), "");
                letter = sign;
                numberDue = true;
            } else {
                return at;
            }
        }
        return clauseDue || numberDue || people == 0 || houses == 0 || highest >= houses ? text.length() : -1;
    }
}
