import java.util.ArrayList;
import java.util.List;
import java.util.Random;

/** Texts: faults against a second reading (a list of what is open, no recursion), values against trees made by chance. */
public final class TextTest {
    private static int wrong = 0;
    private static int asked = 0;

    private static void due(String call, long got, long want) {
        asked++;
        if (got != want && wrong++ < 40) {
            System.out.println(call + " answered " + got + ", due is " + want);
        }
    }

    private static void feed(WolfVillage x, String text) {
        for (int at = 0; at < text.length(); at += 8) {
            int n = Math.min(8, text.length() - at);
            long bytes = 0;
            for (int k = 0; k < n; k++) {
                bytes |= (long) (text.charAt(at + k) & 255) << 8 * k;
            }
            due("feed " + text, x.feed(n, bytes), at + n);
        }
    }

    private static int read(WolfVillage x, String text) {
        feed(x, text);
        int answer = x.text();
        due("the tape is empty then: " + text, x.count(6), 0);
        return answer;
    }

    private static int fresh(String text) {
        return read(new WolfVillage(0), text);
    }

    // ---- faults, by hand

    private static void fault(String text, int place) {
        due("fault of [" + text + "]", fresh(text), -100 - place);
    }

    private static void good(String text) {
        due("text [" + text + "]", fresh(text), 1);
    }

    private static void faultsByHand() {
        fault("", 0);
        fault("  \n ", 4);
        fault("grade", 5);
        fault("grade 1 ; fair 1", 16);
        fault("grade 1 ; fair 1  ", 18);
        fault("grade 1 ; fair 1 ; ;", 19);
        fault("grade 1 ; fair 1 ; x", 19);
        fault("grade 1 ; grade 1 ;", 10);
        fault("fair 1 ; grade 1 ;", 0);
        fault("grades 1 ; fair 1 ;", 0);
        fault("Grade 1 ; fair 1 ;", 0);
        fault("grade\t1 ; fair 1 ;", 5);
        fault("grade 12345 ; fair 1 ;", 6);
        fault("grade 1 2 ; fair 1 ;", 8);
        fault("grade 1 < 2 < 3 ; fair 1 ;", 12);
        fault("grade 1 = 2 < 3 ; fair 1 ;", 12);
        fault("grade 1 + not 1 ; fair 1 ;", 10);
        fault("grade - not 1 ; fair 1 ;", 8);
        fault("grade ( 1 ; fair 1 ;", 10);
        fault("grade 1 ) ; fair 1 ;", 8);
        fault("grade ( ) ; fair 1 ;", 8);
        fault("grade fair ; fair 1 ;", 6);
        fault("grade wolf ; fair 1 ;", 6);
        fault("grade won" + (char) 255 + " ; fair 1 ;", 9);
        fault("grade ((((((1)))))) ; fair 1 ;", 11);
        fault("grade ------1 ; fair 1 ;", 11);
        fault("grade not not not not not not 1 ; fair 1 ;", 26);
        fault("grade not not not not not - 1 ; fair 1 ;", 26);
        fault("grade not ( - ( - ( 1 ) ) ) ; fair 1 ;", 18);
        fault("grade 1 ; fair 1 + ;", 19);
        good("grade1;fair1;");
        good("grade\n1;fair 1;");
        good("grade (((((1))))) ; fair 1 ;");
        good("grade -----1 * -----1 ; fair 1 ;");
        good("grade not not not not not 1 and not not not not not 1 ; fair 1 ;");
        good("grade not ( - ( - 1 ) ) ; fair 0009 ;");
        good("grade 1 < 2 and 2 < 3 ; fair ( 1 < 2 ) < 3 ;");
        StringBuilder full = new StringBuilder("grade 1 ; fair 1 ;");
        while (full.length() < 120) {
            full.append(full.length() % 2 == 0 ? ' ' : '\n');
        }
        good(full.toString());
    }

    // ---- faults, by a second reading

    private static final List<String> NAMES = List.of("won", "all", "longest", "puzzles", "ways", "turnings");
    private static final List<String> KEYS = List.of("grade", "fair", "or", "and", "not");

    /** Tokens with their places; "?" is one that can stand nowhere, "" the end. */
    private static List<String> tokens(String text, List<Integer> places) {
        List<String> found = new ArrayList<>();
        int at = 0;
        while (at < text.length()) {
            char c = text.charAt(at);
            int from = at++;
            if (c == ' ' || c == '\n') {
                continue;
            }
            boolean word = c >= 'a' && c <= 'z';
            boolean digit = c >= '0' && c <= '9';
            while (at < text.length() && (word && text.charAt(at) >= 'a' && text.charAt(at) <= 'z'
                    || digit && text.charAt(at) >= '0' && text.charAt(at) <= '9')) {
                at++;
            }
            String token = text.substring(from, at);
            boolean can = word ? NAMES.contains(token) || KEYS.contains(token)
                    : digit ? token.length() <= 4 : "();+-*<=".indexOf(c) >= 0;
            found.add(can ? token : "?");
            places.add(from);
        }
        found.add("");
        places.add(text.length());
        return found;
    }

    /** -1, or the place of the fault: goes through the tokens with a list of what is open. */
    private static int faultOf(String text) {
        List<Integer> places = new ArrayList<>();
        List<String> tokens = tokens(text, places);
        List<Character> open = new ArrayList<>();
        List<Boolean> outer = new ArrayList<>();
        int part = 0;
        boolean compared = false;
        String state = "part";
        for (int k = 0; k < tokens.size(); k++) {
            String t = tokens.get(k);
            boolean ok;
            if (state.equals("part")) {
                ok = t.equals(part == 0 ? "grade" : part == 1 ? "fair" : "");
                state = "not";
                compared = false;
            } else if (state.equals("not") || state.equals("one")) {
                boolean opens = t.equals("(") || t.equals("-") || t.equals("not") && state.equals("not");
                if (opens) {
                    ok = open.size() < 5;
                    open.add(t.charAt(0));
                    if (t.equals("(")) {
                        outer.add(compared);
                        compared = false;
                    }
                    state = t.equals("-") ? "one" : "not";
                } else {
                    ok = NAMES.contains(t) || !t.isEmpty() && Character.isDigit(t.charAt(0));
                    close(open, '-');
                    state = "behind";
                }
            } else if (t.equals("+") || t.equals("-") || t.equals("*")) {
                ok = true;
                state = "one";
            } else if (t.equals("<") || t.equals("=")) {
                ok = !compared;
                compared = true;
                state = "one";
            } else if (t.equals("and") || t.equals("or")) {
                ok = true;
                close(open, 'n');
                compared = false;
                state = "not";
            } else if (t.equals(")")) {
                close(open, 'n');
                ok = !open.isEmpty();
                if (ok) {
                    open.remove(open.size() - 1);
                    compared = outer.remove(outer.size() - 1);
                    close(open, '-');
                }
            } else {
                close(open, 'n');
                ok = t.equals(";") && open.isEmpty();
                part++;
                state = "part";
            }
            if (!ok) {
                return places.get(k);
            }
        }
        return -1;
    }

    private static void close(List<Character> open, char what) {
        while (!open.isEmpty() && open.get(open.size() - 1) == what) {
            open.remove(open.size() - 1);
        }
    }

    private static void faultsByChance(Random chance) {
        String[] bits = {"won", "all", "ways", "7", "12", "(", ")", ";", "+", "-", "*", "<", "=", "or", "and", "not",
            "grade", "fair", "99999", "x", "A", "not", "(", "-", "1"};
        for (int n = 0; n < 12000; n++) {
            StringBuilder text = new StringBuilder();
            if (chance.nextInt(10) > 0) {
                text.append("grade ");
            }
            int size = chance.nextInt(20);
            for (int k = 0; k < size; k++) {
                text.append(bits[chance.nextInt(bits.length - (chance.nextInt(3) > 0 ? 9 : 0))]);
                text.append(chance.nextInt(4) > 0 ? " " : chance.nextInt(2) > 0 ? "" : "\n");
            }
            String told = text.length() > 120 ? text.substring(0, 120) : text.toString();
            askFault(told);
        }
        for (int n = 0; n < 12000; n++) {
            StringBuilder good = new StringBuilder("grade " + tree(chance, 0, 3).text + " ; fair " + tree(chance, 0, 2).text + ";");
            int changes = chance.nextInt(3);
            for (int k = 0; k < changes; k++) {
                int at = chance.nextInt(good.length());
                String bit = bits[chance.nextInt(bits.length)];
                if (chance.nextInt(3) == 0) {
                    good.deleteCharAt(at);
                } else {
                    good.insert(at, chance.nextBoolean() ? bit : " " + bit + " ");
                }
            }
            askFault(good.length() > 120 ? good.substring(0, 120) : good.toString());
        }
    }

    private static void askFault(String text) {
        int fault = faultOf(text);
        due("fault of [" + text + "]", fresh(text), fault < 0 ? 1 : -100 - fault);
    }

    // ---- values

    record Tree(String text, int value, int level) { }

    private static int[] values = new int[6];

    /** A text of a level (0 E .. 5 ONE) and what it comes to. */
    private static Tree tree(Random chance, int level, int deep) {
        if (level == 5) {
            int what = deep <= 0 ? chance.nextInt(2) : chance.nextInt(4);
            if (what == 0) {
                int v = chance.nextInt(chance.nextBoolean() ? 4 : 10000);
                return new Tree(Integer.toString(v), v, 5);
            }
            if (what == 1) {
                int k = chance.nextInt(6);
                return new Tree(NAMES.get(k), values[k], 5);
            }
            Tree in = tree(chance, what == 2 ? 5 : 0, deep - 1);
            return what == 2 ? new Tree("- " + in.text, -in.value, 5) : new Tree("( " + in.text + " )", in.value, 5);
        }
        if (level == 2) {
            if (deep > 0 && chance.nextInt(4) == 0) {
                Tree in = tree(chance, 2, deep - 1);
                return new Tree("not " + in.text, in.value == 0 ? 1 : 0, 2);
            }
            Tree a = tree(chance, 3, deep);
            if (chance.nextInt(3) > 0) {
                return a;
            }
            Tree b = tree(chance, 3, deep - 1);
            boolean less = chance.nextBoolean();
            boolean holds = less ? a.value < b.value : a.value == b.value;
            return new Tree(a.text + (less ? " < " : " = ") + b.text, holds ? 1 : 0, 2);
        }
        Tree a = tree(chance, level + 1, deep);
        String text = a.text;
        int value = a.value;
        int more = chance.nextInt(3) == 0 ? 1 + chance.nextInt(2) : 0;
        for (int k = 0; k < more; k++) {
            Tree b = tree(chance, level + 1, deep - 1);
            boolean plus = chance.nextBoolean();
            switch (level) {
                case 0: value = value != 0 | b.value != 0 ? 1 : 0; break;
                case 1: value = value != 0 & b.value != 0 ? 1 : 0; break;
                case 3: value = plus ? value + b.value : value - b.value; break;
                default: value = value * b.value; break;
            }
            text += (level == 0 ? " or " : level == 1 ? " and " : level == 3 ? plus ? " + " : " - " : " * ") + b.text;
        }
        return new Tree(text, value, level);
    }

    private static WolfVillage village() {
        WolfVillage x = new WolfVillage(3);
        x.tell(0, 2);
        for (int k = 0; k < 6; k++) {
            x.way(0, k, (k + 1) % 6);
        }
        x.way(1, 0, 3);
        x.ground(2, 1);
        return x;
    }

    private static void valuesByChance(Random chance) {
        WolfVillage x = village();
        int puzzles = 0;
        for (int n = 1; n <= 999; n++) {
            puzzles += x.puzzle(n, -1);
        }
        values = new int[] {x.solved(0), x.solved(1), x.solved(2), puzzles, x.count(1), x.turnings()};
        for (int n = 0; n < 8000; n++) {
            Tree grade = tree(chance, 0, 3);
            Tree fair = tree(chance, 0, 2);
            String text = "grade " + grade.text + " ; fair " + fair.text + " ;";
            if (text.length() > 120) {
                continue;
            }
            if (n % 5 == 0) {
                x = village();
            }
            int number = read(x, text);
            due("text " + text, number, x.count(5) - 1);
            x.force(number);
            due("grade of " + text, x.says(0), grade.value);
            due("fair of " + text, x.says(1), fair.value);
            if (x.count(5) == 6) {
                x = village();
            }
        }
        values = new int[6];
    }

    private static void valueByHand(String expression, long want) {
        WolfVillage x = village();
        due("text of " + expression, read(x, "grade " + expression + " ; fair 0 ;"), 1);
        x.force(1);
        due("value of " + expression, x.says(0), want);
    }

    private static void valuesByHand() {
        valueByHand("2 + 3 * 4", 14);
        valueByHand("( 2 + 3 ) * 4", 20);
        valueByHand("10 - 3 - 2", 5);
        valueByHand("- 3 * 2 + 1", -5);
        valueByHand("7 or 0", 1);
        valueByHand("7", 7);
        valueByHand("7 and 2", 1);
        valueByHand("not 7 = 8", 1);
        valueByHand("not 7", 0);
        valueByHand("1 or 1 and 0", 1);
        valueByHand("- 1 < 0", 1);
        valueByHand("9999 * 9999 * 9999", 9999 * 9999 * 9999);
        valueByHand("- ( 8192 * 8192 * 32 )", Integer.MIN_VALUE);
        valueByHand("ways", 7);
    }

    public static void main(String[] args) {
        faultsByHand();
        faultsByChance(new Random(5));
        valuesByHand();
        valuesByChance(new Random(6));
        System.out.println(asked + " answers, " + wrong + " wrong");
        if (wrong != 0) {
            System.exit(1);
        }
    }
}
