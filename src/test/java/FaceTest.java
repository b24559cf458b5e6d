import java.io.IOException;
import java.lang.reflect.Constructor;
import java.lang.reflect.Field;
import java.lang.reflect.Method;
import java.lang.reflect.Modifier;
import java.nio.file.Files;
import java.nio.file.Path;
import java.util.ArrayList;
import java.util.HashSet;
import java.util.List;
import java.util.Random;
import java.util.Set;
import java.util.TreeSet;
import java.util.regex.Matcher;
import java.util.regex.Pattern;

/** The public face, what LANGUAGE.md forbids by word, and calls with any numbers at all, none of which may throw. */
public final class FaceTest {
    private static int wrong = 0;

    private static void fault(String what) {
        if (wrong++ < 40) {
            System.out.println(what);
        }
    }

    private static final String[] FACE = {
        "int way(int,int,int)", "int unway()", "int wayTold(int,int)", "int ground(int,int)", "int tell(int,int)",
        "int length(int,int,int,int,int)", "int best(int,int,int,int,int)", "int moves(int,int,int,int,int)",
        "int solved(int)", "int puzzle(int,int)", "int turnings()", "int alike(int,int,int)", "int fairer()",
        "int sees(int,int)", "int sure(int,int,int)", "int first(int,int,int)", "int start(int,int,int)",
        "int move(int)", "int play(int)", "int back()", "int told(int)", "int feed(int,long)", "int text()",
        "int force(int)", "long says(int)", "int count(int)", "int sheet(int,int,int)", "int cell(int,int,int)",
        "int ways(int,int,int,int)", "int taken(int,int)"};

    private static String told(Method m) {
        StringBuilder text = new StringBuilder(m.getReturnType() + " " + m.getName() + "(");
        for (Class<?> type : m.getParameterTypes()) {
            text.append(text.charAt(text.length() - 1) == '(' ? "" : ",").append(type);
        }
        return text + ")";
    }

    private static void face() {
        Set<String> due = new TreeSet<>(List.of(FACE));
        Set<String> names = new HashSet<>();
        for (String line : FACE) {
            names.add(line.substring(line.indexOf(' ') + 1, line.indexOf('(')));
        }
        Set<String> found = new TreeSet<>();
        for (Method m : WolfVillage.class.getDeclaredMethods()) {
            if (Modifier.isPublic(m.getModifiers()) && !Modifier.isStatic(m.getModifiers())) {
                found.add(told(m));
            } else if (!Modifier.isPrivate(m.getModifiers()) && !m.isSynthetic()) {
                fault("not private: " + m);
            } else if (names.contains(m.getName())) {
                fault("a private method bears a public one's name: " + m);
            }
        }
        if (!due.equals(found)) {
            fault("the face is " + found + ", due is " + due);
        }
        for (Class<?> inside : WolfVillage.class.getDeclaredClasses()) {
            if (!Modifier.isStatic(inside.getModifiers()) || inside.getDeclaredFields().length > 25) {
                fault("not static, or too many fields: " + inside);
            }
            for (Method m : inside.getDeclaredMethods()) {
                if (names.contains(m.getName()) || m.getParameterCount() > 7) {
                    fault("a public one's name, or too many parameters: " + m);
                }
            }
        }
        Set<String> constants = new TreeSet<>();
        for (Field f : WolfVillage.class.getDeclaredFields()) {
            if (Modifier.isPublic(f.getModifiers())) {
                constants.add(f.getName());
            } else if (!Modifier.isPrivate(f.getModifiers())) {
                fault("not private: " + f);
            }
            if (Modifier.isStatic(f.getModifiers()) && !Modifier.isFinal(f.getModifiers())) {
                fault("static and not final: " + f);
            }
        }
        if (!constants.equals(Set.of("NONE", "BAD", "STATE", "FULL", "NO"))) {
            fault("the constants are " + constants);
        }
        Constructor<?>[] made = WolfVillage.class.getConstructors();
        if (made.length != 1 || !Modifier.isFinal(WolfVillage.class.getModifiers())) {
            fault("one public constructor and a final class are due");
        }
    }

    private static void language() throws IOException {
        String source = Files.readString(Path.of("src/main/java/WolfVillage.java"));
        String code = source.replaceAll("(?s)/\\*.*?\\*/", " ").replaceAll("//[^\n]*", " ").replaceAll("\"[^\"\n]*\"", "\"\"");
        String[] words = {"throw", "throws", "try", "catch", "finally", "synchronized", "assert", "hashCode", "toString",
            "package", "import", "volatile", "native", "Object", "Exception"};
        for (String word : words) {
            if (Pattern.compile("\\b" + word + "\\b").matcher(code).find()) {
                fault("the language leaves out " + word);
            }
        }
        for (String sign : new String[] {"->", "::", "@", "Exact", "static {"}) {
            if (code.contains(sign)) {
                fault("the language leaves out " + sign);
            }
        }
        Matcher library = Pattern.compile("\\b(Math|System|Integer|Long|Arrays)\\.(\\w+)").matcher(code);
        Set<String> may = Set.of("Math.min", "Math.max", "Math.abs", "Math.floorMod", "System.arraycopy");
        while (library.find()) {
            if (!may.contains(library.group())) {
                fault("look whether the library has " + library.group());
            }
        }
        for (char c : source.toCharArray()) {
            if (c > 126) {
                fault("a sign above 126");
            }
        }
    }

    private static final int[] EDGES = {Integer.MIN_VALUE, Integer.MAX_VALUE, -1000, -14, -3, -2, -1, 0, 1, 2, 3, 4, 5, 6, 7, 8, 9,
        12, 13, 14, 15, 16, 17, 31, 32, 33, 39, 40, 41, 63, 64, 65, 255, 256, 998, 999, 1000};

    private static int any(Random chance) {
        return chance.nextInt(3) > 0 ? chance.nextInt(9) - 1 : EDGES[chance.nextInt(EDGES.length)];
    }

    private static long asked(WolfVillage x, Random c, List<String> calls) {
        int what = c.nextInt(32);
        int p = any(c), q = any(c), r = any(c), s = any(c), t = any(c);
        calls.add(what + ": " + p + " " + q + " " + r + " " + s + " " + t);
        switch (what) {
            case 0: case 30: case 31: return x.way(p, q, r);
            case 1: return c.nextInt(4) == 0 ? x.unway() : 0;
            case 2: return x.wayTold(p, q);
            case 3: return x.ground(p, q);
            case 4: return x.tell(p, q);
            case 5: return x.length(p, q, r, s, t);
            case 6: return x.best(p, q, r, s & 1, t);
            case 7: return x.moves(p, q, r, s & 1, t);
            case 8: return x.solved(p);
            case 9: return x.puzzle(p, q);
            case 10: return x.turnings();
            case 11: return x.alike(p, q, r);
            case 12: return x.fairer();
            case 13: return x.sees(p, q);
            case 14: return x.sure(p, q, r);
            case 15: return x.first(p, q, r);
            case 16: return x.start(p, q, r);
            case 17: return x.move(p);
            case 18: return x.play(p);
            case 19: return x.back();
            case 20: return x.told(p);
            case 21: return x.feed(p, c.nextLong());
            case 22: return x.text();
            case 23: return x.force(p);
            case 24: return x.says(p);
            case 25: return x.count(p);
            case 26: return x.sheet(p, q, r);
            case 27: return x.cell(p, q, r);
            case 28: return x.ways(p, q, r, s);
            default: return x.taken(p, q);
        }
    }

    /** Any calls: none throws, and the same calls answer the same on another object. */
    private static void anyCalls() {
        for (int seed = 0; seed < 400; seed++) {
            List<Long> before = new ArrayList<>();
            for (int round = 0; round < 2; round++) {
                Random chance = new Random(seed);
                List<String> calls = new ArrayList<>();
                try {
                    WolfVillage x = new WolfVillage(any(chance));
                    for (int k = 0; k < 512; k++) {
                        long answer = asked(x, chance, calls);
                        if (round == 0) {
                            before.add(answer);
                        } else if (before.get(k) != answer) {
                            fault("seed " + seed + ": another answer to call " + k);
                        }
                    }
                } catch (RuntimeException | Error e) {
                    fault("seed " + seed + ": " + e + " by " + calls.get(calls.size() - 1));
                }
            }
        }
    }

    public static void main(String[] args) throws IOException {
        face();
        language();
        anyCalls();
        System.out.println(wrong == 0 ? "the face is as due" : wrong + " faults");
        if (wrong != 0) {
            System.exit(1);
        }
    }
}
