import java.util.ArrayList;
import java.util.List;
import java.util.Random;

/** Random programs: no run may leave what is known, and what is known must be inductive (promises 13, 16 and 20). */
public final class SoundTest {
    private static final Trial TRIAL = new Trial("SoundTest");
    private static final Random RANDOM = new Random(20);
    private static final String[] RELATIONS = {"<", "<=", ">", ">=", "==", "!="};

    public static void main(String[] args) {
        for (int round = 0; round < 1500; round++) {
            String text = program();
            TRIAL.fresh();
            int answer = TRIAL.load(text);
            TRIAL.due("end of " + text, answer == 3 ? 0 : answer, 0);
            TRIAL.due("inductive() of " + text, TRIAL.desk.inductive(), answer == 3 ? -3 : -1);
            for (int run = 0; run < 3 && answer == 0; run++) {
                tryRun(text);
                claimSomething();
            }
            TRIAL.due("outside() of " + text, TRIAL.desk.outside(), 0);
        }
        TRIAL.finish();
    }

    /** Where a run stands, its values are looked at by the bounds that are told, not by outside(). */
    private static void tryRun(String text) {
        InvariantDesk desk = TRIAL.desk;
        desk.drop();
        for (int k = 0; k < 6; k++) {
            desk.input(RANDOM.nextInt(4) == 0 ? RANDOM.nextInt() : RANDOM.nextInt(25) - 12);
        }
        for (int steps = 0; steps < 40; steps += 1 + RANDOM.nextInt(3)) {
            int answer = desk.run(steps);
            int p = desk.ran(0);
            boolean trusted = desk.inductive() == InvariantDesk.NONE;
            TRIAL.due("known where a run of " + text + " comes", desk.point(p, 5), 1);
            look(text, p, false);
            if (trusted) {
                look(text, p, true);
            }
            if (answer == 1 || answer == 2 || answer == 4 || answer == 8) {
                TRIAL.due("alarm for a trap of " + text, desk.point(p, 2) & answer, answer);
            }
            if (answer != 16) {
                return;
            }
        }
    }

    private static void look(String text, int p, boolean claims) {
        InvariantDesk desk = TRIAL.desk;
        int numbers = desk.point(p, 3);
        int outside = 0;
        for (int x = 0; x < numbers; x++) {
            for (int y = 0; y < numbers; y++) {
                for (int signs = 0; signs < 4; signs++) {
                    int s = signs / 2 == 0 ? 1 : -1;
                    int t = signs % 2 == 0 ? 1 : -1;
                    long sum = (long) s * desk.value(x) + (x == y ? 0 : (long) t * desk.value(y));
                    if ((x != y || s == t) && sum > desk.bound(claims, p, x, s, y, t)) {
                        outside++;
                    }
                }
            }
        }
        for (int a = 0; a < desk.point(p, 4); a++) {
            for (int i = 0; i < 64; i++) {
                int held = desk.place(a, i);
                if (held != 0 && (held < desk.range(claims, p, a, false) || held > desk.range(claims, p, a, true))) {
                    outside++;
                }
            }
        }
        TRIAL.due("values of " + text + " outside at " + p, outside, 0);
    }

    private static void claimSomething() {
        InvariantDesk desk = TRIAL.desk;
        for (int k = 0; k < 2; k++) {
            int p = RANDOM.nextInt(desk.points());
            int numbers = Math.max(1, desk.point(p, 3));
            int x = RANDOM.nextInt(numbers);
            int y = RANDOM.nextInt(numbers);
            int s = RANDOM.nextBoolean() ? 1 : -1;
            int t = x == y ? s : -s;
            long most = desk.bound(true, p, x, s, y, t);
            long less = RANDOM.nextBoolean() ? most - 1 : RANDOM.nextInt(20);
            int answer = desk.claim(p, x, s, y, t, less);
            if (answer == 1 && desk.point(p, 6) == 1) {
                TRIAL.due("the bound that was claimed", Math.min(desk.bound(true, p, x, s, y, t), less + 1) <= less ? 1 : 0, 1);
            }
        }
    }

    private static String program() {
        StringBuilder text = new StringBuilder();
        List<String> numbers = new ArrayList<>(List.of("p", "q"));
        text.append("fun f(p,q){");
        statements(text, numbers, 2, 2, 0);
        text.append("return ").append(sum(numbers, 1)).append(";}fun m(){var t[").append(1 + RANDOM.nextInt(6)).append("];");
        numbers = new ArrayList<>();
        for (int k = 0; k < 2 + RANDOM.nextInt(4); k++) {
            String name = "v" + k;
            text.append("var ").append(name).append("=").append(sum(numbers, 1)).append(";");
            numbers.add(name);
        }
        statements(text, numbers, 3 + RANDOM.nextInt(5), 3, 1);
        return text.append("}").toString();
    }

    private static void statements(StringBuilder text, List<String> numbers, int count, int depth, int arrays) {
        for (int k = 0; k < count; k++) {
            String name = numbers.get(RANDOM.nextInt(numbers.size()));
            int kind = RANDOM.nextInt(depth > 0 ? 10 : 6);
            if (kind < 2) {
                text.append(name).append("=").append(sum(numbers, 2)).append(";");
            } else if (kind == 2) {
                text.append(name).append("=").append(name).append("+").append(1 + RANDOM.nextInt(3)).append(";");
            } else if (kind == 3 && arrays > 0) {
                text.append("t[").append(sum(numbers, 1)).append("]=").append(sum(numbers, 1)).append(";");
            } else if (kind == 4 && arrays > 0) {
                String call = "f(" + sum(numbers, 1) + "," + sum(numbers, 1) + ");";
                text.append(RANDOM.nextBoolean() ? name + "=" : "").append(call);
            } else if (kind == 5) {
                text.append("assert(").append(cond(numbers, 2)).append(");");
            } else if (kind >= 6) {
                text.append(kind < 8 ? "if(" : "while(").append(cond(numbers, 2)).append("){");
                statements(text, numbers, RANDOM.nextInt(3), depth - 1, arrays);
                text.append(kind < 8 ? "}" : name + "=" + name + (RANDOM.nextBoolean() ? "+1;}" : "-1;}"));
                if (kind == 7) {
                    text.append("else{");
                    statements(text, numbers, RANDOM.nextInt(3), depth - 1, arrays);
                    text.append("}");
                }
            }
        }
    }

    private static String cond(List<String> numbers, int depth) {
        int kind = RANDOM.nextInt(depth > 0 ? 8 : 5);
        if (kind == 5) {
            return "[" + cond(numbers, depth - 1) + "]&&" + cond(numbers, 0);
        } else if (kind == 6) {
            return "[" + cond(numbers, depth - 1) + "||" + cond(numbers, depth - 1) + "]";
        } else if (kind == 7) {
            return "![" + cond(numbers, depth - 1) + "]";
        }
        return sum(numbers, 1) + RELATIONS[RANDOM.nextInt(6)] + sum(numbers, 1);
    }

    private static String sum(List<String> numbers, int depth) {
        StringBuilder text = new StringBuilder(factor(numbers, depth));
        for (int k = RANDOM.nextInt(3); k > 0; k--) {
            text.append("+-+-*/%".charAt(RANDOM.nextInt(RANDOM.nextInt(4) == 0 ? 7 : 4))).append(factor(numbers, depth));
        }
        return text.toString();
    }

    private static String factor(List<String> numbers, int depth) {
        int kind = RANDOM.nextInt(8);
        if (kind < 4 && !numbers.isEmpty()) {
            return numbers.get(RANDOM.nextInt(numbers.size()));
        } else if (kind == 4) {
            int least = RANDOM.nextInt(20) - 10;
            return "any(" + least + "," + (least + RANDOM.nextInt(10)) + ")";
        } else if (kind == 5 && depth > 0) {
            return "-" + factor(numbers, depth - 1);
        } else if (kind == 6 && depth > 0) {
            return "(" + sum(numbers, depth - 1) + ")";
        }
        return RANDOM.nextInt(30) == 0 ? "any" : String.valueOf(RANDOM.nextInt(12));
    }
}
