import java.util.ArrayList;
import java.util.Collections;
import java.util.List;
import java.util.Random;

/** Texts of desks, made at random: right ones, and such as have something wrong with them. */
final class Texts {
    private static final String[] SCRAPS = {"desk", "drawers", "opens", "name", "night", "clue", "next", "stops", "if",
        "then", "else", "end", "me", "found", "last", "tries", "or", "and", "not", "(", ")", "[", "]", ";", ":", "+",
        "-", "*", "=", "<", ">", "0", "1", "5", "12", "999", "1000", "00012", "x", "A", ",", "\n", " ", "\t", "\u00e9"};
    private final Random random;
    private final StringBuilder text = new StringBuilder();
    private final int most;
    private int longest;

    Texts(Random random, int mostDrawers) {
        this.random = random;
        this.most = mostDrawers;
    }

    String text() {
        String right = right();
        int bend = random.nextInt(3);
        return bend == 0 && !right.isEmpty() ? bent(right) : right;
    }

    private String right() {
        text.setLength(0);
        longest = random.nextInt(8) == 0 ? 800 : 250;
        int drawers = 1 + random.nextInt(most);
        put("desk");
        put("drawers");
        put("" + drawers);
        put("opens");
        put("" + (1 + random.nextInt(9)));
        put(";");
        numbered("name", drawers);
        numbered("night", drawers);
        int laws = random.nextInt(5);
        for (int i = 0; i < laws; i++) {
            law();
        }
        return text.length() > 900 ? right() : text.toString();
    }

    private void numbered(String word, int drawers) {
        List<Integer> order = new ArrayList<>();
        for (int i = 0; i < drawers; i++) {
            order.add(i);
        }
        if (random.nextInt(4) == 0) {
            return;
        }
        Collections.shuffle(order, random);
        for (int i = 0; i < drawers; i++) {
            if (random.nextInt(6) == 0) {
                line(word, i, random.nextInt(drawers));
            }
            if (order.get(i) != i || random.nextInt(3) == 0) {
                line(word, i, random.nextInt(60) == 0 ? random.nextInt(8) : order.get(i));
            }
        }
    }

    private void line(String word, int a, int b) {
        put(word);
        put("" + a);
        put("" + b);
        put(";");
    }

    private void law() {
        int kind = random.nextInt(4);
        if (kind == 0) {
            put("clue");
            put("" + random.nextInt(10));
        } else if (kind == 1) {
            put("stops");
            put(":");
            truth(0);
        } else {
            put("next");
            put(":");
            sum(0);
        }
        put(";");
    }

    /** Blanks stand between all words and numbers, elsewhere now and then. */
    private void put(String token) {
        if (text.length() > 0) {
            boolean needed = Character.isLetterOrDigit(text.charAt(text.length() - 1))
                    && Character.isLetterOrDigit(token.charAt(0));
            if (needed || random.nextInt(4) == 0) {
                text.append(random.nextInt(6) == 0 ? "\n" : random.nextInt(8) == 0 ? "  " : " ");
            }
        }
        text.append(token);
    }

    private void sum(int depth) {
        term(depth);
        while (text.length() < longest && random.nextInt(5) < 2) {
            put(random.nextBoolean() ? "+" : "-");
            term(depth);
        }
    }

    private void term(int depth) {
        atom(depth);
        while (text.length() < longest && random.nextInt(5) == 0) {
            put("*");
            atom(depth);
        }
    }

    private void atom(int depth) {
        int kind = random.nextInt(12);
        if (kind < 2 && depth < 6 && text.length() < longest) {
            put("(");
            sum(depth + 1);
            put(")");
        } else if (kind < 4 && depth < 6 && text.length() < longest) {
            put("if");
            truth(depth + 1);
            put("then");
            sum(depth + 1);
            put("else");
            sum(depth + 1);
            put("end");
        } else if (kind < 6) {
            put("" + (random.nextInt(6) == 0 ? random.nextInt(1000) : random.nextInt(7)));
        } else {
            put(new String[] {"me", "found", "last", "tries", "clue"}[random.nextInt(5)]);
        }
    }

    private void truth(int depth) {
        both(depth);
        while (text.length() < longest && random.nextInt(5) == 0) {
            put("or");
            both(depth);
        }
    }

    private void both(int depth) {
        unit(depth);
        while (text.length() < longest && random.nextInt(5) == 0) {
            put("and");
            unit(depth);
        }
    }

    private void unit(int depth) {
        int kind = random.nextInt(8);
        if (kind == 0 && depth < 6) {
            put("not");
            unit(depth + 1);
        } else if (kind == 1 && depth < 6) {
            put("[");
            truth(depth + 1);
            put("]");
        } else {
            sum(depth);
            put(new String[] {"=", "<", ">"}[random.nextInt(3)]);
            sum(depth);
        }
    }

    private String bent(String right) {
        StringBuilder bent = new StringBuilder(right);
        int times = 1 + random.nextInt(2);
        for (int i = 0; i < times; i++) {
            int from = random.nextInt(bent.length());
            int to = Math.min(bent.length(), from + random.nextInt(4));
            String scrap = random.nextInt(4) == 0 ? "" : SCRAPS[random.nextInt(SCRAPS.length)];
            switch (random.nextInt(5)) {
                case 0:
                    bent.replace(from, to, "(((((((".substring(random.nextInt(7)) + scrap);
                    break;
                case 1:
                    bent.setLength(Math.max(1, from));
                    break;
                default:
                    bent.replace(from, to, scrap);
            }
            if (bent.length() == 0) {
                bent.append(' ');
            }
        }
        return bent.length() > 900 ? bent.substring(0, 900) : bent.toString();
    }
}
