import java.util.ArrayList;
import java.util.Collections;
import java.util.List;
import java.util.Random;

/** Texts of towns: one by hand, and by a given random source good ones and such as most likely have a fault. */
final class Texts {
    /** One way of 23 steps from 0 0 to 6 5: each row of walls has its gap at the other end. */
    static final String SNAKE = "town 7 6;"
        + "wall 0 1;wall 1 1;wall 2 1;wall 3 1;wall 4 1;wall 5 1;"
        + "wall 1 3;wall 2 3;wall 3 3;wall 4 3;wall 5 3;wall 6 3;"
        + "wall 0 5;wall 1 5;wall 2 5;wall 3 5;wall 4 5;wall 5 5;";

    private static final String[] SPOTS = {"wall", "wall", "water", "gate"};
    private static final String[] SCRAPS = {
        "town 1 1;", "wall 0 0;", "water 0 0;", "gate 0 0;", "crowd 0 0 0 9 1 0;", "tune 7 20;", "piper 0 0;",
        "pay 1 1;", "rats 1;", "wall;", ";", "7", "1000", "0007", "townx", "tow", "pay 100 1;", "tune 0 1;",
        "tune 8 1;", "tune 1 21;", "crowd 3 0 0 1 1 0;", "crowd 0 0 0 0 1 0;", "crowd 0 0 0 1 4 0;",
        "crowd 0 0 0 100 1 0;", "crowd 0 0 0 5 1 6;", "crowd 0 0 0 5 0 0;", "pay 99 99", "piper 9 0;", "gate 0 9;",
        "wall 0 0 0;", "wall 0;"};

    private Texts() {
    }

    static String good(Random random) {
        int w = 1 + random.nextInt(9);
        int h = 1 + random.nextInt(Math.min(9, 42 / w));
        if (random.nextInt(3) == 0) {
            w = 4 + random.nextInt(3);
            h = 4 + random.nextInt(3);
        }
        List<Integer> cells = new ArrayList<>();
        for (int i = 0; i < w * h; i++) {
            cells.add(i);
        }
        Collections.shuffle(cells, random);
        int spots = Math.min(random.nextInt(Math.max(1, w * h / (2 + random.nextInt(3)) + 1)), 30);
        if (random.nextInt(30) == 0) {
            spots = Math.min(30, w * h);
        }
        List<String> parts = new ArrayList<>();
        for (int i = 0; i < spots; i++) {
            parts.add(SPOTS[random.nextInt(4)] + " " + cells.get(i) % w + " " + cells.get(i) / w + ";");
        }
        addRest(random, parts, cells.subList(spots, w * h), w);
        Collections.shuffle(parts, random);
        return cut(spaced(random, "town " + w + " " + h + ";", parts));
    }

    private static void addRest(Random random, List<String> parts, List<Integer> free, int w) {
        int crowds = random.nextInt(7);
        for (int i = 0; i < crowds && !free.isEmpty(); i++) {
            int at = free.get(random.nextInt(free.size()));
            int n = 1 + random.nextInt(99);
            int d = random.nextInt(3) == 0 ? random.nextInt(n + 1) : random.nextInt(8) == 0 ? n : 0;
            parts.add("crowd " + random.nextInt(3) + " " + at % w + " " + at / w + " " + n + " "
                + (1 + random.nextInt(3)) + " " + d + ";");
        }
        int tunes = random.nextInt(6) == 0 ? 0 : 1 + random.nextInt(3);
        for (int i = 0; i < tunes; i++) {
            parts.add("tune " + (1 + random.nextInt(7)) + " " + random.nextInt(random.nextInt(2) == 0 ? 21 : 6) + ";");
        }
        if (random.nextInt(4) != 0 && !free.isEmpty()) {
            int at = free.get(random.nextInt(free.size()));
            parts.add("piper " + at % w + " " + at / w + ";");
        }
        if (random.nextInt(2) == 0) {
            parts.add("pay " + random.nextInt(100) + " " + random.nextInt(100) + ";");
        }
    }

    private static String spaced(Random random, String first, List<String> parts) {
        StringBuilder text = new StringBuilder(first);
        for (String part : parts) {
            text.append(part);
        }
        if (random.nextInt(4) != 0) {
            return text.toString();
        }
        StringBuilder more = new StringBuilder();
        for (int i = 0; i < text.length(); i++) {
            char c = text.charAt(i);
            boolean inside = i > 0 && (Character.isLetter(c) && Character.isLetter(text.charAt(i - 1))
                || Character.isDigit(c) && Character.isDigit(text.charAt(i - 1)));
            if (!inside && random.nextInt(12) == 0) {
                more.append(' ');
            }
            boolean needless = c == ' ' && i > 0 && Character.isLetter(text.charAt(i - 1));
            if (!needless || random.nextInt(3) != 0) {
                more.append(c);
            }
        }
        return more.toString();
    }

    /** No text has more than 500 bytes; it ends behind a sentence. */
    private static String cut(String text) {
        return text.length() <= 500 ? text : text.substring(0, text.lastIndexOf(';', 499) + 1);
    }

    static String spoilt(Random random) {
        StringBuilder text = new StringBuilder(random.nextInt(40) == 0 ? "" : good(random));
        int times = 1 + random.nextInt(2);
        for (int i = 0; i < times; i++) {
            int at = random.nextInt(text.length() + 1);
            switch (random.nextInt(6)) {
                case 0 -> text.setLength(at);
                case 1 -> text.insert(at, (char) random.nextInt(256));
                case 2 -> text.insert(at, "0123456789 ;abcdw".charAt(random.nextInt(17)));
                case 3 -> {
                    if (at < text.length()) {
                        text.deleteCharAt(at);
                    }
                }
                default -> text.insert(text.substring(0, at).lastIndexOf(';') + 1, SCRAPS[random.nextInt(SCRAPS.length)]);
            }
        }
        return text.length() <= 500 ? text.toString() : text.substring(0, 500);
    }
}
