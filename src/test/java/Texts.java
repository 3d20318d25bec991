import java.util.ArrayList;
import java.util.List;
import java.util.Random;

/** Texts of labs by draws, and small changes of them. */
final class Texts {
    private static final String[] NAMES = {"a", "b", "near", "abcdefgh", "third", "ud", "growth"};
    private static final String[] TOKENS = {"lab", "stack", "unsure", "agreed", ";", "-", "0", "1", "12", "36", "37",
        "99", "100", "101", "999", "1000", "a", "b", "near", "second", "third", "growth", "abcdefgh", "abcdefghi",
        "ud", "uuuuuuuuuuuu", "uuuuuuuuuuuuu", "u", "uxd", "A", "=", "\n", "\u00ff", "\u0000", "a1", "1a", "  "};

    private Texts() {
    }

    static String row(Random random) {
        int n = 2 + random.nextInt(random.nextInt(3) == 0 ? 11 : 7);
        StringBuilder row = new StringBuilder();
        for (int k = 0; k < n; k++) {
            row.append(random.nextInt(2) == 0 ? 'u' : 'd');
        }
        return row.toString();
    }

    private static String number(Random random) {
        int bound = random.nextInt(3) == 0 ? 100 : 6;
        int number = random.nextInt(2 * bound - 1) - bound + 1;
        return number < 0 ? "-" + (random.nextBoolean() ? " " : "") + -number : "" + number;
    }

    static String good(Random random) {
        List<String> lines = new ArrayList<>();
        int growth = random.nextInt(6) == 0 ? random.nextInt(2) * 100 : random.nextInt(101);
        lines.add("lab near " + number(random) + " second " + number(random) + " third " + number(random)
                + " growth " + growth);
        List<String> names = new ArrayList<>(List.of(NAMES));
        java.util.Collections.shuffle(names, random);
        int stacks = 1 + random.nextInt(5);
        List<String> rows = new ArrayList<>();
        int sameLength = random.nextInt(3);
        for (int s = 0; s < stacks; s++) {
            String row = row(random);
            while (sameLength > 0 && s > 0 && row.length() != rows.get(0).length()) {
                row = row(random);
            }
            rows.add(row);
            lines.add("stack " + names.get(s) + " " + row);
        }
        addLater(lines, names, rows, random);
        String joined = String.join(random.nextBoolean() ? ";" : " ; ", lines);
        return joined.length() <= 500 ? joined : joined.substring(0, 500);
    }

    /** Agreed ones are mostly those of rows with some unsure steps the other way: then something fits. */
    private static void addLater(List<String> lines, List<String> names, List<String> rows, Random random) {
        List<int[]> places = new ArrayList<>();
        for (int s = 0; s < rows.size(); s++) {
            for (int k = 0; k < rows.get(s).length(); k++) {
                places.add(new int[] {s, k});
            }
        }
        java.util.Collections.shuffle(places, random);
        List<String> real = new ArrayList<>(rows);
        int unsure = Math.min(places.size(), random.nextInt(random.nextInt(8) == 0 ? 6 : 5));
        for (int[] place : places.subList(0, unsure)) {
            lines.add("unsure " + names.get(place[0]) + " " + place[1]);
            if (random.nextInt(2) == 0) {
                char[] steps = real.get(place[0]).toCharArray();
                steps[place[1]] = steps[place[1]] == 'u' ? 'd' : 'u';
                real.set(place[0], new String(steps));
            }
        }
        List<String> distances = new ArrayList<>();
        for (int s = 0; s < real.size(); s++) {
            for (int m = 1; m <= 36; m++) {
                int layers = random.nextInt(12) == 0 ? random.nextInt(37) : agreeing(real.get(s), m);
                distances.add("agreed " + names.get(s) + " " + m + " " + layers);
            }
        }
        java.util.Collections.shuffle(distances, random);
        lines.addAll(distances.subList(0, random.nextInt(random.nextInt(8) == 0 ? 8 : 5)));
    }

    /** So many layers agree: told so, there is something that fits now and then. */
    private static int agreeing(String row, int m) {
        int n = row.length();
        int[] letters = new int[120];
        for (int k = 0; k + 1 < letters.length; k++) {
            letters[k + 1] = (letters[k] + (row.charAt(k % n) == 'u' ? 1 : 2)) % 3;
        }
        int layers = letters[n] == 0 ? n : 3 * n;
        int count = 0;
        for (int j = 0; j < layers; j++) {
            count += letters[j] == letters[j + m] ? 1 : 0;
        }
        return count;
    }

    static String changed(String text, Random random) {
        int from = random.nextInt(text.length() + 1);
        String token = TOKENS[random.nextInt(TOKENS.length)];
        if (random.nextInt(3) == 0) {
            token = "" + (char) random.nextInt(256);
        }
        int behind = Math.min(text.length(), from + random.nextInt(4));
        String result = text;
        switch (random.nextInt(4)) {
            case 0:
                result = text.substring(0, from) + text.substring(behind);
                break;
            case 1:
                result = text.substring(0, from) + token + text.substring(behind);
                break;
            case 2:
                int blank = text.indexOf(' ', from);
                int next = blank < 0 ? -1 : text.indexOf(' ', blank + 1);
                result = next < 0 ? text + token : text.substring(0, blank + 1) + token + text.substring(next);
                break;
            default:
                int semicolon = text.indexOf(';', from);
                result = semicolon < 0 ? text + ";" + token
                        : text.substring(0, semicolon) + text.substring(semicolon) + text.substring(semicolon);
                break;
        }
        return result.length() <= 500 ? result : result.substring(0, 500);
    }
}
