import java.math.BigInteger;
import java.util.ArrayList;
import java.util.HashMap;
import java.util.HashSet;
import java.util.List;
import java.util.Map;
import java.util.Set;
import java.util.regex.Matcher;
import java.util.regex.Pattern;

/** The setup text of PlainKite: cut into tokens first, then read; it stops at the first error by an exception. */
final class PlainSetup {
    private static final class Fault extends RuntimeException {
        private static final long serialVersionUID = 1L;
        final int code;
        final int offset;

        Fault(int code, int offset) {
            this.code = code;
            this.offset = offset;
        }
    }

    private static final Pattern TOKEN = Pattern.compile(" *([0-9]+|[a-z]+|[^ ])", Pattern.DOTALL);

    int error = 0;
    int errorOffset = -1;
    int width;
    int height;
    int cloth = 1;
    int wood = 5;
    List<Integer> reaches = new ArrayList<>();
    Map<Integer, Integer> weights = new HashMap<>();
    Map<Set<Integer>, Integer> mixes = new HashMap<>();
    List<List<String>> patterns = new ArrayList<>();
    List<int[]> spars = new ArrayList<>();

    private final List<String> tokens = new ArrayList<>();
    private final List<Integer> offsets = new ArrayList<>();
    private final Set<String> once = new HashSet<>();
    private int next = 0;

    PlainSetup(String text) {
        Matcher matcher = TOKEN.matcher(text);
        while (matcher.find()) {
            tokens.add(matcher.group(1));
            offsets.add(matcher.start(1));
        }
        tokens.add("");
        offsets.add(text.length());
    }

    void read() {
        try {
            readSetup();
        } catch (Fault fault) {
            error = fault.code;
            errorOffset = fault.offset;
        }
    }

    private boolean isNumber() {
        return tokens.get(next).matches("[0-9]+");
    }

    private int offset() {
        return offsets.get(next);
    }

    private String take() {
        return tokens.get(next++);
    }

    private void demand(boolean isRight, int code, int offset) {
        if (!isRight) {
            throw new Fault(code, offset);
        }
    }

    private String takeOneOf(String... words) {
        demand(List.of(words).contains(tokens.get(next)), -2, offset());
        return take();
    }

    private int number(int least, int greatest) {
        demand(isNumber(), -2, offset());
        BigInteger value = new BigInteger(tokens.get(next));
        boolean isIn = value.compareTo(BigInteger.valueOf(least)) >= 0 && value.compareTo(BigInteger.valueOf(greatest)) <= 0;
        demand(isIn, -3, offset());
        next++;
        return value.intValue();
    }

    private void readSetup() {
        takeOneOf("kite");
        int at = offset();
        width = number(1, 15);
        demand(width % 2 == 1, -3, at);
        height = number(1, 12);
        takeOneOf(";");
        while (!tokens.get(next).isEmpty()) {
            readStatement();
            takeOneOf(";");
        }
        while (reaches.size() < height) {
            reaches.add(width / 2);
        }
    }

    private void readStatement() {
        int at = offset();
        String word = takeOneOf("reach", "cloth", "wood", "colour", "mix", "spar", "pattern");
        boolean isOnce = List.of("reach", "cloth", "wood").contains(word);
        demand(!isOnce || once.add(word), -2, at);
        demand(!word.equals("reach") || spars.isEmpty(), -2, at);
        demand(!word.equals("pattern") || patterns.size() < 3, -5, at);
        switch (word) {
            case "reach" -> {
                for (int y = 0; y < height; y++) {
                    reaches.add(number(0, width / 2));
                }
            }
            case "cloth" -> cloth = number(0, 99);
            case "wood" -> wood = number(0, 99);
            case "colour" -> {
                int colour = number(1, 6);
                weights.put(colour, number(0, 99));
            }
            case "mix" -> readMix();
            case "spar" -> {
                int isDown = takeOneOf("down", "across").equals("down") ? 1 : 0;
                int x = number(0, width - 1);
                int y = number(0, height - 1);
                spars.add(new int[] {isDown, x, y, number(1, 15)});
            }
            default -> readPattern();
        }
    }

    private void readMix() {
        int a = number(1, 6);
        int at = offset();
        int b = number(1, 6);
        demand(a != b, -3, at);
        demand(!mixes.containsKey(Set.of(a, b)), -4, at);
        mixes.put(Set.of(a, b), number(1, 6));
    }

    private void readPattern() {
        List<String> lines = new ArrayList<>();
        demand(isNumber(), -2, offset());
        while (isNumber()) {
            int at = offset();
            String line = take();
            demand(line.length() <= 7, -3, at);
            demand(lines.isEmpty() || line.length() == lines.get(0).length(), -3, at);
            demand(line.charAt(0) <= '6', -3, at);
            demand(lines.size() < 6, -5, at);
            for (int i = 0; i < line.length(); i++) {
                demand(line.charAt(i) <= '6', -3, at + i);
            }
            lines.add(line);
        }
        patterns.add(lines);
    }
}
