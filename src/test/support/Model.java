import java.math.BigDecimal;
import java.math.BigInteger;
import java.math.MathContext;
import java.math.RoundingMode;
import java.util.List;
import java.util.regex.Matcher;
import java.util.regex.Pattern;

/** The document's patterns said once more, with the Java library: a VALUE is a String (a TEXT) or a BigDecimal. */
final class Model {
    private static final Pattern FIELD =
        Pattern.compile("%([-+0# ]*)([1-9][0-9]?|\\*)?(?:\\.([0-9]{0,2}|\\*))?([dxXobfeEgGsqc])");

    private final String pattern;
    private final List<Object> values;
    private final StringBuilder out = new StringBuilder();
    private int taken;

    private Model(String pattern, List<Object> values) {
        this.pattern = pattern;
        this.values = values;
    }

    private static final class Fault extends Exception {
        private static final long serialVersionUID = 1;
        final int kind;

        Fault(int kind) {
            this.kind = kind;
        }
    }

    /** The text that comes of it, which is null if there is a fault. */
    record Answer(int kind, int place, String text) {
        /** The text, or the fault as kind@place. */
        String words() {
            return text == null ? kind + "@" + place : text;
        }
    }

    static Answer fill(String pattern, List<Object> values) {
        Model model = new Model(pattern, values);
        Answer fault = model.walk(false);
        if (fault == null) {
            fault = model.walk(true);
        }
        return fault == null ? new Answer(0, 0, model.out.toString()) : fault;
    }

    private Answer walk(boolean filling) {
        Matcher field = FIELD.matcher(pattern);
        int place = 0;
        while (place < pattern.length()) {
            int end = place + 1;
            String more = pattern.substring(place, end);
            if (pattern.startsWith("%%", place)) {
                end++;
            } else if (more.equals("%")) {
                if (!field.region(place, pattern.length()).lookingAt()) {
                    return new Answer(1, place, null);
                }
                end = field.end();
                try {
                    more = filling ? one(field) : "";
                } catch (Fault fault) {
                    return new Answer(fault.kind, place, null);
                }
            }
            out.append(filling ? more : "");
            if (out.length() > 600) {
                return new Answer(5, place, null);
            }
            place = end;
        }
        return filling && taken < values.size() ? new Answer(4, place, null) : null;
    }

    private Object take() throws Fault {
        if (taken == values.size()) {
            throw new Fault(2);
        }
        return values.get(taken++);
    }

    private static BigDecimal number(Object value) throws Fault {
        if (value instanceof BigDecimal number) {
            return number;
        }
        throw new Fault(3);
    }

    private Integer star(String given) throws Fault {
        if (!"*".equals(given)) {
            return given == null ? null : Integer.valueOf("0" + given);
        }
        BigInteger whole = number(take()).toBigInteger();
        if (whole.abs().compareTo(BigInteger.valueOf(99)) > 0) {
            throw new Fault(3);
        }
        return whole.intValue();
    }

    private String one(Matcher field) throws Fault {
        String flags = field.group(1);
        Integer width = star(field.group(2));
        Integer precision = star(field.group(3));
        char letter = field.group(4).charAt(0);
        boolean left = flags.contains("-") || width != null && width < 0;
        if (precision != null && precision < 0) {
            precision = null;
        }
        String[] parts = parts(letter, flags, precision, take());
        int gap = Math.max(0, (width == null ? 0 : Math.abs(width)) - parts[0].length() - parts[1].length());
        if (left) {
            return parts[0] + parts[1] + " ".repeat(gap);
        }
        boolean zeros = flags.contains("0") && "sqc".indexOf(letter) < 0;
        return zeros ? parts[0] + "0".repeat(gap) + parts[1] : " ".repeat(gap) + parts[0] + parts[1];
    }

    /** What zeros of a WIDTH come behind, and the rest. */
    private static String[] parts(char letter, String flags, Integer precision, Object value) throws Fault {
        boolean sharp = flags.contains("#");
        if ("sqc".indexOf(letter) >= 0) {
            return new String[] {"", words(letter, precision, value)};
        }
        BigDecimal number = number(value);
        if ("dxXob".indexOf(letter) >= 0) {
            BigInteger whole = number.toBigInteger();
            String digits = whole.abs().toString(letter == 'd' ? 10 : letter == 'o' ? 8 : letter == 'b' ? 2 : 16);
            digits = "0".repeat(Math.max(0, (precision == null ? 0 : precision) - digits.length())) + digits;
            String base = sharp && letter != 'd' ? "0" + letter : "";
            return new String[] {sign(whole.signum(), flags) + base, letter == 'X' ? digits.toUpperCase() : digits};
        }
        int places = precision == null ? 6 : precision;
        BigDecimal size = number.abs();
        String body = switch (letter) {
            case 'f' -> fixed(size, places, sharp);
            case 'e', 'E' -> exponent(size, places, sharp, false);
            default -> general(size, Math.max(1, places), sharp);
        };
        return new String[] {sign(number.signum(), flags), letter == 'E' || letter == 'G' ? body.toUpperCase() : body};
    }

    private static String sign(int signum, String flags) {
        return signum < 0 ? "-" : flags.contains("+") ? "+" : flags.contains(" ") ? " " : "";
    }

    private static String fixed(BigDecimal size, int places, boolean sharp) {
        String all = size.setScale(places, RoundingMode.HALF_EVEN).toPlainString();
        return sharp && places == 0 ? all + "." : all;
    }

    private static BigDecimal rounded(BigDecimal size, int digits) {
        return size.round(new MathContext(digits, RoundingMode.HALF_EVEN));
    }

    private static int exponentOf(BigDecimal rounded) {
        return rounded.signum() == 0 ? 0 : rounded.precision() - rounded.scale() - 1;
    }

    private static String exponent(BigDecimal size, int places, boolean sharp, boolean shorten) {
        BigDecimal rounded = rounded(size, places + 1);
        int exponent = exponentOf(rounded);
        String one = fixed(rounded.movePointLeft(exponent), places, sharp);
        return (shorten ? shortened(one) : one) + String.format("e%+03d", exponent);
    }

    private static String shortened(String all) {
        return all.contains(".") ? all.replaceAll("0+$", "").replaceAll("\\.$", "") : all;
    }

    private static String general(BigDecimal size, int digits, boolean sharp) {
        int exponent = exponentOf(rounded(size, digits));
        if (exponent < -4 || exponent >= digits) {
            return exponent(size, digits - 1, sharp, !sharp);
        }
        String all = fixed(size, digits - 1 - exponent, sharp);
        return sharp ? all : shortened(all);
    }

    private static String words(char letter, Integer precision, Object value) throws Fault {
        if (letter == 'c') {
            return mark(value);
        }
        String all = value instanceof BigDecimal number ? plain(number) : (String) value;
        String cut = precision == null || precision > all.length() ? all : all.substring(0, precision);
        return letter == 's' ? cut : "\"" + cut.replace("\\", "\\\\").replace("\"", "\\\"") + "\"";
    }

    private static String plain(BigDecimal number) {
        return number.signum() == 0 ? "0" : number.stripTrailingZeros().toPlainString();
    }

    private static String mark(Object value) throws Fault {
        if (value instanceof String words && words.length() == 1) {
            return words;
        }
        BigInteger whole = number(value).toBigInteger();
        if (whole.compareTo(BigInteger.valueOf(32)) < 0 || whole.compareTo(BigInteger.valueOf(126)) > 0) {
            throw new Fault(3);
        }
        return String.valueOf((char) whole.intValue());
    }
}
