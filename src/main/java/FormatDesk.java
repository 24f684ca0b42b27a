import java.util.NoSuchElementException;

/** Values put into texts by patterns. */
public final class FormatDesk {
    public static final int NONE = -1;

    private static final int MOST_TYPED = 200;
    private static final int MOST_VALUES = 12;
    private static final int MOST_WORDS = 60;
    private static final int MOST_FILLED = 600;
    private static final int LOWEST_MARK = 32;
    private static final int HIGHEST_MARK = 126;

    private static final int FINE = 0;
    private static final int NO_FIELD = 1;
    private static final int NO_VALUE = 2;
    private static final int WRONG_SORT = 3;
    private static final int VALUES_LEFT = 4;
    private static final int TOO_LONG = 5;

    private final Line tape = new Line(MOST_TYPED);
    private final Value[] values = new Value[MOST_VALUES];
    // With 12 values the tape is still looked at, whether it is a decimal: it is read here then.
    private final Value spare = new Value();
    private final Field field = new Field();
    private final Shape shape = new Shape();
    // Two lines that change places, so that a pattern with a fault leaves what was filled last.
    private Line filled = new Line(MOST_FILLED);
    private Line draft = new Line(MOST_FILLED);
    private boolean everFilled;
    private int count;
    private int taken;
    private int faultKind;
    private int faultPlace;

    public FormatDesk() {
        for (int i = 0; i < values.length; i++) {
            values[i] = new Value();
        }
    }

    public boolean type(long word, int n) {
        if (n < 1 || n > 8 || !tape.hasRoom(n)) {
            return false;
        }
        for (int i = 0; i < n; i++) {
            int mark = byteOf(word, i);
            if (mark < LOWEST_MARK || mark > HIGHEST_MARK) {
                return false;
            }
        }
        for (int i = n - 1; i >= 0; i--) {
            tape.add(byteOf(word, i));
        }
        return true;
    }

    public int text() {
        if (tape.size() > MOST_WORDS || count >= MOST_VALUES) {
            return NONE;
        }
        values[count].readWords(tape);
        tape.empty();
        count++;
        return count;
    }

    public int decimal() throws IllegalArgumentException, IllegalStateException {
        Value next = count < MOST_VALUES ? values[count] : spare;
        boolean reads = next.readDecimal(tape);
        tape.empty();
        if (!reads) {
            throw new IllegalArgumentException("the tape is no decimal");
        }
        if (count >= MOST_VALUES) {
            throw new IllegalStateException("there are 12 values");
        }
        count++;
        return count;
    }

    public int clear() {
        int before = count;
        count = 0;
        return before;
    }

    public int fill() throws IllegalArgumentException {
        faultKind = FINE;
        faultPlace = 0;
        int wrong = firstNoField();
        if (wrong != NONE) {
            noteFault(NO_FIELD, wrong);
        } else {
            fillPattern();
        }
        tape.empty();
        if (faultKind != FINE) {
            throw new IllegalArgumentException("the pattern has a fault");
        }
        Line before = filled;
        filled = draft;
        draft = before;
        everFilled = true;
        return filled.size();
    }

    public int fault(int what) {
        if (what == 0) {
            return faultKind;
        }
        return what == 1 ? faultPlace : NONE;
    }

    public int letter(int i) throws NoSuchElementException {
        if (!everFilled || i < 0 || i >= filled.size()) {
            throw new NoSuchElementException("no such character was filled");
        }
        return filled.at(i);
    }

    public int letters() {
        return everFilled ? filled.size() : NONE;
    }

    public boolean alike(int a, int b) {
        if (a < 0 || a >= count || b < 0 || b >= count) {
            return false;
        }
        return values[a].matches(values[b]);
    }

    private static int byteOf(long word, int i) {
        return (int) (word >>> (8 * i)) & 255;
    }

    private void noteFault(int kind, int place) {
        faultKind = kind;
        faultPlace = place;
    }

    private boolean startsField(int place) {
        return tape.at(place) == '%' && tape.at(place + 1) != '%';
    }

    private int behindMark(int place) {
        return tape.at(place) == '%' ? place + 2 : place + 1;
    }

    /** The place of the first % that begins no FIELD, or NONE: it counts ahead of every fault of the filling. */
    private int firstNoField() {
        int place = 0;
        for (int step = 0; step < MOST_TYPED && place < tape.size(); step++) {
            if (!startsField(place)) {
                place = behindMark(place);
            } else if (field.read(tape, place)) {
                place = field.next;
            } else {
                return place;
            }
        }
        return NONE;
    }

    private void fillPattern() {
        draft.empty();
        taken = 0;
        int place = 0;
        for (int step = 0; step < MOST_TYPED && place < tape.size(); step++) {
            boolean starts = startsField(place) && field.read(tape, place);
            int kind = starts ? fillField() : fillMark(tape.at(place));
            if (kind != FINE) {
                noteFault(kind, place);
                return;
            }
            place = starts ? field.next : behindMark(place);
        }
        if (taken < count) {
            noteFault(VALUES_LEFT, tape.size());
        }
    }

    private int fillMark(int mark) {
        if (!draft.hasRoom(1)) {
            return TOO_LONG;
        }
        draft.add(mark);
        return FINE;
    }

    private int fillField() {
        int kind = field.starWidth ? takeStar(true) : FINE;
        if (kind == FINE && field.starPrecision) {
            kind = takeStar(false);
        }
        if (kind != FINE) {
            return kind;
        }
        Value value = takeNext();
        if (value == null) {
            return NO_VALUE;
        }
        if (!field.takes(value)) {
            return WRONG_SORT;
        }
        shape.form(value, field);
        return shape.putInto(draft, field) ? FINE : TOO_LONG;
    }

    private int takeStar(boolean forWidth) {
        Value star = takeNext();
        if (star == null) {
            return NO_VALUE;
        }
        if (!star.isStar()) {
            return WRONG_SORT;
        }
        int number = (int) star.wholePart();
        if (forWidth) {
            field.giveWidth(number);
        } else {
            field.givePrecision(number);
        }
        return FINE;
    }

    private Value takeNext() {
        if (taken >= count) {
            return null;
        }
        Value value = values[taken];
        taken++;
        return value;
    }

    /** A row of characters with a fixed room. */
    private static final class Line {
        private final char[] marks;
        private int length;

        Line(int room) {
            marks = new char[Math.max(room, 0)];
        }

        int size() {
            return length;
        }

        boolean hasRoom(int many) {
            return many <= marks.length - length;
        }

        /** The character there, or NONE: so a reader may look behind the end. */
        int at(int i) {
            return i >= 0 && i < length ? marks[i] : NONE;
        }

        void empty() {
            length = 0;
        }

        void add(int mark) {
            if (length < marks.length) {
                marks[length] = (char) mark;
                length++;
            }
        }

        void repeat(int mark, int times) {
            for (int i = 0; i < times; i++) {
                add(mark);
            }
        }

        void addPart(Line from, int start, int end) {
            for (int i = start; i < end; i++) {
                add(from.at(i));
            }
        }

        private static boolean isDigit(int mark) {
            return mark >= '0' && mark <= '9';
        }

        int digitsFrom(int start) {
            int many = 0;
            for (int i = start; i < length && isDigit(at(i)); i++) {
                many++;
            }
            return many;
        }

        long numberAt(int start, int many) {
            long number = 0;
            for (int i = 0; i < many; i++) {
                number = number * 10 + (at(start + i) - '0');
            }
            return number;
        }

        /** Of so many places at the end the zeros at their end go, and the point if no place is left. */
        void dropZeros(int places) {
            for (int i = 0; i < places && at(length - 1) == '0'; i++) {
                length--;
            }
            if (at(length - 1) == '.') {
                length--;
            }
        }

        boolean matches(Line other) {
            if (length != other.length) {
                return false;
            }
            for (int i = 0; i < length; i++) {
                if (at(i) != other.at(i)) {
                    return false;
                }
            }
            return true;
        }
    }

    /** A TEXT, or a DECIMAL as two numbers ahead of and behind the point. */
    private static final class Value {
        private static final int MOST_AHEAD = 18;
        private static final int MOST_BEHIND = 12;

        // Of a DECIMAL its PLAIN text, which is one for each value: so it tells whether two are alike, too.
        private final Line words = new Line(MOST_WORDS);
        private boolean isDecimal;
        private boolean below;
        private long ahead;
        private long behind;

        void readWords(Line from) {
            isDecimal = false;
            words.empty();
            words.addPart(from, 0, from.size());
        }

        /** False if it is none; this value is of no use then. */
        boolean readDecimal(Line from) {
            int start = from.at(0) == '-' ? 1 : 0;
            int point = start + from.digitsFrom(start);
            boolean pointed = from.at(point) == '.';
            int places = pointed ? from.digitsFrom(point + 1) : 0;
            int end = pointed ? point + 1 + places : point;
            if (point == start || point - start > MOST_AHEAD || places > MOST_BEHIND) {
                return false;
            }
            if (pointed && places == 0 || end != from.size()) {
                return false;
            }
            isDecimal = true;
            ahead = from.numberAt(start, point - start);
            behind = from.numberAt(point + 1, places);
            for (int i = places; i < MOST_BEHIND; i++) {
                behind = behind * 10;
            }
            below = start == 1 && (ahead != 0 || behind != 0);
            writePlain(from, start, point, end);
            return true;
        }

        private void writePlain(Line from, int start, int point, int end) {
            words.empty();
            if (below) {
                words.add('-');
            }
            int first = start;
            while (first < point - 1 && from.at(first) == '0') {
                first++;
            }
            words.addPart(from, first, point);
            if (behind != 0) {
                words.addPart(from, point, end);
                words.dropZeros(end - point - 1);
            }
        }

        long wholePart() {
            return below ? -ahead : ahead;
        }

        boolean isStar() {
            return isDecimal && ahead <= 99;
        }

        boolean isMark() {
            if (!isDecimal) {
                return words.size() == 1;
            }
            return wholePart() >= LOWEST_MARK && wholePart() <= HIGHEST_MARK;
        }

        int mark() {
            return isDecimal ? (int) wholePart() : words.at(0);
        }

        boolean matches(Value other) {
            return isDecimal == other.isDecimal && words.matches(other.words);
        }
    }

    /** A FIELD of a PATTERN. */
    private static final class Field {
        private static final int NO_LETTER = 0;
        private static final int FOR_WHOLE = 1;
        private static final int FOR_PLACES = 2;
        private static final int FOR_WORDS = 3;

        private boolean minus;
        private boolean plus;
        private boolean zero;
        private boolean sharp;
        private boolean blank;
        private boolean starWidth;
        private boolean starPrecision;
        private int width;
        private int precision;
        private int letter;
        private int sort;
        private int next;

        /** Reads the FIELD whose % stands at that place; false if there is none. */
        boolean read(Line pattern, int place) {
            next = place + 1;
            readFlags(pattern);
            readWidth(pattern);
            readPrecision(pattern);
            letter = pattern.at(next);
            sort = sortOf(letter);
            next++;
            return sort != NO_LETTER;
        }

        private void readFlags(Line pattern) {
            minus = false;
            plus = false;
            zero = false;
            sharp = false;
            blank = false;
            while (next < pattern.size() && setFlag(pattern.at(next))) {
                next++;
            }
        }

        private boolean setFlag(int mark) {
            switch (mark) {
                case '-':
                    minus = true;
                    return true;
                case '+':
                    plus = true;
                    return true;
                case '0':
                    zero = true;
                    return true;
                case '#':
                    sharp = true;
                    return true;
                case ' ':
                    blank = true;
                    return true;
                default:
                    return false;
            }
        }

        private void readWidth(Line pattern) {
            starWidth = pattern.at(next) == '*';
            if (starWidth) {
                width = 0;
                next++;
            } else {
                width = readNumber(pattern);
            }
        }

        private void readPrecision(Line pattern) {
            precision = NONE;
            starPrecision = false;
            if (pattern.at(next) != '.') {
                return;
            }
            next++;
            starPrecision = pattern.at(next) == '*';
            if (starPrecision) {
                next++;
            } else {
                precision = readNumber(pattern);
            }
        }

        /** 0 to 2 digits; a third one is left standing, where it is no LETTER. */
        private int readNumber(Line pattern) {
            int many = Math.min(2, pattern.digitsFrom(next));
            int number = (int) pattern.numberAt(next, many);
            next += many;
            return number;
        }

        private static int sortOf(int mark) {
            switch (mark) {
                case 'd':
                case 'x':
                case 'X':
                case 'o':
                case 'b':
                    return FOR_WHOLE;
                case 'f':
                case 'e':
                case 'E':
                case 'g':
                case 'G':
                    return FOR_PLACES;
                case 's':
                case 'q':
                case 'c':
                    return FOR_WORDS;
                default:
                    return NO_LETTER;
            }
        }

        void giveWidth(int number) {
            if (number < 0) {
                minus = true;
            }
            width = Math.abs(number);
        }

        void givePrecision(int number) {
            precision = number < 0 ? NONE : number;
        }

        int precisionOr(int other) {
            return precision == NONE ? other : precision;
        }

        boolean takes(Value value) {
            if (sort != FOR_WORDS) {
                return value.isDecimal;
            }
            return letter != 'c' || value.isMark();
        }

        int signFor(boolean below) {
            if (below) {
                return '-';
            }
            if (plus) {
                return '+';
            }
            return blank ? ' ' : NONE;
        }

        boolean padsWithZeros() {
            return zero && !minus && sort != FOR_WORDS;
        }
    }

    /** The digits of a DECIMAL without its sign, the greatest first. */
    private static final class Digits {
        // One digit more than a DECIMAL has ahead of its point, for what is carried there.
        private static final int AHEAD = 19;
        private static final int ONES = 18;
        private static final int ALL = 31;

        private final int[] row = new int[ALL];

        void load(Value value) {
            long rest = value.behind;
            for (int i = ALL - 1; i >= AHEAD; i--) {
                row[i] = (int) (rest % 10);
                rest = rest / 10;
            }
            rest = value.ahead;
            for (int i = ONES; i >= 0; i--) {
                row[i] = (int) (rest % 10);
                rest = rest / 10;
            }
        }

        /** Where the first digit that is not 0 stands; of 0 where its ones do. */
        int first() {
            for (int i = 0; i < ALL; i++) {
                if (row[i] != 0) {
                    return i;
                }
            }
            return ONES;
        }

        int exponent() {
            return ONES - first();
        }

        /** To the nearest with no more than so many digits of the row, of two to the even one. */
        void round(int kept) {
            if (kept < 1 || kept >= ALL) {
                return;
            }
            boolean up = goesUp(kept);
            for (int i = kept; i < ALL; i++) {
                row[i] = 0;
            }
            for (int i = kept - 1; i >= 0 && up; i--) {
                up = row[i] == 9;
                row[i] = up ? 0 : row[i] + 1;
            }
        }

        private boolean goesUp(int kept) {
            if (row[kept] != 5) {
                return row[kept] > 5;
            }
            for (int i = kept + 1; i < ALL; i++) {
                if (row[i] != 0) {
                    return true;
                }
            }
            return row[kept - 1] % 2 == 1;
        }

        /** The digits with the point ahead of that one of the row; it comes with places, or if it must. */
        void put(Line to, int point, int places, boolean mustPoint) {
            for (int i = Math.min(first(), point - 1); i < point; i++) {
                to.add(digitAt(i));
            }
            if (places > 0 || mustPoint) {
                to.add('.');
            }
            for (int i = 0; i < places; i++) {
                to.add(digitAt(point + i));
            }
        }

        private int digitAt(int i) {
            return i >= 0 && i < ALL ? '0' + row[i] : '0';
        }
    }

    /** What comes of one FIELD: a sign, the mark of a base, and the body. */
    private static final class Shape {
        private static final int MOST_BODY = 160;
        private static final int MOST_DIGITS = 64;
        private static final int USUAL_PLACES = 6;

        private final Line body = new Line(MOST_BODY);
        private final Digits digits = new Digits();
        private final int[] lowestFirst = new int[MOST_DIGITS];
        private int sign;
        private int base;

        /** The FIELD takes the VALUE: that was looked at before. */
        void form(Value value, Field field) {
            body.empty();
            sign = NONE;
            base = NONE;
            switch (field.letter) {
                case 'd':
                    formWhole(value, field, 10);
                    break;
                case 'x':
                case 'X':
                    formWhole(value, field, 16);
                    break;
                case 'o':
                    formWhole(value, field, 8);
                    break;
                case 'b':
                    formWhole(value, field, 2);
                    break;
                case 'f':
                    formPlaces(value, field);
                    break;
                case 'e':
                case 'E':
                    formExponent(value, field);
                    break;
                case 'g':
                case 'G':
                    formShorter(value, field);
                    break;
                case 'q':
                    formQuoted(value, field);
                    break;
                case 'c':
                    body.add(value.mark());
                    break;
                default:
                    body.addPart(value.words, 0, cutLength(value, field));
                    break;
            }
        }

        private void formWhole(Value value, Field field, int radix) {
            sign = field.signFor(value.wholePart() < 0);
            if (field.sharp && radix != 10) {
                base = field.letter;
            }
            int many = splitWhole(value.ahead, radix);
            int ten = field.letter == 'X' ? 'A' : 'a';
            body.repeat('0', field.precision - many);
            for (int i = many - 1; i >= 0; i--) {
                int digit = lowestFirst[i];
                body.add(digit < 10 ? '0' + digit : ten + digit - 10);
            }
        }

        private int splitWhole(long number, int radix) {
            if (radix < 2) {
                return 0;
            }
            long rest = number;
            int many = 0;
            while (many < MOST_DIGITS && (many == 0 || rest > 0)) {
                lowestFirst[many] = (int) (rest % radix);
                rest = rest / radix;
                many++;
            }
            return many;
        }

        private void formPlaces(Value value, Field field) {
            int places = field.precisionOr(USUAL_PLACES);
            sign = field.signFor(value.below);
            digits.load(value);
            digits.round(Digits.AHEAD + places);
            digits.put(body, Digits.AHEAD, places, field.sharp);
        }

        private void formExponent(Value value, Field field) {
            int places = field.precisionOr(USUAL_PLACES);
            sign = field.signFor(value.below);
            digits.load(value);
            digits.round(digits.first() + 1 + places);
            digits.put(body, digits.first() + 1, places, field.sharp);
            putExponent(field.letter, digits.exponent());
        }

        private void putExponent(int mark, int exponent) {
            int size = Math.abs(exponent);
            body.add(mark);
            body.add(exponent < 0 ? '-' : '+');
            body.add('0' + size / 10);
            body.add('0' + size % 10);
        }

        private void formShorter(Value value, Field field) {
            int most = Math.max(1, field.precisionOr(USUAL_PLACES));
            sign = field.signFor(value.below);
            digits.load(value);
            digits.round(digits.first() + most);
            int exponent = digits.exponent();
            boolean far = exponent < -4 || exponent >= most;
            int places = far ? most - 1 : most - 1 - exponent;
            int point = far ? digits.first() + 1 : Digits.AHEAD;
            digits.put(body, point, places, field.sharp);
            if (!field.sharp) {
                body.dropZeros(places);
            }
            if (far) {
                putExponent(field.letter == 'G' ? 'E' : 'e', exponent);
            }
        }

        private static int cutLength(Value value, Field field) {
            return Math.min(value.words.size(), field.precisionOr(MOST_WORDS));
        }

        private void formQuoted(Value value, Field field) {
            int end = cutLength(value, field);
            body.add('"');
            for (int i = 0; i < end; i++) {
                int mark = value.words.at(i);
                if (mark == '"' || mark == '\\') {
                    body.add('\\');
                }
                body.add(mark);
            }
            body.add('"');
        }

        /** False, and nothing is put, if there is no room for it. */
        boolean putInto(Line out, Field field) {
            int size = body.size() + (sign == NONE ? 0 : 1) + (base == NONE ? 0 : 2);
            int gap = Math.max(0, field.width - size);
            if (!out.hasRoom(size + gap)) {
                return false;
            }
            boolean zeros = field.padsWithZeros();
            if (!zeros && !field.minus) {
                out.repeat(' ', gap);
            }
            if (sign != NONE) {
                out.add(sign);
            }
            if (base != NONE) {
                out.add('0');
                out.add(base);
            }
            if (zeros) {
                out.repeat('0', gap);
            }
            out.addPart(body, 0, body.size());
            if (field.minus) {
                out.repeat(' ', gap);
            }
            return true;
        }
    }
}
