/** Prices by texts, as ../shared/DOC.md promises them; words in capitals there have the same meaning here. */
public final class PriceLines {
    public static final int NONE = -1;

    private static final int MOST_CHARACTERS = 240;
    private static final int MOST_LINES = 16;
    private static final int MOST_DIGITS = 5;
    private static final int MOST_STACKED = 6;
    private static final int MOST_ROWS = 8;
    private static final int LETTERS = 26;
    private static final int KINDS = 8;

    private static final int LAST_DAY = 10000;
    private static final int MOST_MINUTES = 100000;
    private static final int MOST_RATE = 1000;
    private static final int MOST_FACT_ABOVE = 1000000;
    private static final int MOST_FACT_BELOW = 10000;
    private static final long MOST_IN_NUMBER = 1000000000L;

    private static final int NOT_OPEN = 0;
    private static final int FACT_LACKS = 1;
    private static final int DIVIDED_BY_ZERO = 2;
    private static final int BEYOND_LIMIT = 3;

    private static final int PART_ABOVE = 0;
    private static final int PART_BELOW = 1;
    private static final int PART_REASON = 2;
    private static final int PART_PLACE = 3;

    private final Reader reader;
    private final Facts facts;
    private final Reckoning reckoning;
    private final Currencies currencies;
    private final Offers offers;
    private final Invoices invoices;
    private final Minutes minutesLearned;
    private Sheet sheet;
    // READING fills the spare sheet, so that a FAULT leaves the lines of before as they are.
    private Sheet spareSheet;

    public PriceLines() {
        reader = new Reader();
        facts = new Facts();
        reckoning = new Reckoning();
        currencies = new Currencies();
        offers = new Offers();
        invoices = new Invoices();
        minutesLearned = new Minutes();
        sheet = new Sheet();
        spareSheet = new Sheet();
    }

    public boolean unit(int u) {
        return reader.append(u);
    }

    public int read() {
        int fault = reader.fill(spareSheet);
        if (fault != NONE) {
            return -1 - fault;
        }
        Sheet filled = spareSheet;
        spareSheet = sheet;
        sheet = filled;
        return sheet.lineCount;
    }

    public void fact(int letter, int above, int below) throws IndexOutOfBoundsException, IllegalArgumentException {
        requireLetter(letter);
        requireFactNumbers(above, below);
        facts.tell(letter, above, below);
    }

    public boolean forget(int letter) throws IndexOutOfBoundsException {
        requireLetter(letter);
        boolean wasTold = facts.isTold(letter);
        facts.drop(letter);
        return wasTold;
    }

    public int run() {
        reckoning.reckon(sheet, facts);
        return reckoning.openLines;
    }

    public long cents() {
        return reckoning.reckon(sheet, facts);
    }

    public long line(int k, int part) throws IndexOutOfBoundsException {
        if (k < 0 || k >= sheet.lineCount) {
            throw new IndexOutOfBoundsException("no such line");
        }
        if (part < PART_ABOVE || part > PART_PLACE) {
            throw new IndexOutOfBoundsException("no such part of a line");
        }
        reckoning.reckon(sheet, facts);
        return reckoning.partOf(k, part);
    }

    public long changed(int letter, int above, int below) throws IndexOutOfBoundsException, IllegalArgumentException {
        requireLetter(letter);
        requireFactNumbers(above, below);
        long centsTold = reckoning.reckon(sheet, facts);
        boolean wasTold = facts.isTold(letter);
        int keptAbove = facts.aboveOf(letter);
        int keptBelow = facts.belowOf(letter);
        facts.tell(letter, above, below);
        long centsSupposed = reckoning.reckon(sheet, facts);
        if (wasTold) {
            facts.tell(letter, keptAbove, keptBelow);
        } else {
            facts.drop(letter);
        }
        return centsSupposed - centsTold;
    }

    public int currency(int day, int above, int below) throws IllegalArgumentException, IllegalStateException {
        requireDay(day);
        if (!currencies.isBehindLast(day)) {
            throw new IllegalArgumentException("the day is not behind the one before");
        }
        if (!isRate(above) || !isRate(below)) {
            throw new IllegalArgumentException("above or below is not 1 .. 1000");
        }
        if (currencies.count >= MOST_ROWS) {
            throw new IllegalStateException("there are 8 currency rows");
        }
        currencies.add(day, above, below);
        return currencies.count;
    }

    public long centsAt(int day) throws IllegalArgumentException {
        requireDay(day);
        return currencies.convert(reckoning.reckon(sheet, facts), day);
    }

    public int offer(int until) throws IllegalArgumentException, IllegalStateException {
        requireDay(until);
        if (offers.count >= MOST_ROWS) {
            throw new IllegalStateException("there are 8 offers");
        }
        long centsOffered = reckoning.reckon(sheet, facts);
        if (reckoning.openLines > 0) {
            throw new IllegalStateException("a line is open");
        }
        return offers.add(centsOffered, until);
    }

    public long offered(int offer, int day)
            throws IndexOutOfBoundsException, IllegalArgumentException, IllegalStateException {
        requireOffer(offer);
        requireDay(day);
        requireHeld(offer, day);
        return offers.centsOf(offer);
    }

    public long differs(int offer, int other) throws IndexOutOfBoundsException {
        requireOffer(offer);
        requireOffer(other);
        return offers.centsOf(offer) - offers.centsOf(other);
    }

    public int invoice(int offer, int day)
            throws IndexOutOfBoundsException, IllegalArgumentException, IllegalStateException {
        requireOffer(offer);
        requireDay(day);
        if (invoices.count >= MOST_ROWS) {
            throw new IllegalStateException("there are 8 invoices");
        }
        requireHeld(offer, day);
        long centsInvoiced = currencies.convert(offers.centsOf(offer), day);
        if (centsInvoiced < 0) {
            throw new IllegalStateException("the invoice would be below 0");
        }
        return invoices.add(centsInvoiced);
    }

    public long left(int invoice) throws IndexOutOfBoundsException {
        requireInvoice(invoice);
        return invoices.leftOf(invoice);
    }

    public boolean refund(int invoice, int cents) throws IndexOutOfBoundsException, IllegalArgumentException {
        requireInvoice(invoice);
        if (cents < 0) {
            throw new IllegalArgumentException("cents are below 0");
        }
        return invoices.takeOff(invoice, cents);
    }

    public int learn(int kind, int minutes) throws IndexOutOfBoundsException, IllegalArgumentException {
        if (kind < 0 || kind >= KINDS) {
            throw new IndexOutOfBoundsException("no such kind");
        }
        if (minutes < 0 || minutes > MOST_MINUTES) {
            throw new IllegalArgumentException("minutes are not 0 .. 100000");
        }
        minutesLearned.add(kind, minutes);
        return minutesLearned.meanOf(kind);
    }

    private static void requireLetter(int letter) {
        if (!isFactLetter(letter)) {
            throw new IndexOutOfBoundsException("no such fact");
        }
    }

    private static void requireFactNumbers(int above, int below) {
        if (below < 1 || below > MOST_FACT_BELOW) {
            throw new IllegalArgumentException("below is not 1 .. 10000");
        }
        if (above < -MOST_FACT_ABOVE || above > MOST_FACT_ABOVE) {
            throw new IllegalArgumentException("above is not -1000000 .. 1000000");
        }
    }

    private static void requireDay(int day) {
        if (day < 0 || day > LAST_DAY) {
            throw new IllegalArgumentException("the day is not 0 .. 10000");
        }
    }

    private void requireOffer(int offer) {
        if (offer < 0 || offer >= offers.count) {
            throw new IndexOutOfBoundsException("no such offer");
        }
    }

    private void requireHeld(int offer, int day) {
        if (day > offers.lastDayOf(offer)) {
            throw new IllegalStateException("the day is behind the offer's last one");
        }
    }

    private void requireInvoice(int invoice) {
        if (invoice < 0 || invoice >= invoices.count) {
            throw new IndexOutOfBoundsException("no such invoice");
        }
    }

    private static boolean isFactLetter(int letter) {
        return letter >= 'a' && letter <= 'z' && letter != 'r';
    }

    private static boolean isRate(int number) {
        return number >= 1 && number <= MOST_RATE;
    }

    private static boolean isIndex(int k, int length) {
        return k >= 0 && k < length;
    }

    /** The LINES that a READING found. */
    private static final class Sheet {
        // A number stands as itself, any other sign as its character made negative.
        private final int[] signs = new int[MOST_CHARACTERS];
        private final int[] ends = new int[MOST_LINES];
        private int signCount;
        private int lineCount;

        void clear() {
            signCount = 0;
            lineCount = 0;
        }

        void addNumber(int digit) {
            addSign(digit);
        }

        void addDigit(int digit) {
            int last = signCount - 1;
            if (isIndex(last, signs.length)) {
                signs[last] = signs[last] * 10 + digit;
            }
        }

        void addCharacter(char c) {
            addSign(-c);
        }

        void addEnd(char c) {
            if (isIndex(lineCount, ends.length)) {
                ends[lineCount] = signCount;
                lineCount++;
                addSign(-c);
            }
        }

        int firstOf(int k) {
            return k == 0 ? 0 : endOf(k - 1) + 1;
        }

        int endOf(int k) {
            return isIndex(k, ends.length) ? ends[k] : 0;
        }

        int signAt(int k) {
            return isIndex(k, signs.length) ? signs[k] : 0;
        }

        private void addSign(int sign) {
            if (isIndex(signCount, signs.length)) {
                signs[signCount] = sign;
                signCount++;
            }
        }
    }

    /** The TEXT and its READING, which follows the height of the STACK without reckoning. */
    private static final class Reader {
        private final char[] text = new char[MOST_CHARACTERS];
        private int length;
        private int height;
        private int digits;

        boolean append(int u) {
            if (u < 32 || u > 126 || !isIndex(length, text.length)) {
                return false;
            }
            text[length] = (char) u;
            length++;
            return true;
        }

        /** Empties the text into the sheet: the place of a FAULT, or NONE. */
        int fill(Sheet target) {
            target.clear();
            height = 0;
            digits = 0;
            int behind = length;
            length = 0;
            for (int k = 0; k < behind && k < text.length; k++) {
                if (!accept(text[k], target)) {
                    return k;
                }
            }
            // Between lines the stack is empty, and nowhere else behind a line's first sign.
            boolean isEnded = height == 0 && target.lineCount > 0;
            return isEnded ? NONE : behind;
        }

        private boolean accept(char c, Sheet target) {
            if (c >= '0' && c <= '9') {
                return acceptDigit(c - '0', target);
            }
            digits = 0;
            if (c == ' ') {
                return true;
            }
            if (isFactLetter(c)) {
                return acceptFact(c, target);
            }
            switch (c) {
                case '+':
                case '-':
                case '*':
                case '/':
                case '<':
                case '>':
                    return acceptOperator(c, 2, target);
                case 'r':
                    return acceptOperator(c, 1, target);
                case ';':
                case '%':
                case '=':
                    return acceptEnd(c, target);
                default:
                    return false;
            }
        }

        private boolean acceptDigit(int digit, Sheet target) {
            if (digits >= MOST_DIGITS) {
                return false;
            }
            if (digits > 0) {
                target.addDigit(digit);
            } else if (hasRoom(target)) {
                height++;
                target.addNumber(digit);
            } else {
                return false;
            }
            digits++;
            return true;
        }

        private boolean acceptFact(char c, Sheet target) {
            if (!hasRoom(target)) {
                return false;
            }
            height++;
            target.addCharacter(c);
            return true;
        }

        private boolean acceptOperator(char c, int taken, Sheet target) {
            if (height < taken) {
                return false;
            }
            height = height - taken + 1;
            target.addCharacter(c);
            return true;
        }

        private boolean acceptEnd(char c, Sheet target) {
            if (height != 1) {
                return false;
            }
            height = 0;
            target.addEnd(c);
            return true;
        }

        // Only a number or a fact can begin a line, so a 17th one is refused here.
        private boolean hasRoom(Sheet target) {
            return height < MOST_STACKED && target.lineCount < MOST_LINES;
        }
    }

    /** The FACTS; below is 0 where a fact is not told. */
    private static final class Facts {
        private final int[] above = new int[LETTERS];
        private final int[] below = new int[LETTERS];

        void tell(int letter, int newAbove, int newBelow) {
            int k = letter - 'a';
            if (isIndex(k, LETTERS)) {
                above[k] = newAbove;
                below[k] = newBelow;
            }
        }

        void drop(int letter) {
            tell(letter, 0, 0);
        }

        boolean isTold(int letter) {
            return belowOf(letter) > 0;
        }

        int aboveOf(int letter) {
            int k = letter - 'a';
            return isIndex(k, LETTERS) ? above[k] : 0;
        }

        int belowOf(int letter) {
            int k = letter - 'a';
            return isIndex(k, LETTERS) ? below[k] : 0;
        }
    }

    /** A NUMBER that changes in place, so that a RUN makes no objects. */
    private static final class Fraction {
        // Two numbers below 2 ^ 63 need fewer than 93 steps (Fibonacci numbers need the most).
        private static final int MOST_DIVISIONS = 128;

        private long above = 0;
        private long below = 1;

        /** Whether the number is within the limit; only then it is taken. */
        boolean set(long newAbove, long newBelow) {
            long divisor = commonDivisor(Math.abs(newAbove), Math.abs(newBelow));
            if (divisor == 0 || newBelow == 0) {
                return false;
            }
            long reducedAbove = newAbove / divisor;
            long reducedBelow = newBelow / divisor;
            if (Math.abs(reducedAbove) > MOST_IN_NUMBER || Math.abs(reducedBelow) > MOST_IN_NUMBER) {
                return false;
            }
            above = reducedBelow < 0 ? -reducedAbove : reducedAbove;
            below = Math.abs(reducedBelow);
            return true;
        }

        void copy(Fraction other) {
            above = other.above;
            below = other.below;
        }

        boolean add(Fraction other) {
            return set(above * other.below + other.above * below, below * other.below);
        }

        boolean subtract(Fraction other) {
            return set(above * other.below - other.above * below, below * other.below);
        }

        boolean multiply(Fraction other) {
            return set(above * other.above, below * other.below);
        }

        boolean divide(Fraction other) {
            return set(above * other.below, below * other.above);
        }

        boolean divideByHundred() {
            return set(above, below * 100);
        }

        boolean roundToHundredths() {
            return set(hundredths(), 100);
        }

        boolean isLessThan(Fraction other) {
            return above * other.below < other.above * below;
        }

        /** A hundred times the number, halves up. */
        long hundredths() {
            long divisor = below * 2;
            return divisor < 1 ? 0 : Math.floorDiv(above * 200 + below, divisor);
        }

        private static long commonDivisor(long one, long other) {
            long greater = one;
            long lesser = other;
            for (int k = 0; k < MOST_DIVISIONS && lesser != 0; k++) {
                long rest = greater % lesser;
                greater = lesser;
                lesser = rest;
            }
            return greater;
        }
    }

    /** A RUN: the TOTAL, and what became of each line. */
    private static final class Reckoning {
        private final Fraction total = new Fraction();
        private final Fraction[] stack = new Fraction[MOST_STACKED];
        private final Fraction[] added = new Fraction[MOST_LINES];
        private final int[] reasons = new int[MOST_LINES];
        private final int[] places = new int[MOST_LINES];
        private int height;
        private int openLines;

        Reckoning() {
            for (int k = 0; k < stack.length; k++) {
                stack[k] = new Fraction();
            }
            for (int k = 0; k < added.length; k++) {
                added[k] = new Fraction();
            }
        }

        /** The CENTS of the TOTAL. */
        long reckon(Sheet sheet, Facts facts) {
            total.set(0, 1);
            openLines = 0;
            for (int k = 0; k < sheet.lineCount && k < MOST_LINES; k++) {
                reckonLine(k, sheet, facts);
            }
            return total.hundredths();
        }

        long partOf(int k, int part) {
            if (!isIndex(k, MOST_LINES)) {
                return 0;
            }
            switch (part) {
                case PART_ABOVE:
                    return added[k].above;
                case PART_BELOW:
                    return added[k].below;
                case PART_REASON:
                    return reasons[k];
                default:
                    return places[k];
            }
        }

        private void reckonLine(int k, Sheet sheet, Facts facts) {
            int first = sheet.firstOf(k);
            int end = sheet.endOf(k);
            int reason = NOT_OPEN;
            int place = NONE;
            height = 0;
            for (int s = first; s <= end && reason == NOT_OPEN; s++) {
                int sign = sheet.signAt(s);
                reason = s < end ? apply(sign, facts) : endLine(-sign, added[k]);
                place = s - first;
            }
            reasons[k] = reason;
            places[k] = reason == NOT_OPEN ? NONE : place;
            if (reason != NOT_OPEN) {
                added[k].set(0, 1);
                openLines++;
            }
        }

        /** Does what a sign says: the reason why the line is OPEN by it, or NOT_OPEN. */
        private int apply(int sign, Facts facts) {
            int c = -sign;
            if (sign >= 0) {
                return lay(sign, 1);
            }
            if (isFactLetter(c)) {
                return facts.isTold(c) ? lay(facts.aboveOf(c), facts.belowOf(c)) : FACT_LACKS;
            }
            Fraction upper = stackedAt(height - 1);
            if (c == 'r') {
                return reasonUnless(upper.roundToHundredths());
            }
            height--;
            Fraction lower = stackedAt(height - 1);
            switch (c) {
                case '+':
                    return reasonUnless(lower.add(upper));
                case '-':
                    return reasonUnless(lower.subtract(upper));
                case '*':
                    return reasonUnless(lower.multiply(upper));
                case '/':
                    return upper.above == 0 ? DIVIDED_BY_ZERO : reasonUnless(lower.divide(upper));
                case '<':
                    lower.copy(upper.isLessThan(lower) ? upper : lower);
                    return NOT_OPEN;
                default:
                    lower.copy(lower.isLessThan(upper) ? upper : lower);
                    return NOT_OPEN;
            }
        }

        private int lay(int above, int below) {
            height++;
            return reasonUnless(stackedAt(height - 1).set(above, below));
        }

        /** Adds the line to the TOTAL by its END, if all that is reckoned for it stays within the limit. */
        private int endLine(int c, Fraction share) {
            share.copy(stackedAt(0));
            boolean isWithin = true;
            if (c == '%') {
                isWithin = share.divideByHundred() && share.multiply(total);
            } else if (c == '=') {
                isWithin = share.subtract(total);
            }
            return reasonUnless(isWithin && total.add(share));
        }

        // READING keeps the height within the stack; the test stands for the machine alone.
        private Fraction stackedAt(int k) {
            return isIndex(k, stack.length) ? stack[k] : stack[0];
        }

        private static int reasonUnless(boolean isWithin) {
            return isWithin ? NOT_OPEN : BEYOND_LIMIT;
        }
    }

    /** The CURRENCY rows, their days rising. */
    private static final class Currencies {
        private final int[] days = new int[MOST_ROWS];
        private final int[] above = new int[MOST_ROWS];
        private final int[] below = new int[MOST_ROWS];
        private int count;

        boolean isBehindLast(int day) {
            int last = count - 1;
            return !isIndex(last, MOST_ROWS) || day > days[last];
        }

        void add(int day, int rateAbove, int rateBelow) {
            if (isIndex(count, MOST_ROWS)) {
                days[count] = day;
                above[count] = rateAbove;
                below[count] = rateBelow;
                count++;
            }
        }

        long convert(long cents, int day) {
            int row = rowAt(day);
            if (!isIndex(row, MOST_ROWS) || below[row] < 1) {
                return cents;
            }
            return Math.floorDiv(cents * above[row], (long) below[row]);
        }

        private int rowAt(int day) {
            int row = NONE;
            for (int k = 0; k < count && k < MOST_ROWS; k++) {
                if (days[k] <= day) {
                    row = k;
                }
            }
            return row;
        }
    }

    /** The OFFERS. */
    private static final class Offers {
        private final long[] cents = new long[MOST_ROWS];
        private final int[] lastDays = new int[MOST_ROWS];
        private int count;

        int add(long centsOffered, int lastDay) {
            int number = count;
            if (isIndex(number, MOST_ROWS)) {
                cents[number] = centsOffered;
                lastDays[number] = lastDay;
                count++;
            }
            return number;
        }

        long centsOf(int number) {
            return isIndex(number, MOST_ROWS) ? cents[number] : 0;
        }

        int lastDayOf(int number) {
            return isIndex(number, MOST_ROWS) ? lastDays[number] : 0;
        }
    }

    /** The INVOICES: what is left of each one. */
    private static final class Invoices {
        private final long[] leftCents = new long[MOST_ROWS];
        private int count;

        int add(long centsInvoiced) {
            int number = count;
            if (isIndex(number, MOST_ROWS)) {
                leftCents[number] = centsInvoiced;
                count++;
            }
            return number;
        }

        long leftOf(int number) {
            return isIndex(number, MOST_ROWS) ? leftCents[number] : 0;
        }

        boolean takeOff(int number, int cents) {
            if (!isIndex(number, MOST_ROWS) || cents > leftCents[number]) {
                return false;
            }
            leftCents[number] -= cents;
            return true;
        }
    }

    /** What is LEARNED of each kind. */
    private static final class Minutes {
        private final long[] sums = new long[KINDS];
        private final long[] counts = new long[KINDS];

        void add(int kind, int minutes) {
            if (isIndex(kind, KINDS)) {
                sums[kind] += minutes;
                counts[kind]++;
            }
        }

        int meanOf(int kind) {
            if (!isIndex(kind, KINDS) || counts[kind] < 1) {
                return 0;
            }
            return (int) (sums[kind] / counts[kind]);
        }
    }
}
