/** A raft of log drivers who agree on what was shouted, as ../shared/DOC.md says. */
public final class LogRaft {
    public static final int NONE = -1;
    public static final int BAD = -2;
    public static final int REFUSED = -3;
    public static final int NOTHING = -4;

    private static final int MOST_DRIVERS = 5;
    private static final int MOST_LINES = 12;
    private static final int MOST_PATIENCE = 9;
    private static final int MOST_BEATS = 20;
    private static final int MOST_SIGNS = 60;
    // The shortest command has four signs, and one more between two.
    private static final int MOST_COMMANDS = (MOST_SIGNS + 1) / 5;
    private static final int MOST_UNDOS = 8;
    private static final char FIRST_SIGN = 32;
    private static final char LAST_SIGN = 126;

    private static final int FOLLOWS = 0;
    private static final int ASKS = 1;
    private static final int LEADS = 2;

    private static final int IS_FULL = 1;
    private static final int IS_WASHED_AWAY = 2;
    private static final int LEADS_ALREADY = 3;
    private static final int DOES_NOT_LEAD = 4;
    private static final int ARE_ONE = 5;
    private static final int IS_SO_ALREADY = 6;
    private static final int ASKED_ALREADY = 7;
    private static final int COMMAND_REFUSED = 8;
    private static final int COMMAND_FAILED = 9;

    private static final Word[] WORDS = Word.values();

    private final Raft now = new Raft();
    private final Raft spare = new Raft();
    private final Raft saved = new Raft();
    private final Past past = new Past();
    private final Reasons reasons = new Reasons();
    private final Text text = new Text();
    private final StringBuilder writing = new StringBuilder();
    private boolean isSaved;
    private int faultAt = NOTHING;

    public LogRaft() {
    }

    // Changes

    public int clear() {
        int drivers = now.count;
        now.empty();
        past.forget();
        return drivers;
    }

    public int append(char character) {
        return text.add(character) ? text.size() : BAD;
    }

    public int driver(int patience) {
        return change(Word.DRIVER, patience, 0);
    }

    public int ask(int driver) {
        return change(Word.ASK, driver, 0);
    }

    public int send(int driver) {
        return change(Word.SEND, driver, 0);
    }

    public int shout(int driver, char letter) {
        return change(Word.SHOUT, driver, letter);
    }

    public int wash(int driver) {
        return change(Word.WASH, driver, 0);
    }

    public int back(int driver) {
        return change(Word.BACK, driver, 0);
    }

    public int cut(int one, int other) {
        return change(Word.CUT, one, other);
    }

    public int tie(int one, int other) {
        return change(Word.TIE, one, other);
    }

    public int beats(int many) {
        return change(Word.BEAT, many, 0);
    }

    public int read() {
        boolean isGood = text.parse();
        text.empty();
        if (!isGood) {
            faultAt = text.position;
            return BAD;
        }
        spare.copyFrom(now);
        for (int i = 0; i < text.count; i++) {
            Command command = text.commands[i];
            int code = carryOut(command.word, command.first, command.second);
            if (code < 0) {
                now.copyFrom(spare);
                return refuseCommand(i, code);
            }
        }
        past.remember(spare);
        return text.count;
    }

    private int change(Word word, int first, int second) {
        spare.copyFrom(now);
        int code = carryOut(word, first, second);
        if (code >= 0) {
            past.remember(spare);
        }
        return code;
    }

    private int carryOut(Word word, int first, int second) {
        if (word == null) {
            return NONE;
        }
        switch (word) {
            case DRIVER:
                return letCome(first);
            case ASK:
                return letAsk(first);
            case SEND:
                return letSend(first);
            case SHOUT:
                return letShout(first, second);
            case WASH:
                return washAway(first);
            case BACK:
                return bringBack(first);
            case CUT:
                return changeRope(first, second, true);
            case TIE:
                return changeRope(first, second, false);
            default:
                return first >= 1 && first <= MOST_BEATS ? now.passBeats(first) : BAD;
        }
    }

    private int letCome(int patience) {
        if (patience < 1 || patience > MOST_PATIENCE) {
            return BAD;
        }
        if (now.asks > 0) {
            return refuse(ASKED_ALREADY, now.asks);
        }
        if (now.count >= MOST_DRIVERS) {
            return refuse(IS_FULL, MOST_DRIVERS);
        }
        return now.addDriver(patience);
    }

    private int letAsk(int number) {
        if (!now.has(number)) {
            return NONE;
        }
        Driver driver = now.drivers[number];
        if (!driver.isAboard) {
            return refuse(IS_WASHED_AWAY, number);
        }
        if (driver.doing == LEADS) {
            return refuse(LEADS_ALREADY, driver.term);
        }
        return now.gatherVotes(number);
    }

    private int letSend(int number) {
        if (!now.has(number)) {
            return NONE;
        }
        Driver driver = now.drivers[number];
        if (!driver.isAboard) {
            return refuse(IS_WASHED_AWAY, number);
        }
        if (driver.doing != LEADS) {
            return refuse(DOES_NOT_LEAD, driver.term);
        }
        return now.sendFrom(number);
    }

    private int letShout(int number, int letter) {
        if (!now.has(number)) {
            return NONE;
        }
        if (letter < 'a' || letter > 'z') {
            return BAD;
        }
        Driver driver = now.drivers[number];
        if (!driver.isAboard) {
            return refuse(IS_WASHED_AWAY, number);
        }
        if (driver.doing != LEADS) {
            return refuse(DOES_NOT_LEAD, driver.term);
        }
        if (driver.lines >= MOST_LINES) {
            return refuse(IS_FULL, MOST_LINES);
        }
        now.shouts++;
        driver.write(driver.term, (char) letter);
        return driver.lines;
    }

    private int washAway(int number) {
        if (!now.has(number)) {
            return NONE;
        }
        Driver driver = now.drivers[number];
        if (!driver.isAboard) {
            return refuse(IS_WASHED_AWAY, number);
        }
        driver.isAboard = false;
        driver.doing = FOLLOWS;
        return now.countAboard();
    }

    private int bringBack(int number) {
        if (!now.has(number)) {
            return NONE;
        }
        Driver driver = now.drivers[number];
        if (driver.isAboard) {
            return refuse(IS_SO_ALREADY, number);
        }
        driver.isAboard = true;
        driver.waited = 0;
        return now.countAboard();
    }

    private int changeRope(int one, int other, boolean isCut) {
        if (!now.has(one) || !now.has(other)) {
            return NONE;
        }
        if (one == other) {
            return refuse(ARE_ONE, one);
        }
        if (now.isRopeCut(one, other) == isCut) {
            return refuse(IS_SO_ALREADY, Math.max(one, other));
        }
        now.setRope(one, other, isCut);
        return now.countCutRopes();
    }

    private int refuse(int reason, int detail) {
        reasons.put(reason, detail);
        return REFUSED;
    }

    private int refuseCommand(int number, int code) {
        if (code == REFUSED) {
            reasons.putAhead(COMMAND_REFUSED, number);
        } else {
            reasons.put(COMMAND_FAILED, number);
        }
        return REFUSED;
    }

    // What was wrong

    public int fault() {
        return faultAt;
    }

    public int reason(int depth, boolean isDetail) {
        if (depth < 0 || depth > 1) {
            return BAD;
        }
        int number = depth == 0 ? reasons.number : reasons.numberBehind;
        if (number == 0) {
            return NOTHING;
        }
        if (!isDetail) {
            return number;
        }
        return depth == 0 ? reasons.detail : reasons.detailBehind;
    }

    // Questions about drivers

    public int driverOf(int driver, int what) {
        if (!now.has(driver)) {
            return NONE;
        }
        Driver asked = now.drivers[driver];
        switch (what) {
            case 0:
                return asked.doing;
            case 1:
                return asked.term;
            case 2:
                return asked.patience;
            case 3:
                return asked.waited;
            case 4:
                return asked.vote;
            case 5:
                return asked.lines;
            case 6:
                return asked.known;
            case 7:
                return asked.isAboard ? 1 : 0;
            case 8:
                return now.countReached(driver);
            case 9:
                return asked.timesAsked;
            case 10:
                return asked.timesLed;
            default:
                return BAD;
        }
    }

    public int lineOf(int driver, int line, boolean isLetter) {
        if (!now.hasLine(driver, line)) {
            return NONE;
        }
        Driver teller = now.drivers[driver];
        return isLetter ? teller.letters[line - 1] : teller.terms[line - 1];
    }

    public int leader() {
        int best = NOTHING;
        int bestTerm = 0;
        for (int i = 0; i < now.count; i++) {
            Driver driver = now.drivers[i];
            if (driver.isLeading() && (best == NOTHING || driver.term > bestTerm)) {
                best = i;
                bestTerm = driver.term;
            }
        }
        return best;
    }

    public boolean reaches(int one, int other) {
        return now.has(one) && now.has(other) && now.canReach(one, other);
    }

    public boolean wouldVote(int driver, int asking) {
        if (!now.has(driver) || !now.has(asking)) {
            return false;
        }
        return driver == asking || now.wouldGrantVote(driver, asking);
    }

    public int couldLead(int driver) {
        int code = codeOfAsking(driver);
        return code < 0 ? code : now.votesToGet(driver);
    }

    public int couldLeadAgain(int driver) {
        int code = codeOfAsking(driver);
        if (code < 0) {
            return code;
        }
        spare.copyFrom(now);
        int votes = now.gatherVotes(driver);
        now.copyFrom(spare);
        return votes;
    }

    private int codeOfAsking(int number) {
        if (!now.has(number)) {
            return NONE;
        }
        Driver driver = now.drivers[number];
        return driver.isAboard && driver.doing != LEADS ? 0 : NOTHING;
    }

    // Questions about tales

    public int longer(int one, int other) {
        if (!now.has(one) || !now.has(other)) {
            return NOTHING;
        }
        if (now.drivers[one].hasLongerTaleThan(now.drivers[other])) {
            return 1;
        }
        return now.drivers[other].hasLongerTaleThan(now.drivers[one]) ? -1 : 0;
    }

    public int alike(int one, int other) {
        if (!now.has(one) || !now.has(other)) {
            return NONE;
        }
        return now.drivers[one].countSameLines(now.drivers[other]);
    }

    public int holders(int driver, int line) {
        if (!now.hasLine(driver, line)) {
            return NONE;
        }
        int holding = 0;
        for (int i = 0; i < now.count; i++) {
            if (now.drivers[i].countSameLines(now.drivers[driver]) >= line) {
                holding++;
            }
        }
        return holding;
    }

    public int agreed() {
        int greatest = 0;
        for (int i = 0; i < now.count; i++) {
            greatest = Math.max(greatest, now.drivers[i].known);
        }
        return greatest;
    }

    public int agreedAgain() {
        int most = NONE;
        for (int i = 0; i < now.count; i++) {
            if (most == NONE || now.drivers[i].known > now.drivers[most].known) {
                most = i;
            }
        }
        return most == NONE ? 0 : now.drivers[most].known;
    }

    public int conflicts() {
        int pairs = 0;
        for (int i = 0; i < now.count; i++) {
            for (int j = 0; j < i; j++) {
                if (now.isConflict(i, j)) {
                    pairs++;
                }
            }
        }
        return pairs;
    }

    public int isSafe() {
        for (int i = 0; i < now.count; i++) {
            for (int j = 0; j < i; j++) {
                Driver one = now.drivers[i];
                Driver other = now.drivers[j];
                if (one.countSameLines(other) < Math.min(one.known, other.known)) {
                    return 0;
                }
            }
        }
        return 1;
    }

    // Ranks and beats to come

    public int ranked(int place) {
        for (int i = 0; i < now.count; i++) {
            if (now.countRankedAhead(i) == place) {
                return i;
            }
        }
        return NONE;
    }

    public int oldest(int place) {
        for (int i = 0; i < now.count; i++) {
            if (now.drivers[i].isWaiting() && now.countAskingAhead(i) == place) {
                return i;
            }
        }
        return NONE;
    }

    public int quietBeats() {
        spare.copyFrom(now);
        for (int i = 1; i <= MOST_PATIENCE; i++) {
            if (spare.passBeats(1) > 0) {
                return i;
            }
        }
        return NOTHING;
    }

    // Written lines

    public int tell(int driver) {
        if (!now.has(driver)) {
            return NONE;
        }
        writing.setLength(0);
        now.drivers[driver].writeOn(writing);
        return writing.length();
    }

    public int tellVotes(int driver) {
        if (!now.has(driver)) {
            return NONE;
        }
        writing.setLength(0);
        for (int i = 0; i < now.count; i++) {
            if (now.hasVoteOf(driver, i)) {
                if (writing.length() > 0) {
                    writing.append(',');
                }
                writing.append(i);
            }
        }
        if (writing.length() == 0) {
            writing.append('-');
        }
        return writing.length();
    }

    public int written(int index) {
        return index >= 0 && index < writing.length() ? writing.charAt(index) : NONE;
    }

    // Accounts

    public float meanTale() {
        if (now.count == 0) {
            return 0.0f;
        }
        return (float) now.countLines() / (float) now.count;
    }

    public double agreedShare() {
        int lines = now.countLines();
        if (lines == 0) {
            return 0.0;
        }
        return (double) now.countKnownLines() / (double) lines;
    }

    public int account(int what) {
        switch (what) {
            case 0:
                return now.beat;
            case 1:
                return now.count;
            case 2:
                return now.countAboard();
            case 3:
                return now.countCutRopes();
            case 4:
                return now.greatestTerm();
            case 5:
                return now.asks;
            case 6:
                return now.leads;
            case 7:
                return now.shouts;
            case 8:
                return now.cutLines;
            case 9:
                return now.sendings;
            case 10:
                return now.votes;
            case 11:
                return text.size();
            case 12:
                return past.count;
            default:
                return BAD;
        }
    }

    // Undo and saving

    public int undo() {
        if (past.count == 0) {
            return NOTHING;
        }
        past.takeBack(now);
        return past.count;
    }

    public int save() {
        saved.copyFrom(now);
        isSaved = true;
        return now.beat;
    }

    public int restore() {
        if (!isSaved) {
            return NOTHING;
        }
        now.copyFrom(saved);
        past.forget();
        return now.beat;
    }

    /** The words of the commands; none of them begins another one. */
    private enum Word {
        DRIVER("driver "),
        ASK("ask "),
        SEND("send "),
        SHOUT("shout "),
        WASH("wash "),
        BACK("back "),
        CUT("cut "),
        TIE("tie "),
        BEAT("beat");

        final String signs;

        Word(String signs) {
            this.signs = signs;
        }
    }

    /** A command of a text, with the arguments of its call. */
    private static final class Command {
        Word word;
        int first;
        int second;
    }

    /** The input, and the commands that were found in it last. */
    private static final class Text {
        final StringBuilder signs = new StringBuilder();
        final Command[] commands = new Command[MOST_COMMANDS];
        int count;
        int position;

        Text() {
            for (int i = 0; i < commands.length; i++) {
                commands[i] = new Command();
            }
        }

        int size() {
            return signs.length();
        }

        boolean add(char sign) {
            if (sign < FIRST_SIGN || sign > LAST_SIGN || signs.length() >= MOST_SIGNS) {
                return false;
            }
            signs.append(sign);
            return true;
        }

        void empty() {
            signs.setLength(0);
        }

        /** Returns whether the input is a text; if it is not, the position is the fault's. */
        boolean parse() {
            count = 0;
            position = 0;
            boolean isGood = takeCommand();
            for (int i = 0; i < MOST_COMMANDS && isGood && position < signs.length(); i++) {
                isGood = takeSign(';') && takeCommand();
            }
            return isGood;
        }

        private boolean takeCommand() {
            Word word = takeWord();
            if (word == null || count >= commands.length) {
                return false;
            }
            Command command = commands[count];
            command.word = word;
            command.second = 0;
            if (!takeArguments(command)) {
                return false;
            }
            count++;
            return true;
        }

        /** Goes on behind the word that stands here, or to the first sign that fits no word. */
        private Word takeWord() {
            Word found = null;
            int most = 0;
            for (int i = 0; i < WORDS.length; i++) {
                int fitting = countFitting(WORDS[i].signs);
                most = Math.max(most, fitting);
                if (fitting == WORDS[i].signs.length()) {
                    found = WORDS[i];
                }
            }
            position += most;
            return found;
        }

        private int countFitting(String wanted) {
            int fitting = 0;
            while (fitting < wanted.length() && isHere(fitting, wanted.charAt(fitting))) {
                fitting++;
            }
            return fitting;
        }

        private boolean isHere(int offset, char sign) {
            int index = position + offset;
            return index >= 0 && index < signs.length() && signs.charAt(index) == sign;
        }

        private boolean takeArguments(Command command) {
            switch (command.word) {
                case SHOUT:
                    return takeFirst(command) && takeSign(' ') && takeLetter(command);
                case CUT:
                case TIE:
                    return takeFirst(command) && takeSecond(command);
                case BEAT:
                    command.first = 1;
                    return !takeSign(' ') || takeFirst(command);
                default:
                    return takeFirst(command);
            }
        }

        private boolean takeFirst(Command command) {
            command.first = takeDigit();
            return command.first >= 0;
        }

        private boolean takeSecond(Command command) {
            command.second = takeDigit();
            return command.second >= 0;
        }

        private boolean takeLetter(Command command) {
            command.second = takeBetween('a', 'z');
            return command.second >= 0;
        }

        private int takeDigit() {
            int sign = takeBetween('0', '9');
            return sign < 0 ? NONE : sign - '0';
        }

        private boolean takeSign(char sign) {
            return takeBetween(sign, sign) >= 0;
        }

        /** Goes behind the sign that stands here and returns it, if it is one of these. */
        private int takeBetween(char first, char last) {
            if (position < 0 || position >= signs.length()) {
                return NONE;
            }
            char sign = signs.charAt(position);
            if (sign < first || sign > last) {
                return NONE;
            }
            position++;
            return sign;
        }
    }

    /** Why something was refused last; 0 stands for no reason. */
    private static final class Reasons {
        int number;
        int detail;
        int numberBehind;
        int detailBehind;

        void put(int newNumber, int newDetail) {
            number = newNumber;
            detail = newDetail;
            numberBehind = 0;
            detailBehind = 0;
        }

        void putAhead(int newNumber, int newDetail) {
            numberBehind = number;
            detailBehind = detail;
            number = newNumber;
            detail = newDetail;
        }
    }

    /** A driver with its tale; line n of the tale stands at the index n - 1. */
    private static final class Driver {
        int doing;
        int term;
        int patience;
        int waited;
        int vote;
        int lines;
        int known;
        boolean isAboard;
        int timesAsked;
        int timesLed;
        final int[] terms = new int[MOST_LINES];
        final char[] letters = new char[MOST_LINES];

        void begin(int newPatience) {
            doing = FOLLOWS;
            term = 0;
            patience = newPatience;
            waited = 0;
            vote = NONE;
            lines = 0;
            known = 0;
            isAboard = true;
            timesAsked = 0;
            timesLed = 0;
        }

        void copyFrom(Driver other) {
            doing = other.doing;
            term = other.term;
            patience = other.patience;
            waited = other.waited;
            vote = other.vote;
            known = other.known;
            isAboard = other.isAboard;
            timesAsked = other.timesAsked;
            timesLed = other.timesLed;
            copyLines(other, 0);
        }

        /** Takes the lines of another tale behind a line, in place of its own ones. */
        void copyLines(Driver other, int line) {
            for (int i = line; i < other.lines; i++) {
                terms[i] = other.terms[i];
                letters[i] = other.letters[i];
            }
            lines = other.lines;
        }

        void write(int lineTerm, char letter) {
            if (lines < MOST_LINES) {
                terms[lines] = lineTerm;
                letters[lines] = letter;
                lines++;
            }
        }

        boolean isLeading() {
            return isAboard && doing == LEADS;
        }

        boolean isWaiting() {
            return isAboard && doing != LEADS;
        }

        /** Returns whether the patience has run out; one who is washed away does not wait. */
        boolean waitBeat() {
            if (isAboard) {
                waited++;
            }
            return isAboard && waited >= patience;
        }

        int beatsLeft() {
            return patience - waited;
        }

        boolean hasLongerTaleThan(Driver other) {
            int lastTerm = lines > 0 ? terms[lines - 1] : 0;
            int otherLastTerm = other.lines > 0 ? other.terms[other.lines - 1] : 0;
            return lastTerm == otherLastTerm ? lines > other.lines : lastTerm > otherLastTerm;
        }

        int countSameLines(Driver other) {
            int shorter = Math.min(lines, other.lines);
            int same = 0;
            while (same < shorter && terms[same] == other.terms[same] && letters[same] == other.letters[same]) {
                same++;
            }
            return same;
        }

        void takeOver(int newTerm) {
            term = newTerm;
            doing = FOLLOWS;
            vote = NONE;
        }

        /** Returns how many lines were cut off. */
        int followLeader(Driver leader) {
            if (term < leader.term) {
                takeOver(leader.term);
            }
            doing = FOLLOWS;
            waited = 0;
            int same = countSameLines(leader);
            int cutOff = 0;
            if (leader.lines > same) {
                cutOff = lines - same;
                copyLines(leader, same);
            }
            known = Math.max(known, Math.min(leader.known, lines));
            return cutOff;
        }

        /** Lines of earlier terms are agreed only together with a later one of the own term. */
        void agreeOwnLines() {
            for (int i = lines; i > known; i--) {
                if (terms[i - 1] == term) {
                    known = i;
                    return;
                }
            }
        }

        void writeOn(StringBuilder line) {
            line.append(doing == FOLLOWS ? 'f' : doing == ASKS ? 'c' : 'l');
            line.append(term);
            line.append(':');
            for (int i = 0; i < lines; i++) {
                if (i == known) {
                    line.append('|');
                }
                line.append(letters[i]);
                line.append(terms[i]);
            }
            if (lines == known) {
                line.append('|');
            }
        }
    }

    /** All that changes can change; the count of drivers never goes beyond their array. */
    private static final class Raft {
        final Driver[] drivers = new Driver[MOST_DRIVERS];
        // A rope stands here twice, once from each of its two drivers.
        final boolean[] cutRopes = new boolean[MOST_DRIVERS * MOST_DRIVERS];
        int count;
        int beat;
        int asks;
        int leads;
        int shouts;
        int cutLines;
        int sendings;
        int votes;

        Raft() {
            for (int i = 0; i < drivers.length; i++) {
                drivers[i] = new Driver();
            }
        }

        void empty() {
            for (int i = 0; i < cutRopes.length; i++) {
                cutRopes[i] = false;
            }
            count = 0;
            beat = 0;
            asks = 0;
            leads = 0;
            shouts = 0;
            cutLines = 0;
            sendings = 0;
            votes = 0;
        }

        void copyFrom(Raft other) {
            for (int i = 0; i < other.count; i++) {
                drivers[i].copyFrom(other.drivers[i]);
            }
            for (int i = 0; i < cutRopes.length; i++) {
                cutRopes[i] = other.cutRopes[i];
            }
            count = other.count;
            beat = other.beat;
            asks = other.asks;
            leads = other.leads;
            shouts = other.shouts;
            cutLines = other.cutLines;
            sendings = other.sendings;
            votes = other.votes;
        }

        boolean has(int number) {
            return number >= 0 && number < count;
        }

        boolean hasLine(int number, int line) {
            return has(number) && line >= 1 && line <= drivers[number].lines;
        }

        int addDriver(int patience) {
            if (count >= MOST_DRIVERS) {
                return NONE;
            }
            drivers[count].begin(patience);
            count++;
            return count - 1;
        }

        boolean isMajority(int many) {
            return many > count / 2;
        }

        // Ropes

        boolean isRopeCut(int one, int other) {
            return cutRopes[one * MOST_DRIVERS + other];
        }

        void setRope(int one, int other, boolean isCut) {
            cutRopes[one * MOST_DRIVERS + other] = isCut;
            cutRopes[other * MOST_DRIVERS + one] = isCut;
        }

        boolean canReach(int one, int other) {
            return one != other && drivers[one].isAboard && drivers[other].isAboard && !isRopeCut(one, other);
        }

        int countReached(int number) {
            int reached = 0;
            for (int i = 0; i < count; i++) {
                if (canReach(number, i)) {
                    reached++;
                }
            }
            return reached;
        }

        int countCutRopes() {
            int ends = 0;
            for (int i = 0; i < cutRopes.length; i++) {
                if (cutRopes[i]) {
                    ends++;
                }
            }
            return ends / 2;
        }

        // Votes

        int gatherVotes(int asking) {
            Driver asker = drivers[asking];
            beginAsking(asker, asking);
            int got = 1;
            for (int i = 0; i < count; i++) {
                if (canReach(asking, i)) {
                    Driver asked = drivers[i];
                    if (asked.term > asker.term) {
                        asker.takeOver(asked.term);
                        return 0;
                    }
                    got += letVote(asked, asking);
                }
            }
            if (isMajority(got)) {
                asker.doing = LEADS;
                asker.timesLed++;
                leads++;
            }
            return got;
        }

        private void beginAsking(Driver asker, int asking) {
            asker.term++;
            asker.doing = ASKS;
            asker.vote = asking;
            asker.waited = 0;
            asker.timesAsked++;
            asks++;
            votes++;
        }

        /** Returns how many votes the asked driver gives: 1 or 0. */
        private int letVote(Driver asked, int asking) {
            Driver asker = drivers[asking];
            if (asked.term < asker.term) {
                asked.takeOver(asker.term);
            }
            boolean isFree = asked.vote == NONE || asked.vote == asking;
            if (!isFree || asked.hasLongerTaleThan(asker)) {
                return 0;
            }
            asked.vote = asking;
            asked.waited = 0;
            votes++;
            return 1;
        }

        /** Whether another driver would vote if this one asked in its next term. */
        boolean wouldGrantVote(int number, int asking) {
            Driver voter = drivers[number];
            Driver asker = drivers[asking];
            int nextTerm = asker.term + 1;
            if (voter.term > nextTerm || voter.hasLongerTaleThan(asker)) {
                return false;
            }
            return voter.term < nextTerm || voter.vote == NONE || voter.vote == asking;
        }

        int votesToGet(int asking) {
            int nextTerm = drivers[asking].term + 1;
            int toGet = 1;
            for (int i = 0; i < count; i++) {
                if (canReach(asking, i)) {
                    if (drivers[i].term > nextTerm) {
                        return 0;
                    }
                    if (wouldGrantVote(i, asking)) {
                        toGet++;
                    }
                }
            }
            return toGet;
        }

        boolean hasVoteOf(int number, int voting) {
            return drivers[voting].term == drivers[number].term && drivers[voting].vote == number;
        }

        // Sending and beats

        int sendFrom(int sending) {
            Driver leader = drivers[sending];
            sendings++;
            int taking = 1;
            for (int i = 0; i < count; i++) {
                if (canReach(sending, i)) {
                    Driver other = drivers[i];
                    if (other.term > leader.term) {
                        leader.takeOver(other.term);
                        return 0;
                    }
                    cutLines += other.followLeader(leader);
                    taking++;
                }
            }
            if (isMajority(taking)) {
                leader.agreeOwnLines();
            }
            return taking;
        }

        /** Returns how often drivers asked for votes in these beats. */
        int passBeats(int many) {
            int asksBefore = asks;
            for (int i = 0; i < many; i++) {
                for (int j = 0; j < count; j++) {
                    if (drivers[j].isLeading()) {
                        sendFrom(j);
                    } else if (drivers[j].waitBeat()) {
                        gatherVotes(j);
                    }
                }
                beat++;
            }
            return asks - asksBefore;
        }

        // Comparing and counting

        boolean isConflict(int one, int other) {
            int shorter = Math.min(drivers[one].lines, drivers[other].lines);
            return drivers[one].countSameLines(drivers[other]) < shorter;
        }

        int countRankedAhead(int number) {
            int ahead = 0;
            for (int i = 0; i < count; i++) {
                if (i != number && isRankedAhead(i, number)) {
                    ahead++;
                }
            }
            return ahead;
        }

        private boolean isRankedAhead(int one, int other) {
            Driver first = drivers[one];
            Driver second = drivers[other];
            if (first.hasLongerTaleThan(second)) {
                return true;
            }
            if (second.hasLongerTaleThan(first)) {
                return false;
            }
            return first.term == second.term ? one < other : first.term > second.term;
        }

        int countAskingAhead(int number) {
            int ahead = 0;
            int left = drivers[number].beatsLeft();
            for (int i = 0; i < count; i++) {
                int otherLeft = drivers[i].beatsLeft();
                boolean isSooner = otherLeft == left ? i < number : otherLeft < left;
                if (drivers[i].isWaiting() && isSooner) {
                    ahead++;
                }
            }
            return ahead;
        }

        int countAboard() {
            int aboard = 0;
            for (int i = 0; i < count; i++) {
                if (drivers[i].isAboard) {
                    aboard++;
                }
            }
            return aboard;
        }

        int countLines() {
            int lines = 0;
            for (int i = 0; i < count; i++) {
                lines += drivers[i].lines;
            }
            return lines;
        }

        int countKnownLines() {
            int known = 0;
            for (int i = 0; i < count; i++) {
                known += drivers[i].known;
            }
            return known;
        }

        int greatestTerm() {
            int greatest = 0;
            for (int i = 0; i < count; i++) {
                greatest = Math.max(greatest, drivers[i].term);
            }
            return greatest;
        }
    }

    /** The states before the latest changes, in a ring, so that none is made anew. */
    private static final class Past {
        final Raft[] states = new Raft[MOST_UNDOS];
        int next;
        int count;

        Past() {
            for (int i = 0; i < states.length; i++) {
                states[i] = new Raft();
            }
        }

        void remember(Raft state) {
            states[next].copyFrom(state);
            next = (next + 1) % MOST_UNDOS;
            count = Math.min(count + 1, MOST_UNDOS);
        }

        void takeBack(Raft state) {
            next = (next + MOST_UNDOS - 1) % MOST_UNDOS;
            state.copyFrom(states[next]);
            count--;
        }

        void forget() {
            count = 0;
        }
    }
}
