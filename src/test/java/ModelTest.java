import java.util.ArrayDeque;
import java.util.ArrayList;
import java.util.Collections;
import java.util.Comparator;
import java.util.Deque;
import java.util.List;
import java.util.Random;
import java.util.TreeSet;
import java.util.regex.Matcher;
import java.util.regex.Pattern;

/**
 * Long runs of calls, drawn with fixed seeds, on a LogRaft and on a plain second model of the
 * document that is made in another way: copied states, lists, sets of cut ropes, a pattern.
 */
public final class ModelTest {
    private static final int RUNS = 6000;
    // What an object answers after its 512th call is free, so nothing is asked of it then.
    private static final int MOST_CALLS = 512;
    // One step of a run: a text of 60 signs and its reading, at most.
    private static final int MOST_CALLS_OF_A_STEP = 61;
    // All that can be seen, for five numbers of drivers.
    private static final int CALLS_TO_COMPARE_ALL = 13 + 5 * (11 + 2 * 12 + 4 + 5 * 3) + 5;

    private static int wrong = 0;
    private static int callsMade = 0;

    public static void main(String[] arguments) {
        for (int run = 0; run < RUNS && wrong < 20; run++) {
            runOnce(run);
        }
        System.out.println(wrong == 0 ? "the model agrees" : wrong + " answers are not the model's");
        if (wrong != 0) {
            System.exit(1);
        }
    }

    private static void due(int run, int call, String name, Object got, Object want) {
        callsMade++;
        if (!got.equals(want)) {
            wrong++;
            System.out.println("run " + run + " call " + call + ": " + name + " answered " + got + ", due is " + want);
        }
    }

    // Runs

    private static void runOnce(int run) {
        Random random = new Random(run);
        LogRaft x = new LogRaft();
        Model m = new Model();
        callsMade = 0;
        int crew = random.nextInt(6);
        for (int i = 0; i < crew; i++) {
            int patience = 1 + random.nextInt(9);
            due(run, 0, "driver", x.driver(patience), m.driver(patience));
        }
        // Half of the runs end early, at any place, and look at all that can be seen then.
        boolean isLookedAt = run % 2 == 0;
        int most = isLookedAt ? random.nextInt(MOST_CALLS - CALLS_TO_COMPARE_ALL) : MOST_CALLS;
        while (callsMade + MOST_CALLS_OF_A_STEP <= most && wrong < 20) {
            if (random.nextInt(100) < 60) {
                change(run, callsMade, random, x, m);
            } else {
                question(run, callsMade, random, x, m);
            }
        }
        if (isLookedAt) {
            compareAll(run, callsMade, x, m);
        }
        if (callsMade > MOST_CALLS) {
            wrong++;
            System.out.println("run " + run + ": more than " + MOST_CALLS + " calls");
        }
    }

    private static int number(Random random) {
        int kind = random.nextInt(40);
        if (kind == 0) {
            return Integer.MIN_VALUE;
        }
        if (kind == 1) {
            return Integer.MAX_VALUE;
        }
        return kind < 6 ? random.nextInt(9) - 2 : random.nextInt(5);
    }

    private static void change(int run, int call, Random random, LogRaft x, Model m) {
        int one = number(random);
        int other = number(random);
        int often = random.nextInt(100);
        if (often < 12) {
            due(run, call, "ask", x.ask(one), m.ask(one));
        } else if (often < 30) {
            int leader = random.nextInt(5) == 0 ? one : m.leader();
            due(run, call, "send", x.send(leader), m.send(leader));
        } else if (often < 48) {
            int leader = random.nextInt(5) == 0 ? one : m.leader();
            char letter = random.nextInt(20) == 0 ? (char) random.nextInt(200) : (char) ('a' + random.nextInt(3));
            due(run, call, "shout", x.shout(leader, letter), m.shout(leader, letter));
        } else if (often < 53) {
            due(run, call, "wash", x.wash(one), m.wash(one));
        } else if (often < 58) {
            due(run, call, "back", x.back(one), m.back(one));
        } else if (often < 65) {
            due(run, call, "cut", x.cut(one, other), m.cut(one, other));
        } else if (often < 71) {
            due(run, call, "tie", x.tie(one, other), m.tie(one, other));
        } else if (often < 80) {
            int many = random.nextInt(8) == 0 ? random.nextInt(24) - 1 : 1 + random.nextInt(3);
            due(run, call, "beats", x.beats(many), m.beats(many));
        } else if (often < 82) {
            int patience = random.nextInt(12) - 1;
            due(run, call, "driver", x.driver(patience), m.driver(patience));
        } else if (often < 90) {
            for (char c : text(random).toCharArray()) {
                due(run, call, "append", x.append(c), m.append(c));
            }
            due(run, call, "read", x.read(), m.read());
        } else if (often < 95) {
            due(run, call, "undo", x.undo(), m.undo());
        } else if (often < 97) {
            due(run, call, "save", x.save(), m.save());
        } else if (often < 98) {
            due(run, call, "restore", x.restore(), m.restore());
        } else if (often == 98) {
            char sign = (char) random.nextInt(140);
            due(run, call, "append", x.append(sign), m.append(sign));
        } else if (random.nextInt(6) == 0) {
            due(run, call, "clear", x.clear(), m.clear());
        }
    }

    private static String text(Random random) {
        StringBuilder text = new StringBuilder();
        int commands = 1 + random.nextInt(5);
        for (int i = 0; i < commands; i++) {
            if (i > 0) {
                text.append(';');
            }
            text.append(command(random));
        }
        if (random.nextInt(3) == 0 && text.length() > 0) {
            int at = random.nextInt(text.length());
            String signs = "abcdefghiknorstuvwz 0123;;;";
            char sign = signs.charAt(random.nextInt(signs.length()));
            switch (random.nextInt(4)) {
                case 0:
                    text.setCharAt(at, sign);
                    break;
                case 1:
                    text.deleteCharAt(at);
                    break;
                case 2:
                    text.insert(at, sign);
                    break;
                default:
                    text.setLength(at);
                    break;
            }
        }
        return text.toString();
    }

    private static String command(Random random) {
        int one = random.nextInt(random.nextInt(10) == 0 ? 10 : 4);
        int other = random.nextInt(5);
        switch (random.nextInt(12)) {
            case 0:
                return "driver " + one;
            case 1:
                return "ask " + one;
            case 2:
            case 3:
                return "send " + one;
            case 4:
            case 5:
                return "shout " + one + " " + (char) ('a' + random.nextInt(3));
            case 6:
                return "wash " + one;
            case 7:
                return "back " + one;
            case 8:
                return "cut " + one + other;
            case 9:
                return "tie " + one + other;
            case 10:
                return "beat";
            default:
                return "beat " + (one + 1) % 10;
        }
    }

    private static void question(int run, int call, Random random, LogRaft x, Model m) {
        int one = number(random);
        int other = number(random);
        int line = random.nextInt(16) - 1;
        switch (random.nextInt(26)) {
            case 0:
                due(run, call, "fault", x.fault(), m.fault);
                break;
            case 1:
                int depth = random.nextInt(4) - 1;
                boolean isDetail = random.nextBoolean();
                due(run, call, "reason", x.reason(depth, isDetail), m.reason(depth, isDetail));
                break;
            case 2:
                int what = random.nextInt(14) - 1;
                due(run, call, "driverOf " + what, x.driverOf(one, what), m.driverOf(one, what));
                break;
            case 3:
                boolean isLetter = random.nextBoolean();
                due(run, call, "lineOf", x.lineOf(one, line, isLetter), m.lineOf(one, line, isLetter));
                break;
            case 4:
                due(run, call, "leader", x.leader(), m.leader());
                break;
            case 5:
                due(run, call, "reaches", x.reaches(one, other), m.has(one) && m.has(other) && m.now.reach(one, other));
                break;
            case 6:
                due(run, call, "longer", x.longer(one, other), m.longer(one, other));
                break;
            case 7:
                due(run, call, "wouldVote", x.wouldVote(one, other), m.wouldVote(one, other));
                break;
            case 8:
                due(run, call, "couldLead", x.couldLead(one), m.couldLead(one));
                break;
            case 9:
                due(run, call, "couldLeadAgain", x.couldLeadAgain(one), m.couldLead(one));
                break;
            case 10:
                due(run, call, "alike", x.alike(one, other), m.alike(one, other));
                break;
            case 11:
                due(run, call, "holders", x.holders(one, line), m.holders(one, line));
                break;
            case 12:
                due(run, call, "agreed", x.agreed(), m.agreed());
                break;
            case 13:
                due(run, call, "agreedAgain", x.agreedAgain(), m.agreed());
                break;
            case 14:
                due(run, call, "conflicts", x.conflicts(), m.conflicts());
                break;
            case 15:
                due(run, call, "isSafe", x.isSafe(), 1);
                break;
            case 16:
                due(run, call, "ranked", x.ranked(one), m.ranked(one));
                break;
            case 17:
                due(run, call, "oldest", x.oldest(one), m.oldest(one));
                break;
            case 18:
                due(run, call, "quietBeats", x.quietBeats(), m.quietBeats());
                break;
            case 19:
                due(run, call, "tell", x.tell(one), m.tell(one));
                break;
            case 20:
                due(run, call, "tellVotes", x.tellVotes(one), m.tellVotes(one));
                break;
            case 21:
                int index = random.nextInt(40) - 1;
                due(run, call, "written", x.written(index), m.written(index));
                break;
            case 22:
                due(run, call, "meanTale", x.meanTale(), m.meanTale());
                break;
            case 23:
                due(run, call, "agreedShare", x.agreedShare(), m.agreedShare());
                break;
            default:
                int account = random.nextInt(15) - 1;
                due(run, call, "account " + account, x.account(account), m.account(account));
                break;
        }
    }

    /** Looks at all that can be seen. */
    private static void compareAll(int run, int call, LogRaft x, Model m) {
        for (int what = 0; what < 13; what++) {
            due(run, call, "account " + what, x.account(what), m.account(what));
        }
        for (int i = 0; i < 5; i++) {
            for (int what = 0; what < 11; what++) {
                due(run, call, "driverOf " + i + " " + what, x.driverOf(i, what), m.driverOf(i, what));
            }
            for (int line = 1; line <= 12; line++) {
                due(run, call, "lineOf", x.lineOf(i, line, true), m.lineOf(i, line, true));
                due(run, call, "lineOf", x.lineOf(i, line, false), m.lineOf(i, line, false));
            }
            due(run, call, "couldLead", x.couldLead(i), m.couldLead(i));
            due(run, call, "couldLeadAgain", x.couldLeadAgain(i), m.couldLead(i));
            due(run, call, "ranked", x.ranked(i), m.ranked(i));
            due(run, call, "oldest", x.oldest(i), m.oldest(i));
            for (int j = 0; j < 5; j++) {
                due(run, call, "wouldVote", x.wouldVote(i, j), m.wouldVote(i, j));
                due(run, call, "alike", x.alike(i, j), m.alike(i, j));
                due(run, call, "longer", x.longer(i, j), m.longer(i, j));
            }
        }
        due(run, call, "leader", x.leader(), m.leader());
        due(run, call, "quietBeats", x.quietBeats(), m.quietBeats());
        due(run, call, "conflicts", x.conflicts(), m.conflicts());
        due(run, call, "agreed", x.agreed(), m.agreed());
        due(run, call, "isSafe", x.isSafe(), 1);
    }

    // The model

    private static final class Line {
        final int term;
        final char letter;

        Line(int term, char letter) {
            this.term = term;
            this.letter = letter;
        }

        boolean same(Line other) {
            return term == other.term && letter == other.letter;
        }
    }

    private static final class D {
        int number;
        int role;
        int term;
        int patience;
        int waited;
        int vote = -1;
        int agreed;
        boolean aboard = true;
        int asked;
        int led;
        List<Line> tale = new ArrayList<>();

        D copy() {
            D d = new D();
            d.number = number;
            d.role = role;
            d.term = term;
            d.patience = patience;
            d.waited = waited;
            d.vote = vote;
            d.agreed = agreed;
            d.aboard = aboard;
            d.asked = asked;
            d.led = led;
            d.tale = new ArrayList<>(tale);
            return d;
        }

        long rank() {
            return tale.isEmpty() ? 0 : tale.get(tale.size() - 1).term * 100L + tale.size();
        }

        void enter(int newTerm) {
            term = newTerm;
            role = 0;
            vote = -1;
        }
    }

    private static final class World {
        List<D> all = new ArrayList<>();
        TreeSet<String> cuts = new TreeSet<>();
        int[] accounts = new int[11];

        World copy() {
            World w = new World();
            for (D d : all) {
                w.all.add(d.copy());
            }
            w.cuts.addAll(cuts);
            w.accounts = accounts.clone();
            return w;
        }

        static String rope(int one, int other) {
            return one < other ? one + "-" + other : other + "-" + one;
        }

        boolean reach(int one, int other) {
            return one != other && all.get(one).aboard && all.get(other).aboard && !cuts.contains(rope(one, other));
        }

        List<D> reached(int one) {
            List<D> list = new ArrayList<>();
            for (D d : all) {
                if (reach(one, d.number)) {
                    list.add(d);
                }
            }
            return list;
        }

        int aboard() {
            return (int) all.stream().filter(d -> d.aboard).count();
        }

        int ask(int number) {
            D me = all.get(number);
            me.term += 1;
            me.role = 1;
            me.vote = number;
            me.waited = 0;
            me.asked += 1;
            accounts[5] += 1;
            accounts[10] += 1;
            for (D d : reached(number)) {
                if (d.term > me.term) {
                    me.enter(d.term);
                    return 0;
                }
                if (me.term > d.term) {
                    d.enter(me.term);
                }
                if (d.vote == -1 && d.rank() <= me.rank()) {
                    d.vote = number;
                    d.waited = 0;
                    accounts[10] += 1;
                }
            }
            int votes = voters(number).size();
            if (2 * votes > all.size()) {
                me.role = 2;
                me.led += 1;
                accounts[6] += 1;
            }
            return votes;
        }

        List<Integer> voters(int number) {
            List<Integer> list = new ArrayList<>();
            for (D d : all) {
                if (d.vote == number && d.term == all.get(number).term) {
                    list.add(d.number);
                }
            }
            return list;
        }

        static int alike(D one, D other) {
            int line = 0;
            for (; line < one.tale.size() && line < other.tale.size(); line++) {
                if (!one.tale.get(line).same(other.tale.get(line))) {
                    break;
                }
            }
            return line;
        }

        int send(int number) {
            D me = all.get(number);
            accounts[9] += 1;
            List<D> others = reached(number);
            for (D d : others) {
                if (d.term > me.term) {
                    me.enter(d.term);
                    return 0;
                }
                if (d.term != me.term) {
                    d.enter(me.term);
                }
                d.role = 0;
                d.waited = 0;
                int same = alike(me, d);
                if (same < me.tale.size()) {
                    while (d.tale.size() > same) {
                        d.tale.remove(d.tale.size() - 1);
                        accounts[8] += 1;
                    }
                    d.tale.addAll(me.tale.subList(same, me.tale.size()));
                }
                int known = me.agreed > d.tale.size() ? d.tale.size() : me.agreed;
                d.agreed = known > d.agreed ? known : d.agreed;
            }
            others.add(me);
            for (int line = 1; line <= me.tale.size(); line++) {
                int having = 0;
                for (D d : others) {
                    having += alike(d, me) >= line ? 1 : 0;
                }
                if (me.tale.get(line - 1).term == me.term && 2 * having > all.size() && line > me.agreed) {
                    me.agreed = line;
                }
            }
            return others.size();
        }

        int beat() {
            int before = accounts[5];
            for (D d : all) {
                if (d.aboard && d.role == 2) {
                    send(d.number);
                } else if (d.aboard) {
                    d.waited += 1;
                    if (d.waited == d.patience) {
                        ask(d.number);
                    }
                }
            }
            accounts[0] += 1;
            return accounts[5] - before;
        }
    }

    private static final class Model {
        static final Pattern TEXT = pattern();

        World now = new World();
        World saved = null;
        Deque<World> past = new ArrayDeque<>();
        String input = "";
        String line = "";
        int fault = -4;
        List<int[]> reasons = new ArrayList<>();

        static Pattern pattern() {
            String command = "(?:(?:driver|ask|send|wash|back) [0-9]|shout [0-9] [a-z]|(?:cut|tie) [0-9][0-9]|beat(?: [0-9])?)";
            return Pattern.compile(command + "(?:;" + command + ")*");
        }

        boolean has(int number) {
            return 0 <= number && number < now.all.size();
        }

        int refuse(int reason, int detail) {
            reasons = new ArrayList<>(Collections.singletonList(new int[] {reason, detail}));
            return -3;
        }

        int keep(World before, int code) {
            if (code >= 0) {
                past.addLast(before);
                if (past.size() > 8) {
                    past.removeFirst();
                }
            }
            return code;
        }

        int clear() {
            int many = now.all.size();
            now = new World();
            past.clear();
            return many;
        }

        int append(char c) {
            if (c < ' ' || c > '~' || input.length() == 60) {
                return -2;
            }
            input += c;
            return input.length();
        }

        int driver(int patience) {
            return keep(now.copy(), doDriver(patience));
        }

        int doDriver(int patience) {
            if (patience < 1 || patience > 9) {
                return -2;
            }
            if (now.accounts[5] != 0) {
                return refuse(7, now.accounts[5]);
            }
            if (now.all.size() == 5) {
                return refuse(1, 5);
            }
            D d = new D();
            d.number = now.all.size();
            d.patience = patience;
            now.all.add(d);
            return d.number;
        }

        int ask(int number) {
            return keep(now.copy(), doAsk(number));
        }

        int doAsk(int number) {
            if (!has(number)) {
                return -1;
            }
            D d = now.all.get(number);
            return !d.aboard ? refuse(2, number) : d.role == 2 ? refuse(3, d.term) : now.ask(number);
        }

        int send(int number) {
            return keep(now.copy(), doSend(number));
        }

        int doSend(int number) {
            if (!has(number)) {
                return -1;
            }
            D d = now.all.get(number);
            return !d.aboard ? refuse(2, number) : d.role != 2 ? refuse(4, d.term) : now.send(number);
        }

        int shout(int number, char letter) {
            return keep(now.copy(), doShout(number, letter));
        }

        int doShout(int number, char letter) {
            if (!has(number)) {
                return -1;
            }
            if ("abcdefghijklmnopqrstuvwxyz".indexOf(letter) < 0) {
                return -2;
            }
            D d = now.all.get(number);
            if (!d.aboard) {
                return refuse(2, number);
            }
            if (d.role != 2) {
                return refuse(4, d.term);
            }
            if (d.tale.size() == 12) {
                return refuse(1, 12);
            }
            d.tale.add(new Line(d.term, letter));
            now.accounts[7] += 1;
            return d.tale.size();
        }

        int wash(int number) {
            return keep(now.copy(), doWash(number));
        }

        int doWash(int number) {
            if (!has(number)) {
                return -1;
            }
            D d = now.all.get(number);
            if (!d.aboard) {
                return refuse(2, number);
            }
            d.aboard = false;
            d.role = 0;
            return now.aboard();
        }

        int back(int number) {
            return keep(now.copy(), doBack(number));
        }

        int doBack(int number) {
            if (!has(number)) {
                return -1;
            }
            D d = now.all.get(number);
            if (d.aboard) {
                return refuse(6, number);
            }
            d.aboard = true;
            d.waited = 0;
            return now.aboard();
        }

        int cut(int one, int other) {
            return keep(now.copy(), doCut(one, other));
        }

        int doCut(int one, int other) {
            if (!has(one) || !has(other)) {
                return -1;
            }
            if (one == other) {
                return refuse(5, one);
            }
            return now.cuts.add(World.rope(one, other)) ? now.cuts.size() : refuse(6, one > other ? one : other);
        }

        int tie(int one, int other) {
            return keep(now.copy(), doTie(one, other));
        }

        int doTie(int one, int other) {
            if (!has(one) || !has(other)) {
                return -1;
            }
            if (one == other) {
                return refuse(5, one);
            }
            return now.cuts.remove(World.rope(one, other)) ? now.cuts.size() : refuse(6, one > other ? one : other);
        }

        int beats(int many) {
            return keep(now.copy(), doBeats(many));
        }

        int doBeats(int many) {
            if (many < 1 || many > 20) {
                return -2;
            }
            int asked = 0;
            for (int i = 0; i < many; i++) {
                asked += now.beat();
            }
            return asked;
        }

        int read() {
            String text = input;
            input = "";
            if (!TEXT.matcher(text).matches()) {
                fault = faultOf(text);
                return -2;
            }
            World before = now.copy();
            String[] commands = text.split(";");
            for (int i = 0; i < commands.length; i++) {
                int code = doCommand(commands[i]);
                if (code < 0) {
                    now = before;
                    if (code == -3) {
                        reasons.add(0, new int[] {8, i});
                        return -3;
                    }
                    return refuse(9, i);
                }
            }
            return keep(before, commands.length);
        }

        /** The longest beginning that some text goes on from ends where the fault is. */
        static int faultOf(String text) {
            for (int length = 1; length <= text.length(); length++) {
                Matcher matcher = TEXT.matcher(text.substring(0, length));
                if (!matcher.matches() && !matcher.hitEnd()) {
                    return length - 1;
                }
            }
            return text.length();
        }

        int doCommand(String command) {
            String[] words = command.split(" ");
            int one = words.length > 1 ? words[1].charAt(0) - '0' : 1;
            int other = words.length > 1 && words[1].length() > 1 ? words[1].charAt(1) - '0' : 0;
            switch (words[0]) {
                case "driver":
                    return doDriver(one);
                case "ask":
                    return doAsk(one);
                case "send":
                    return doSend(one);
                case "shout":
                    return doShout(one, words[2].charAt(0));
                case "wash":
                    return doWash(one);
                case "back":
                    return doBack(one);
                case "cut":
                    return doCut(one, other);
                case "tie":
                    return doTie(one, other);
                default:
                    return doBeats(one);
            }
        }

        int reason(int depth, boolean isDetail) {
            if (depth != 0 && depth != 1) {
                return -2;
            }
            return depth < reasons.size() ? reasons.get(depth)[isDetail ? 1 : 0] : -4;
        }

        int driverOf(int number, int what) {
            if (!has(number)) {
                return -1;
            }
            if (what < 0 || what > 10) {
                return -2;
            }
            D d = now.all.get(number);
            int[] answers = {d.role, d.term, d.patience, d.waited, d.vote, d.tale.size(), d.agreed,
                d.aboard ? 1 : 0, now.reached(number).size(), d.asked, d.led};
            return answers[what];
        }

        int lineOf(int number, int line, boolean isLetter) {
            if (!has(number) || line < 1 || line > now.all.get(number).tale.size()) {
                return -1;
            }
            Line found = now.all.get(number).tale.get(line - 1);
            return isLetter ? found.letter : found.term;
        }

        int leader() {
            return now.all.stream().filter(d -> d.aboard && d.role == 2)
                .max(Comparator.comparing(d -> d.term)).map(d -> d.number).orElse(-4);
        }

        int longer(int one, int other) {
            return has(one) && has(other) ? Long.signum(now.all.get(one).rank() - now.all.get(other).rank()) : -4;
        }

        /** By doing it in a world where the two reach one another and nobody else is aboard. */
        boolean wouldVote(int number, int asking) {
            if (!has(number) || !has(asking)) {
                return false;
            }
            World w = now.copy();
            w.cuts.clear();
            for (D d : w.all) {
                d.aboard = d.number == number || d.number == asking;
            }
            w.ask(asking);
            return number == asking || w.all.get(asking).vote == asking && w.voters(asking).contains(number);
        }

        int couldLead(int number) {
            if (!has(number)) {
                return -1;
            }
            D d = now.all.get(number);
            return !d.aboard || d.role == 2 ? -4 : now.copy().ask(number);
        }

        int alike(int one, int other) {
            return has(one) && has(other) ? World.alike(now.all.get(one), now.all.get(other)) : -1;
        }

        int holders(int number, int line) {
            if (lineOf(number, line, true) == -1) {
                return -1;
            }
            return (int) now.all.stream().filter(d -> World.alike(d, now.all.get(number)) >= line).count();
        }

        int agreed() {
            return now.all.stream().mapToInt(d -> d.agreed).max().orElse(0);
        }

        int conflicts() {
            int pairs = 0;
            for (D one : now.all) {
                for (D other : now.all) {
                    int same = World.alike(one, other);
                    pairs += one.number < other.number && same < one.tale.size() && same < other.tale.size() ? 1 : 0;
                }
            }
            return pairs;
        }

        int ranked(int place) {
            List<D> list = new ArrayList<>(now.all);
            list.sort(Comparator.comparing((D d) -> -d.rank()).thenComparing(d -> -d.term).thenComparing(d -> d.number));
            return place >= 0 && place < list.size() ? list.get(place).number : -1;
        }

        int oldest(int place) {
            List<D> list = new ArrayList<>(now.all);
            list.removeIf(d -> !d.aboard || d.role == 2);
            list.sort(Comparator.comparing((D d) -> d.patience - d.waited).thenComparing(d -> d.number));
            return place >= 0 && place < list.size() ? list.get(place).number : -1;
        }

        int quietBeats() {
            World w = now.copy();
            for (int beat = 1; beat <= 9; beat++) {
                if (w.beat() != 0) {
                    return beat;
                }
            }
            return -4;
        }

        int tell(int number) {
            if (!has(number)) {
                return -1;
            }
            D d = now.all.get(number);
            List<String> parts = new ArrayList<>();
            for (Line each : d.tale) {
                parts.add(each.letter + String.valueOf(each.term));
            }
            parts.add(d.agreed, "|");
            line = "fcl".substring(d.role, d.role + 1) + d.term + ":" + String.join("", parts);
            return line.length();
        }

        int tellVotes(int number) {
            if (!has(number)) {
                return -1;
            }
            String voters = now.voters(number).toString().replaceAll("[^0-9,]", "");
            line = voters.isEmpty() ? "-" : voters;
            return line.length();
        }

        int written(int index) {
            return index >= 0 && index < line.length() ? line.charAt(index) : -1;
        }

        int lines() {
            return now.all.stream().mapToInt(d -> d.tale.size()).sum();
        }

        float meanTale() {
            return now.all.isEmpty() ? 0.0f : (float) lines() / (float) now.all.size();
        }

        double agreedShare() {
            int known = now.all.stream().mapToInt(d -> d.agreed).sum();
            return lines() == 0 ? 0.0 : (double) known / (double) lines();
        }

        int account(int what) {
            switch (what) {
                case 1:
                    return now.all.size();
                case 2:
                    return now.aboard();
                case 3:
                    return now.cuts.size();
                case 4:
                    return now.all.stream().mapToInt(d -> d.term).max().orElse(0);
                case 11:
                    return input.length();
                case 12:
                    return past.size();
                default:
                    return what < 0 || what > 12 ? -2 : now.accounts[what];
            }
        }

        int undo() {
            if (past.isEmpty()) {
                return -4;
            }
            now = past.removeLast();
            return past.size();
        }

        int save() {
            saved = now.copy();
            return now.accounts[0];
        }

        int restore() {
            if (saved == null) {
                return -4;
            }
            now = saved.copy();
            past.clear();
            return now.accounts[0];
        }
    }
}
