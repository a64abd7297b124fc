import java.util.Arrays;

/** What the tests share: answers that are due, rafts to begin with, and texts. */
abstract class Checks {
    static final int NONE = -1;
    static final int BAD = -2;
    static final int REFUSED = -3;
    static final int NOTHING = -4;
    static final int LOW = Integer.MIN_VALUE;
    static final int HIGH = Integer.MAX_VALUE;

    static int wrong = 0;
    static String where = "";

    static void due(String call, long got, long want) {
        due(call, String.valueOf(got), String.valueOf(want));
    }

    static void due(String call, boolean got, boolean want) {
        due(call, String.valueOf(got), String.valueOf(want));
    }

    static void due(String call, String got, String want) {
        if (!got.equals(want)) {
            wrong++;
            System.out.println(where + ": " + call + " answered " + got + ", due is " + want);
        }
    }

    static void dueReason(String call, LogRaft x, int reason, int detail) {
        due(call + ", its reason", x.reason(0, false), reason);
        due(call + ", its detail", x.reason(0, true), detail);
    }

    static void dueRefused(String call, int got, LogRaft x, int reason, int detail) {
        due(call, got, REFUSED);
        dueReason(call, x, reason, detail);
    }

    static void endWith(String good) {
        System.out.println(wrong == 0 ? good : wrong + " answers are wrong");
        if (wrong != 0) {
            System.exit(1);
        }
    }

    // Rafts to begin with

    static LogRaft crew(int... patiences) {
        LogRaft x = new LogRaft();
        for (int i = 0; i < patiences.length; i++) {
            due("driver", x.driver(patiences[i]), i);
        }
        return x;
    }

    /** As many drivers as are told, all of the greatest patience. */
    static LogRaft crewOf(int many) {
        int[] patiences = new int[many];
        Arrays.fill(patiences, 9);
        return crew(patiences);
    }

    /** Three drivers; driver 0 leads the term 1 with the tale a1b1, agreed by all. */
    static LogRaft sailing() {
        LogRaft x = crew(3, 5, 7);
        x.ask(0);
        shoutAll(x, 0, "ab");
        x.send(0);
        x.send(0);
        return x;
    }

    static void shoutAll(LogRaft x, int driver, String letters) {
        for (int i = 0; i < letters.length(); i++) {
            x.shout(driver, letters.charAt(i));
        }
    }

    static void cutFrom(LogRaft x, int one, int... others) {
        for (int other : others) {
            x.cut(one, other);
        }
    }

    static void tieTo(LogRaft x, int one, int... others) {
        for (int other : others) {
            x.tie(one, other);
        }
    }

    // Texts

    static void type(LogRaft x, String text) {
        for (int i = 0; i < text.length(); i++) {
            x.append(text.charAt(i));
        }
    }

    static int readText(LogRaft x, String text) {
        type(x, text);
        return x.read();
    }

    // What can be seen

    static String writtenOf(LogRaft x) {
        StringBuilder line = new StringBuilder();
        for (int i = 0; x.written(i) != NONE; i++) {
            line.append((char) x.written(i));
        }
        return line.toString();
    }

    static String told(LogRaft x, int driver) {
        int length = x.tell(driver);
        String line = writtenOf(x);
        due("length of tell", length, line.length());
        return line;
    }

    static String toldVotes(LogRaft x, int driver) {
        int length = x.tellVotes(driver);
        String line = writtenOf(x);
        due("length of tellVotes", length, line.length());
        return line;
    }

    static String accounts(LogRaft x) {
        int[] accounts = new int[13];
        for (int i = 0; i < accounts.length; i++) {
            accounts[i] = x.account(i);
        }
        return Arrays.toString(accounts);
    }

    /** All the numbers of a driver, as driverOf tells them. */
    static String numbers(LogRaft x, int driver) {
        int[] numbers = new int[11];
        for (int i = 0; i < numbers.length; i++) {
            numbers[i] = x.driverOf(driver, i);
        }
        return Arrays.toString(numbers);
    }
}
