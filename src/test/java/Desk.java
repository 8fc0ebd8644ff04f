import java.util.NoSuchElementException;

/** A house and short ways to say things to it; it counts the answers that are not due. */
final class Desk {
    interface Call {
        Object answer();
    }

    static int wrong;
    static int asked;
    Levelhouse house = new Levelhouse();
    private final String title;

    Desk(String title) {
        this.title = title;
    }

    static Object outcome(Call call) {
        try {
            return call.answer();
        } catch (RuntimeException e) {
            return e.getClass().getSimpleName();
        }
    }

    /** An answer that is due: a value, or the simple name of an exception. */
    Desk due(String what, Call call, Object want) {
        asked++;
        Object got = outcome(call);
        if (!want.equals(got)) {
            wrong++;
            System.out.println(title + ": " + what + " answered " + got + ", due is " + want);
        }
        return this;
    }

    private void typeAll(int session, String text) {
        for (int i = 0; i < text.length(); i += 8) {
            String part = text.substring(i, Math.min(i + 8, text.length()));
            char[] c = (part + "~~~~~~~~").toCharArray();
            house.typeMore(session, part.length(), c[0], c[1], c[2], c[3], c[4], c[5], c[6], c[7]);
        }
    }

    /** Types a statement and runs it. */
    Desk say(int session, String text, Object want) {
        typeAll(session, text);
        return due("run(" + session + ") of '" + text + "'", () -> house.run(session), want);
    }

    Desk refused(int session, String text, char letter) {
        say(session, text, "UnsupportedOperationException");
        return due("reason behind '" + text + "'", () -> house.reason(session), letter);
    }

    /** A fault at the place where a text has its first '@', which is left out, or at its end. */
    Desk fault(int session, String text) {
        int place = text.indexOf('@') < 0 ? text.length() : text.indexOf('@');
        return say(session, text.replace("@", ""), -1 - place);
    }

    /** An answer, rows parted by ';', cells by ' ', nothing as '-'. */
    Desk get(int session, String text, String want) {
        typeAll(session, text);
        return due(text, () -> {
            house.run(session);
            return answer(session);
        }, want);
    }

    String answer(int session) {
        StringBuilder s = new StringBuilder();
        for (int r = 0; r < house.rows(session); r++) {
            s.append(r > 0 ? ";" : "");
            for (int c = 0; c < house.columns(session); c++) {
                s.append(c > 0 ? " " : "");
                s.append(house.isKnown(session, r, c) ? "" + house.cell(session, r, c) : nothing(session, r, c));
            }
        }
        return s.toString();
    }

    private String nothing(int session, int row, int column) {
        try {
            return "told " + house.cell(session, row, column);
        } catch (NoSuchElementException e) {
            return "-";
        }
    }

    Desk enter(int session, int label) {
        house.enter(session, label);
        return this;
    }

    Desk begin(int session, Object want) {
        return due("begin(" + session + ")", () -> house.begin(session), want);
    }

    Desk end(int session, Object want) {
        return due("end(" + session + ")", () -> house.end(session), want);
    }

    Desk endRefused(int session, char letter) {
        end(session, "UnsupportedOperationException");
        due("isOpen(" + session + ")", () -> house.isOpen(session), false);
        return due("reason(" + session + ")", () -> house.reason(session), letter);
    }

    Desk giveUp(int session, Object want) {
        return due("giveUp(" + session + ")", () -> house.giveUp(session), want);
    }

    Desk seen(int session, Object want) {
        return due("seen(" + session + ")", () -> house.seen(session), want);
    }

    Desk audit(int session, int label, char what, Object want) {
        return due("audit(" + session + ", " + label + ", " + what + ")", () -> house.audit(session, label, what), want);
    }

    static void close(String name) {
        System.out.println(name + ": " + asked + " answers, " + wrong + " not as due");
        if (wrong != 0) {
            System.exit(1);
        }
    }
}
