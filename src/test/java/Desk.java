import java.util.NoSuchElementException;

/** A house and short ways to say things to it; it counts the answers that are not due. */
final class Desk {
    interface Call {
        Object answer();
    }

    /** What the document promises nothing behind. */
    private static final int CALLS = 512;
    static int wrong;
    static int asked;
    Levelhouse house = new Levelhouse();
    private final String title;
    private int calls;

    Desk(String title) {
        this.title = title;
    }

    static Object outcome(Call call) {
        try {
            return call.answer();
        } catch (RuntimeException e) {
            return e.getClass().getSimpleName();
        }
    }

    /** Counts calls of the house that is told here; a test that makes too many of them tests nothing. */
    Desk spend(int many) {
        boolean hadRoom = calls <= CALLS;
        calls += many;
        if (hadRoom && calls > CALLS) {
            wrong++;
            System.out.println(title + ": one house is asked more than " + CALLS + " times");
        }
        return this;
    }

    /** Goes on with a new house. */
    Desk anew() {
        house = new Levelhouse();
        calls = 0;
        return this;
    }

    /** An answer that is due: a value, or the simple name of an exception. */
    Desk due(String what, Call call, Object want) {
        spend(1);
        asked++;
        Object got = outcome(call);
        if (!want.equals(got)) {
            wrong++;
            System.out.println(title + ": " + what + " answered " + got + ", due is " + want);
        }
        return this;
    }

    /** Types a text behind that of a session. */
    Desk write(int session, String text) {
        for (int i = 0; i < text.length(); i += 8) {
            String part = text.substring(i, Math.min(i + 8, text.length()));
            char[] c = (part + "~~~~~~~~").toCharArray();
            house.typeMore(session, part.length(), c[0], c[1], c[2], c[3], c[4], c[5], c[6], c[7]);
            spend(1);
        }
        return this;
    }

    /** Types a statement and runs it. */
    Desk say(int session, String text, Object want) {
        write(session, text);
        return due("run(" + session + ") of '" + text + "'", () -> house.run(session), want);
    }

    Desk refused(int session, String text, char letter) {
        say(session, text, "UnsupportedOperationException");
        return due("reason behind '" + text + "'", () -> house.reason(session), letter);
    }

    /** A refusal that leaves all that the sessions are told as it was, but counts, the text and the reason. */
    Desk refusedWhole(int session, String text, char letter) {
        String before = picture();
        refused(session, text, letter);
        return due("what stands behind '" + text + "'", this::picture, before);
    }

    /** A fault that leaves all that the sessions are told as it was, but counts and the text. */
    Desk faultWhole(int session, String text) {
        String before = picture();
        Object reason = outcome(() -> house.reason(session));
        spend(1).fault(session, text).due("reason behind '" + text + "'", () -> house.reason(session), reason);
        return due("what stands behind '" + text + "'", this::picture, before);
    }

    /** What the sessions 0 to 3 are told of themselves and of what they see. */
    String picture() {
        StringBuilder s = new StringBuilder();
        for (int i = 0; i < 4; i++) {
            int own = i;
            s.append(house.label(i)).append(' ').append(house.checksum(i)).append(' ').append(house.isOpen(i)).append(' ')
                    .append(outcome(() -> house.veilShare(own))).append(' ').append(house.columns(i)).append(' ')
                    .append(answer(i)).append('\n');
            spend(5);
        }
        return s.toString();
    }

    /** A fault at the place where a text has its first '@', which is left out, or at its end. */
    Desk fault(int session, String text) {
        int place = text.indexOf('@') < 0 ? text.length() : text.indexOf('@');
        return say(session, text.replace("@", ""), -1 - place);
    }

    /** An answer, rows parted by ';', cells by ' ', nothing as '-'; run tells how many rows it has. */
    Desk get(int session, String text, String want) {
        write(session, text);
        return due(text, () -> {
            int told = house.run(session);
            return (told == house.rows(session) ? "" : "run told " + told + " rows: ") + answer(session);
        }, want).spend(1);
    }

    String answer(int session) {
        StringBuilder s = new StringBuilder();
        int rows = house.rows(session);
        int columns = house.columns(session);
        spend(2 + rows * columns);
        for (int r = 0; r < rows; r++) {
            s.append(r > 0 ? ";" : "");
            for (int c = 0; c < columns; c++) {
                s.append(c > 0 ? " " : "").append(cell(session, r, c));
            }
        }
        return s.toString();
    }

    private String cell(int session, int row, int column) {
        boolean isKnown = house.isKnown(session, row, column);
        try {
            int number = house.cell(session, row, column);
            return isKnown ? "" + number : "told " + number;
        } catch (NoSuchElementException e) {
            return isKnown ? "untold" : "-";
        }
    }

    Desk enter(int session, int label) {
        house.enter(session, label);
        return spend(1);
    }

    Desk begin(int session, Object want) {
        return due("begin(" + session + ")", () -> house.begin(session), want);
    }

    Desk end(int session, Object want) {
        return due("end(" + session + ")", () -> house.end(session), want);
    }

    Desk endRefused(int session, char letter) {
        end(session, "UnsupportedOperationException");
        due("isOpen(" + session + ")", () -> house.isOpen(session), false);
        return due("reason(" + session + ")", () -> house.reason(session), letter);
    }

    Desk giveUp(int session, Object want) {
        return due("giveUp(" + session + ")", () -> house.giveUp(session), want);
    }

    Desk seen(int session, Object want) {
        return due("seen(" + session + ")", () -> house.seen(session), want);
    }

    Desk audit(int session, int label, char what, Object want) {
        return due("audit(" + session + ", " + label + ", " + what + ")", () -> house.audit(session, label, what), want);
    }

    static void close(String name) {
        System.out.println(name + ": " + asked + " answers, " + wrong + " not as due");
        if (wrong != 0) {
            System.exit(1);
        }
    }
}
