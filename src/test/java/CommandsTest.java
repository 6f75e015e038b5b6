/** Promises 44 to 47: the command text. */
public final class CommandsTest {
    public static void main(String[] args) {
        append();
        everyCommand();
        errorPositions();
        wholeTextOfSixty();
        failures();
        parametersInOrder();
        positionsStay();
        Check.end();
    }

    private static void append() {
        BellParliament x = new BellParliament();
        for (char c : new char[] {0, 9, 10, 31, 127, 128, 233, 65535}) {
            Check.due(44, "code " + (int) c, Check.ARGUMENT, () -> x.append(c));
        }
        for (int i = 0; i < 60; i++) {
            int length = i + 1;
            char c = (char) (i % 2 == 0 ? 32 : 126);
            Check.due(44, "length", length, () -> x.append(c));
        }
        Check.due(44, "full", Check.STATE, () -> x.append('a'));
        Check.due(44, "code before full", Check.ARGUMENT, () -> x.append((char) 31));
        Check.due(45, "no text", Check.ARGUMENT, x::run);
        Check.due(44, "empty again", 1, () -> x.append('a'));
    }

    private static void everyCommand() {
        BellParliament x = new BellParliament();
        Check.due(45, "members", "3", () -> Check.runText(x, "member 05;member 13;member 37"));
        Check.due(45, "enter", "3", () -> Check.runText(x, "enter 0;enter 01;enter 2"));
        Check.due(45, "ward", 3, () -> x.wardOf(2));
        Check.due(45, "weight", 7, () -> x.weightOf(2));
        Check.due(45, "quorum", "1", () -> Check.runText(x, "quorum 2"));
        Check.due(45, "quorum", 2, x::quorum);
        Check.due(45, "bills", "2", () -> Check.runText(x, "bill 0 10-20;bill 02 3-03"));
        Check.due(45, "bill 0", 0x1ffc00L, () -> x.clauses(0));
        Check.due(45, "bill 1", 8L, () -> x.clauses(1));
        Check.due(45, "votes", "3", () -> Check.runText(x, "yes 0 0;no 0 1;yes 0 02"));
        Check.due(45, "for", 12, () -> x.weightFor(0));
        Check.due(45, "against", 3, () -> x.weightAgainst(0));
        Check.due(45, "amendments", "3", () -> Check.runText(x, "amend 0 1 63;amend 0 2 0;support 01 0"));
        Check.due(45, "pending", 63, () -> x.amendedClause(0, 0));
        Check.due(45, "first supporter", 3, () -> x.supportWeight(0, 0));
        Check.due(45, "supporters", 12, () -> x.supportWeight(0, 1));
        Check.due(45, "decides, one of them without success", "2", () -> Check.runText(x, "decide 0;decide 0"));
        Check.due(45, "clauses", 0x1ffc01L, () -> x.clauses(0));
        Check.due(45, "readings, one of them without success", "2", () -> Check.runText(x, "close 0;close 1"));
        Check.due(45, "readings", 1, () -> x.readings(0));
        Check.due(45, "fallen", 1, x::fallenCount);
        Check.due(45, "ride", "1", () -> Check.runText(x, "ride 0 0 30"));
        Check.due(45, "delay", 30, () -> x.delay(0));
        Check.due(45, "leave", "1", () -> Check.runText(x, "leave 01"));
        Check.due(45, "present", 5, x::presentMask);
        Check.due(45, "eight commands", "8",
                () -> Check.runText(x, "no 0 0;no 0 2;no 0 0;no 0 2;no 0 0;no 0 2;no 0 0;no 0 2"));
        Check.due(45, "nothing failed", Check.ELEMENT, x::failedCommand);
        Check.due(45, "no error", Check.ELEMENT, x::errorPosition);
    }

    private static void errorPositions() {
        errorAt(0, "");
        errorAt(0, " ");
        errorAt(0, ";");
        errorAt(0, "x");
        errorAt(0, "Enter 0");
        errorAt(3, "ent");
        errorAt(1, "eNter 0");
        errorAt(5, "enter0");
        errorAt(6, "enter ");
        errorAt(6, "enter  0");
        errorAt(6, "enter x");
        errorAt(6, "enter -1");
        errorAt(7, "enter 0 ");
        errorAt(8, "enter 012");
        errorAt(8, "enter 0;");
        errorAt(8, "enter 0; enter 1");
        errorAt(8, "enter 0;;enter 1");
        errorAt(9, "enter 00;");
        errorAt(13, "enter 0;enter");
        errorAt(9, "enter 0;lnter 1");
        errorAt(8, "member 1");
        errorAt(8, "member 1 1");
        errorAt(9, "member 111");
        errorAt(7, "member x");
        errorAt(4, "leavE 0");
        errorAt(9, "quorum 123");
        errorAt(6, "bill 0");
        errorAt(7, "bill 00");
        errorAt(7, "bill 001 2-3");
        errorAt(8, "bill 0 1");
        errorAt(8, "bill 0 1 2");
        errorAt(9, "bill 0 1-");
        errorAt(9, "bill 0 1-;");
        errorAt(9, "bill 0 123-4");
        errorAt(11, "bill 0 1-234");
        errorAt(5, "yes 12 3");
        errorAt(6, "yes 1 ");
        errorAt(8, "yes 1 234");
        errorAt(4, "no 12 3");
        errorAt(3, "no x 3");
        errorAt(1, "n o");
        errorAt(7, "close 12");
        errorAt(6, "close ");
        errorAt(7, "amend 01 2 3");
        errorAt(9, "amend 0 1");
        errorAt(9, "amend 0 1-3");
        errorAt(13, "amend 0 10 20 1");
        errorAt(9, "support 0 1 2");
        errorAt(10, "support 01");
        errorAt(10, "support 012 3");
        errorAt(13, "support 01 231");
        errorAt(8, "decide 12");
        errorAt(7, "decide ;");
        errorAt(8, "ride 0 12 30");
        errorAt(11, "ride 0 1 300");
        errorAt(7, "ride 00");
        errorAt(60, "enter 0;enter 1;enter 2;enter 3;enter 4;enter 5;enter 0;quor");
    }

    private static void wholeTextOfSixty() {
        BellParliament x = Check.chamber(1, 1, 1);
        x.introduce(0, 0, 1);
        String text = "yes 0 0;yes 0 1;yes 0 2;yes 0 0;yes 0 1;yes 0 02;amend 0 0 0";
        Check.due(45, "sixty characters", 60, text::length);
        Check.due(45, "sixty characters", "7", () -> Check.runText(x, text));
    }

    /** Before the text there are members, so that nothing but the text can be wrong; the state must stay. */
    private static void errorAt(int position, String text) {
        BellParliament x = Check.chamber(1, 1, 1);
        x.leave(0);
        x.leave(1);
        String before = Check.stateOf(x);
        Check.due(46, "none yet", Check.ELEMENT, x::errorPosition);
        Check.due(45, text, Check.ARGUMENT, () -> Check.runText(x, text));
        Check.due(46, text, position, x::errorPosition);
        Check.due(45, text + ": nothing is carried out", before, () -> Check.stateOf(x));
        Check.due(47, text + ": no command failed", Check.ELEMENT, x::failedCommand);
        Check.due(45, text + ": the text is empty", 1, () -> x.append('e'));
    }

    private static void failures() {
        failsAt(0, "enter 9");
        failsAt(0, "member 41");
        failsAt(0, "member 00");
        failsAt(0, "member 08");
        failsAt(0, "quorum 0");
        failsAt(0, "quorum 25");
        failsAt(0, "enter 0");
        failsAt(0, "leave 3");
        failsAt(0, "bill 0 64-65");
        failsAt(0, "bill 0 5-4");
        failsAt(0, "bill 3 4-5");
        failsAt(0, "yes 2 0");
        failsAt(0, "yes 0 3");
        failsAt(0, "no 1 0");
        failsAt(0, "no 0 24");
        failsAt(0, "close 1");
        failsAt(0, "close 9");
        failsAt(0, "amend 0 0 64");
        failsAt(0, "amend 1 0 3");
        failsAt(0, "support 00 0");
        failsAt(0, "support 10 0");
        failsAt(0, "decide 0");
        failsAt(0, "ride 0 0 0");
        failsAt(0, "ride 0 0 31");
        failsAt(0, "ride 3 0 1");
        failsAt(1, "leave 0;leave 0;leave 1");
        failsAt(3, "leave 0;enter 0;leave 1;leave 1");
        failsAt(2, "leave 0;leave 1;close 0");
        failsAt(1, "member 11;enter 5;enter 4");
        failsAt(2, "amend 0 0 3;support 00 1;support 01 0");
        failsAt(1, "yes 0 0;close 2");
    }

    private static void failsAt(int index, String text) {
        BellParliament x = Check.chamber(5, 3, 7, 1);
        x.leave(3);
        x.introduce(0, 0, 9);
        x.introduce(0, 0, 9);
        x.closeReading(1);
        String before = Check.stateOf(x);
        Check.due(47, "none yet", Check.ELEMENT, x::failedCommand);
        Check.due(45, text, Check.STATE, () -> Check.runText(x, text));
        Check.due(47, text, index, x::failedCommand);
        Check.due(46, text + ": no error position", Check.ELEMENT, x::errorPosition);
        Check.due(45, text + ": all or nothing", before, () -> Check.stateOf(x));
        Check.due(45, text + ": the text is empty", 1, () -> x.append('e'));
    }

    private static void parametersInOrder() {
        BellParliament x = Check.chamber(1, 2, 3, 4, 5);
        Check.due(45, "bills", "2", () -> Check.runText(x, "bill 2 1-2;bill 3 5-50"));
        Check.due(45, "last clauses", 46, () -> x.clauseCount(1));
        Check.due(45, "amend and support", "2", () -> Check.runText(x, "amend 1 2 3;amend 1 4 40"));
        Check.due(45, "support", "1", () -> Check.runText(x, "support 11 3"));
        Check.due(45, "first", 3, () -> x.supportWeight(1, 0));
        Check.due(45, "second", 9, () -> x.supportWeight(1, 1));
        Check.due(45, "clause", 40, () -> x.amendedClause(1, 1));
        Check.due(45, "ride", "1", () -> Check.runText(x, "ride 3 1 27"));
        Check.due(45, "delay", 27, () -> x.delay(1));
        Check.due(45, "vote", "2", () -> Check.runText(x, "yes 1 2;no 1 3"));
        Check.due(45, "for", 3, () -> x.weightFor(1));
        Check.due(45, "against", 4, () -> x.weightAgainst(1));
    }

    private static void positionsStay() {
        BellParliament x = Check.chamber(1, 1, 1);
        Check.due(45, "error", Check.ARGUMENT, () -> Check.runText(x, "leave 0;lx"));
        Check.due(46, "error", 9, x::errorPosition);
        Check.due(45, "failure", Check.STATE, () -> Check.runText(x, "leave 0;leave 1;leave 1"));
        Check.due(46, "left by a failure", 9, x::errorPosition);
        Check.due(47, "failure", 2, x::failedCommand);
        Check.due(45, "error", Check.ARGUMENT, () -> Check.runText(x, "leave 0;"));
        Check.due(46, "set anew", 8, x::errorPosition);
        Check.due(47, "left by an error", 2, x::failedCommand);
        Check.due(45, "success", "1", () -> Check.runText(x, "leave 0"));
        Check.due(46, "left by success", 8, x::errorPosition);
        Check.due(47, "left by success", 2, x::failedCommand);
        x.save();
        Check.due(45, "failure", Check.STATE, () -> Check.runText(x, "leave 0"));
        Check.due(47, "set anew", 0, x::failedCommand);
        Check.put(x, "enter 0");
        x.undo();
        x.restore();
        Check.due(46, "not restored", 8, x::errorPosition);
        Check.due(47, "not restored", 0, x::failedCommand);
        Check.due(44, "the text is neither undone nor restored", 8, () -> x.append(';'));
    }
}
