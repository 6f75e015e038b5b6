/** Boundaries of promises 44 to 47, and of what the terms say of commands. */
final class CommandBoundaries {
    /** One text of every command, with the longest numbers where a number can have one digit or two. */
    private static final String[] TEXTS = {
        "member 37", "enter 0", "enter 23", "leave 0", "leave 23", "quorum 1", "quorum 24", "bill 0 0-9",
        "bill 00 10-63", "yes 7 0", "yes 0 23", "no 7 0", "no 0 23", "close 0", "amend 0 0 0", "amend 0 10 63",
        "support 00 0", "support 03 23", "decide 7", "ride 0 0 1", "ride 10 7 30", "enter 1;leave 1"};

    private CommandBoundaries() {
    }

    static void test() {
        append();
        grammar();
        errorPositions();
        run();
        runRefused();
        positions();
    }

    private static BellParliament withText(String text) {
        BellParliament x = Boundaries.busy();
        x.run();
        Check.put(x, text);
        return x;
    }

    private static String spaces(int count) {
        return " ".repeat(count);
    }

    private static void append() {
        Boundaries.says(Boundaries.TERMS, "The command text is a buffer of at most 60 characters.", () -> {
            BellParliament x = new BellParliament();
            Check.put(x, spaces(60));
            Boundaries.due("one more", Check.STATE, () -> x.append(' '));
            Boundaries.due("all of them are run", Check.ARGUMENT, x::run);
            Check.put(x, spaces(59));
            Boundaries.due("sixty again", 60, () -> x.append(' '));
        });
        Boundaries.says(44, "Returns the length of the command text after the call.", () -> {
            BellParliament x = new BellParliament();
            for (int i = 1; i <= 60; i++) {
                int length = i;
                Boundaries.due("character " + i, length, () -> x.append('e'));
            }
        });
        Boundaries.says(44, "Throws `IllegalArgumentException` if the code of the character is not from 32 to 126",
                () -> {
            BellParliament fresh = new BellParliament();
            for (int code = 0; code < 65536; code++) {
                BellParliament x = fresh;
                char character = (char) code;
                if (code < 32 || code > 126) {
                    Boundaries.due("code " + code, Check.ARGUMENT, () -> x.append(character));
                }
                if (code % 500 == 0) {
                    fresh = new BellParliament();
                }
            }
            for (int code : new int[] {0, 31, 127, 128, 255, 256 + 'e', 65535}) {
                char character = (char) code;
                Boundaries.refused("code " + code, Check.ARGUMENT, Boundaries::busy, x -> x.append(character));
            }
            for (int code = 32; code <= 126; code++) {
                char character = (char) code;
                Boundaries.due("code " + code, 1, () -> new BellParliament().append(character));
            }
        });
        Boundaries.says(44, "Throws `IllegalStateException` if the command text has 60 characters", () -> {
            Boundaries.refused("sixty", Check.STATE, () -> withText(spaces(60)), x -> x.append(' '));
            Boundaries.refused("sixty good ones", Check.STATE, () -> withText(
                    "quorum 1;quorum 1;quorum 1;quorum 1;quorum 1;quorum 1;quorum"), x -> x.append(' '));
            Boundaries.due("59", 60, () -> withText(spaces(59)).append(' '));
        });
    }

    private static void grammar() {
        Boundaries.says(Boundaries.TERMS, "number = digit [ digit ]", () -> {
            for (int number = 1; number <= 24; number++) {
                int quorum = number;
                Boundaries.due("quorum " + number, quorum, () -> afterRun(withText("quorum " + quorum)).quorum());
            }
            for (int number = 1; number <= 9; number++) {
                int quorum = number;
                Boundaries.due("quorum 0" + number, quorum, () -> afterRun(withText("quorum 0" + quorum)).quorum());
            }
            Boundaries.due("00", Check.STATE, () -> withText("quorum 00").run());
            Boundaries.due("99", Check.STATE, () -> withText("quorum 99").run());
            Boundaries.due("100", Check.ARGUMENT, () -> withText("quorum 100").run());
            Boundaries.due("/, just below 0", Check.ARGUMENT, () -> withText("quorum /").run());
            Boundaries.due(":, just above 9", Check.ARGUMENT, () -> withText("quorum :").run());
            Boundaries.due("1/", Check.ARGUMENT, () -> withText("quorum 1/").run());
            Boundaries.due("1:", Check.ARGUMENT, () -> withText("quorum 1:").run());
        });
        Boundaries.says(Boundaries.TERMS, "where braces mean zero or more repetitions and brackets an optional part",
                () -> {
            Boundaries.due("no repetition", 1, () -> withText("leave 0").run());
            Boundaries.due("one repetition", 2, () -> withText("leave 0;leave 1").run());
            Boundaries.due("no command", Check.ARGUMENT, () -> withText("").run());
            Boundaries.due("no command behind the semicolon", Check.ARGUMENT, () -> withText("leave 0;").run());
            Boundaries.due("the most", 8,
                    () -> withText("no 0 00;no 0 01;no 0 02;no 0 0;no 0 1;no 0 02;no 0 0;no 0 01").run());
            Boundaries.due("one digit", 4, () -> afterRun(withText("quorum 4")).quorum());
            Boundaries.due("two digits", 24, () -> afterRun(withText("quorum 24")).quorum());
            Boundaries.due("two digits, the first a zero", 4, () -> afterRun(withText("quorum 04")).quorum());
            Boundaries.due("three digits", Check.ARGUMENT, () -> withText("quorum 004").run());
            Boundaries.due("no digit", Check.ARGUMENT, () -> withText("quorum ").run());
        });
        Boundaries.says(Boundaries.TERMS, "The commands call addMember(), enter(), leave(), setQuorum(), introduce(), "
                + "voteFor(), voteAgainst(), closeReading(), propose(), support(), decide() and ride(), with the numbers "
                + "of the command as parameters in their order.", () -> {
            calls("member 27", x -> x.addMember(2, 7));
            calls("enter 3", x -> x.enter(3));
            calls("leave 02", x -> x.leave(2));
            calls("quorum 24", x -> x.setQuorum(24));
            calls("bill 1 2-63", x -> x.introduce(1, 2, 63));
            calls("bill 2 01-1", x -> x.introduce(2, 1, 1));
            calls("yes 0 2", x -> x.voteFor(0, 2));
            calls("yes 0 01", x -> x.voteFor(0, 1));
            calls("no 0 2", x -> x.voteAgainst(0, 2));
            calls("no 0 00", x -> x.voteAgainst(0, 0));
            calls("decide 0;decide 0;close 0", x -> x.decide(0), x -> x.decide(0), x -> x.closeReading(0));
            calls("amend 0 1 63", x -> x.propose(0, 1, 63));
            calls("amend 0 02 1", x -> x.propose(0, 2, 1));
            calls("support 01 0", x -> x.support(0, 1, 0));
            calls("support 00 02", x -> x.support(0, 0, 2));
            calls("decide 0", x -> x.decide(0));
            calls("ride 2 0 30", x -> x.ride(2, 0, 30));
            calls("ride 01 0 7", x -> x.ride(1, 0, 7));
        });
        Boundaries.says(Boundaries.TERMS,
                "A reading without success and an amendment that is not accepted do not fail.", () -> {
            BellParliament x = withText("decide 0;decide 0;no 0 2;close 0");
            Boundaries.due("both in a run", 4, x::run);
            Boundaries.due("accepted by the run", 1, x::acceptedCount);
            Boundaries.due("fallen by the run", 2, x::fallenCount);
            Boundaries.due("the failed command is an older one", 1, x::failedCommand);
        });
    }

    private static BellParliament afterRun(BellParliament x) {
        x.run();
        return x;
    }

    private static void calls(String text, Boundaries.Use... uses) {
        BellParliament byCalls = withText("");
        for (Boundaries.Use use : uses) {
            use.of(byCalls);
        }
        Boundaries.due(text, Boundaries.stateOf(byCalls), () -> Boundaries.stateOf(afterRun(withText(text))));
        Boundaries.due(text + ", how many", uses.length, () -> withText(text).run());
    }

    private static void errorPositions() {
        Boundaries.says(Boundaries.TERMS,
                "The error position of a text is the index of the first character that cannot continue any command text.",
                () -> {
            for (String text : TEXTS) {
                for (int index = 0; index < text.length(); index++) {
                    for (char character = 32; character <= 126; character++) {
                        likeTheModel(text.substring(0, index) + character + text.substring(index + 1));
                    }
                }
                for (char character = 32; character <= 126; character++) {
                    likeTheModel(text + character);
                }
            }
            likeTheModel("quorum 1;quorum 1;quorum 1;quorum 1;quorum 1;quorum 1;quorux");
            likeTheModel(spaces(60));
        });
        Boundaries.says(Boundaries.TERMS, "If every character can, the error position is the length of the text.", () -> {
            Boundaries.due("no character", 0, () -> errorOf(""));
            for (String text : TEXTS) {
                for (int length = 0; length < text.length(); length++) {
                    likeTheModel(text.substring(0, length));
                }
                Boundaries.due(text + ";", text.length() + 1, () -> errorOf(text + ";"));
                Boundaries.due("unfinished " + text, text.indexOf(' '),
                        () -> errorOf(text.substring(0, text.indexOf(' '))));
            }
            Boundaries.due("sixty characters", 60,
                    () -> errorOf("quorum 1;quorum 1;quorum 1;quorum 1;quorum 1;quorum 1;quorum"));
        });
        Boundaries.says(Boundaries.TERMS, "Keywords are matched character by character.", () -> {
            for (String text : TEXTS) {
                for (int i = 0; i < text.indexOf(' '); i++) {
                    int index = i;
                    Boundaries.due(text + " with a capital", index, () -> errorOf(text.substring(0, index)
                            + Character.toUpperCase(text.charAt(index)) + text.substring(index + 1)));
                    Boundaries.due(text + " broken off", index,
                            () -> errorOf(text.substring(0, index) + ";" + text));
                }
                Boundaries.due(text + " without its space", text.indexOf(' '), () -> errorOf(text.replace(" ", "")));
                Boundaries.due(text + " with two spaces", text.indexOf(' ') + 1, () -> errorOf(text.replace(" ", "  ")));
            }
        });
    }

    private static int errorOf(String text) {
        BellParliament x = new BellParliament();
        Check.runText(x, text);
        return x.errorPosition();
    }

    /** The text is or is not a command text, and has the error position, as the model tells by regular expressions. */
    private static void likeTheModel(String text) {
        BellParliament x = new BellParliament();
        ModelParliament model = new ModelParliament();
        for (char c : text.toCharArray()) {
            x.append(c);
            model.append(c);
        }
        Boundaries.due(text, Check.answerOf(model::run) + " " + Check.answerOf(model::errorPosition),
                () -> Check.answerOf(x::run) + " " + Check.answerOf(x::errorPosition));
    }

    private static void run() {
        Boundaries.says(45, "Either all commands are carried out, or none.", () -> {
            for (String text : new String[] {"member 11;enter 4;leave 0;leave 0", "quorum 1;bill 0 5-9;enter 0",
                "yes 0 2;no 0 0;yes 0 3", "decide 0;decide 0;close 0;close 0;close 0",
                "amend 0 1 1;support 02 0;support 03 0", "ride 0 0 30;ride 0 0 30;ride 0 0 30;ride 0 0 30;ride 0 0 9"}) {
                String before = Boundaries.everythingOf(() -> withText("")).replace("f1 l", "f l");
                String last = text.substring(text.lastIndexOf(';'));
                Boundaries.due("all but " + last, text.split(";").length - 1,
                        () -> withText(text.substring(0, text.length() - last.length())).run());
                Boundaries.due("none of " + text, before, () -> Boundaries.everythingOf(() -> {
                    BellParliament x = withText(text);
                    Check.answerOf(x::run);
                    return x;
                }).replaceAll("f[0-9] l", "f l"));
            }
        });
        Boundaries.says(45, "Parses the command text and carries out its commands in order.", () -> {
            Boundaries.due("the last quorum", 7, () -> afterRun(withText("quorum 9;quorum 8;quorum 7")).quorum());
            Boundaries.due("in before a vote", 1, () -> {
                BellParliament x = afterRun(withText("enter 3;bill 3 63-63;yes 3 3;leave 3"));
                return x.weightFor(3);
            });
            Boundaries.due("a vote before in", Check.STATE, () -> withText("yes 0 3;enter 3").run());
        });
        Boundaries.says(45, "The command text is empty after the call, also if an exception is thrown.", () -> {
            for (String text : new String[] {"leave 0", "leave 0;leave 0", "leave 0;leave", "", " "}) {
                BellParliament x = withText(text);
                Check.answerOf(x::run);
                Boundaries.due("after \"" + text + "\"", Check.ARGUMENT, x::run);
                Boundaries.due("after \"" + text + "\"", 0, x::errorPosition);
                Boundaries.due("after \"" + text + "\"", 1, () -> x.append(' '));
            }
            BellParliament x = withText(spaces(60));
            Check.answerOf(x::run);
            Boundaries.due("after sixty characters", "1", () -> Check.runText(x, "leave 0"));
        });
        Boundaries.says(45, "The first command whose method would throw an exception is the failed command.", () -> {
            Boundaries.due("the only one", 0, () -> failedOf("leave 3"));
            Boundaries.due("the first of three", 0, () -> failedOf("leave 3;leave 3;leave 9"));
            Boundaries.due("the second", 1, () -> failedOf("enter 3;enter 3;enter 9"));
            Boundaries.due("the last of seven", 6,
                    () -> failedOf("enter 3;leave 3;enter 3;leave 3;enter 3;leave 3;leave 3"));
            Boundaries.due("by what an earlier one did", 1, () -> failedOf("quorum 4;decide 0;decide 0"));
            Boundaries.due("not by what an earlier one mended", 2, () -> failedOf("enter 3;yes 0 3;yes 0 4"));
        });
        Boundaries.says(45, "Returns the number of commands.", () -> {
            Boundaries.due("one", 1, () -> withText("quorum 1").run());
            Boundaries.due("two", 2, () -> withText("quorum 1;quorum 1").run());
            Boundaries.due("eight", 8, () -> withText("no 0 0;no 0 1;no 0 2;no 0 0;no 0 1;no 0 2;no 0 0;no 0 1").run());
        });
    }

    private static Integer failedOf(String text) {
        BellParliament x = withText(text);
        Check.answerOf(x::run);
        return x.failedCommand();
    }

    private static void runRefused() {
        Boundaries.says(45, "Throws `IllegalArgumentException` if the text is not a command text; "
                + "the error position is set and the failed command is left as it is", () -> {
            for (String text : new String[] {"", "leave", "leave 0;", "leave 0;leave 0;x", "leave 9 "}) {
                Boundaries.due("\"" + text + "\"", Check.ARGUMENT, () -> withText(text).run());
                BellParliament x = withText(text);
                Check.answerOf(x::run);
                int position = text.endsWith("x") || text.endsWith(" ") ? text.length() - 1 : text.length();
                Boundaries.due("\"" + text + "\", error position", position, x::errorPosition);
                Boundaries.due("\"" + text + "\", failed command", 1, x::failedCommand);
            }
            BellParliament x = new BellParliament();
            Check.runText(x, "leave");
            Boundaries.due("no failed command yet", Check.ELEMENT, x::failedCommand);
        });
        Boundaries.says(45, "Throws `IllegalStateException` if a command fails; "
                + "the failed command is set and the error position is left as it is", () -> {
            for (String text : new String[] {"member 40", "member 00", "member 08", "enter 4", "enter 0", "leave 4",
                "leave 3", "quorum 0", "quorum 25", "bill 4 0-0", "bill 0 64-0", "bill 0 0-64", "bill 0 1-0",
                "bill 3 0-0", "yes 3 0", "yes 0 4", "yes 1 0", "yes 0 3", "no 3 0", "no 0 4", "no 2 0", "no 0 3",
                "close 3", "close 1", "close 0", "amend 3 0 0", "amend 0 4 0", "amend 0 0 64", "amend 1 0 0",
                "amend 0 3 0", "support 30 0", "support 00 4", "support 10 0", "support 02 0", "support 00 3",
                "decide 3", "decide 2", "ride 4 0 1", "ride 0 3 1", "ride 0 0 0", "ride 0 0 31", "ride 0 1 1",
                "ride 3 0 1", "quorum 99", "enter 99"}) {
                Boundaries.due(text, Check.STATE, () -> withText(text).run());
                BellParliament x = withText(text);
                Check.answerOf(x::run);
                Boundaries.due(text + ", failed command", 0, x::failedCommand);
                Boundaries.due(text + ", error position", 5, x::errorPosition);
            }
            Boundaries.due("a ninth bill", Check.STATE, () -> Check.runText(Boundaries.bills(8), "bill 0 0-0"));
            Boundaries.due("a 25th member", Check.STATE, () -> Check.runText(Boundaries.fullChamber(), "member 01"));
            Boundaries.due("a fifth amendment", 2, () -> failedOf("amend 0 0 0;amend 0 0 1;amend 0 0 2"));
            Boundaries.due("decide without an amendment", 2, () -> failedOf("decide 0;decide 0;decide 0"));
            Boundaries.due("close without a quorum", Check.STATE, () -> Check.runText(Boundaries.bills(1), "close 0"));
            BellParliament x = new BellParliament();
            Check.runText(x, "leave 0");
            Boundaries.due("no error position yet", Check.ELEMENT, x::errorPosition);
        });
    }

    private static void positions() {
        Boundaries.says(46, "Throws `NoSuchElementException` if no error position was set", () -> {
            Boundaries.refused("new", Check.ELEMENT, BellParliament::new, BellParliament::errorPosition);
            Boundaries.due("set to 0", 0, () -> errorOf("x"));
            Boundaries.due("after good and failed runs", Check.ELEMENT, () -> {
                BellParliament x = new BellParliament();
                Check.runText(x, "member 01;enter 0");
                Check.runText(x, "enter 0");
                return x.errorPosition();
            });
        });
        Boundaries.says(46, "Returns the error position that was set last.", () -> {
            BellParliament x = new BellParliament();
            Check.runText(x, "quorum 1;quorum x");
            Boundaries.due("the first", 16, x::errorPosition);
            Check.runText(x, "quorum");
            Boundaries.due("the second", 6, x::errorPosition);
            Check.runText(x, "quorum 1");
            Boundaries.due("after a good run", 6, x::errorPosition);
            Check.runText(x, "");
            Boundaries.due("the least", 0, x::errorPosition);
        });
        Boundaries.says(47, "Throws `NoSuchElementException` if no command has failed", () -> {
            Boundaries.refused("new", Check.ELEMENT, BellParliament::new, BellParliament::failedCommand);
            Boundaries.due("calls that failed are no commands", Check.ELEMENT, () -> {
                BellParliament x = new BellParliament();
                Check.answerOf(() -> x.enter(0));
                Check.runText(x, "quorum 1;");
                Check.runText(x, "quorum 1");
                return x.failedCommand();
            });
        });
        Boundaries.says(47, "Returns the index, from 0.", () -> {
            for (int i = 0; i < 7; i++) {
                int index = i;
                Boundaries.due("behind " + i, index, () -> failedOf("no 0 0;".repeat(index) + "leave 3;no 0 0"));
            }
            Boundaries.due("the eighth", 7, () -> failedOf("no 0 0;".repeat(7) + "leave 3"));
        });
        Boundaries.says(47, "Returns the index of the failed command of the latest run in which a command failed.",
                () -> {
            BellParliament x = Check.chamber(1, 1);
            Check.runText(x, "leave 0;leave 1;leave 1");
            Boundaries.due("the first", 2, x::failedCommand);
            Check.runText(x, "leave 0");
            Boundaries.due("after a good run", 2, x::failedCommand);
            Check.runText(x, "leave 0;");
            Boundaries.due("after a text that is none", 2, x::failedCommand);
            Check.runText(x, "leave 0;leave 1");
            Boundaries.due("the second", 0, x::failedCommand);
        });
    }
}
