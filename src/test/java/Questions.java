import java.util.List;

/**
 * Asks all that can be asked behind a run of calls. Where one desk has not enough calls left for that,
 * the same run is made on another new one.
 */
final class Questions {
    private static final int LONGEST = 40;

    private final List<Call> run;
    private final StringBuilder answers = new StringBuilder();
    private CountedDesk desk;

    private Questions(List<Call> run) {
        this.run = run;
        desk = again();
    }

    static String allBehind(List<Call> run) {
        Questions questions = new Questions(run);
        questions.askOfDesk();
        return questions.answers.toString();
    }

    private CountedDesk again() {
        CountedDesk made = new CountedDesk();
        for (Call call : run) {
            made.answer(call);
        }
        return made;
    }

    private String ask(String name, int a, int b, int c) {
        if (desk.isUsedUp()) {
            desk = again();
        }
        String answer = desk.answer(new Call(name, a, b, c));
        answers.append(name).append(' ').append(a).append(' ').append(b).append(' ').append(c)
            .append(": ").append(answer).append('\n');
        return answer;
    }

    private String ask(String name) {
        return ask(name, 0, 0, 0);
    }

    private void askOfDesk() {
        int letters = Integer.parseInt(ask("letters"));
        int envelopes = Integer.parseInt(ask("envelopes"));
        // One number more than there are: a refused call must not leave a letter or an envelope there.
        for (int letter = 0; letter <= letters; letter++) {
            askOfLetter(letter, letters);
        }
        for (int envelope = 0; envelope <= envelopes; envelope++) {
            askOfEnvelope(envelope);
        }
        for (String name : List.of("doubles", "firstBroken", "meanSigns", "digest")) {
            ask(name);
        }
    }

    private void askOfLetter(int letter, int letters) {
        String signs = ask("signsOf", letter, 0, 0);
        for (String name : List.of("commasOf", "tearsOf", "digestOf", "wouldSeal", "unnoticed", "worstTear")) {
            ask(name, letter, 0, 0);
        }
        for (int other = 0; other < letters; other++) {
            ask("firstOf", letter, other, 0);
        }
        for (int length = 1; length <= LONGEST; length++) {
            ask("sameSums", letter, length, 0);
            ask("falseAlarms", letter, length, 0);
        }
        int count = signs.startsWith("throws.") ? 0 : Integer.parseInt(signs);
        for (int place = 0; place <= count; place++) {
            ask("signAt", letter, place, 0);
            for (int length = 1; place + length <= count; length++) {
                ask("sumOf", letter, place, length);
            }
        }
    }

    private void askOfEnvelope(int envelope) {
        for (String name : List.of("letterIn", "digestIn", "sealOf", "isWhole", "tornBlocks", "firstTorn",
                "changedPlace", "changedSign")) {
            ask(name, envelope, 0, 0);
        }
    }
}
