/**
 * Runs on new objects, written as lines of "call = answer". Beside the calls of the face a line may read a place:
 * signs(s), worth(s) of a register, terms(z) of a sum, pairs() of what pair() tells.
 */
final class Script {
    private final Check check;

    Script(Check check) {
        this.check = check;
    }

    /** The title is the sentence of the document that the run is about. */
    void run(String title, String lines) {
        BornNumbers x = new BornNumbers();
        for (String line : lines.split("\n")) {
            if (!line.isBlank()) {
                runLine(x, title, line.trim());
            }
        }
    }

    private void runLine(BornNumbers x, String title, String line) {
        int equal = line.lastIndexOf(" =");
        String call = line.substring(0, equal).trim();
        String want = line.substring(equal + 2).trim();
        check.same(title + ": " + call, answer(x, call), want);
    }

    private static String answer(BornNumbers x, String call) {
        int place = call.matches("\\w+\\(\\d+\\)") ? Integer.parseInt(call.replaceAll("\\D", "")) : 0;
        switch (call.substring(0, call.indexOf('('))) {
            case "signs": return Reading.row(x, place);
            case "worth": return Reading.value(x, place);
            case "terms": return Reading.sum(x, place);
            case "pairs": return x.pair(0) + " " + x.pair(1);
            default: return Integer.toString(Calls.on(x, call));
        }
    }
}
