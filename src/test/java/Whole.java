import java.util.function.IntFunction;

/** All that a shaper tells by calls that change nothing, as one text: two shapers are alike if theirs are. */
final class Whole {
    private final RefundShaper shaper;
    private final StringBuilder told = new StringBuilder();

    private Whole(RefundShaper shaper) {
        this.shaper = shaper;
    }

    /** All but the report; some 320 calls for four programs and two households, with one hour that is kept. */
    static String of(RefundShaper shaper) {
        Whole whole = new Whole(shaper);
        whole.tellLink();
        for (int i = 0; i < shaper.size(0); i++) {
            whole.tellHousehold(i);
        }
        for (int i = 0; i < shaper.size(1); i++) {
            whole.tellProgram(i);
        }
        whole.tellHours();
        whole.tellWouldBe();
        return whole.told.toString();
    }

    private void tell(String call, Check.Call made) {
        told.append(call).append('=').append(Check.answerOf(made)).append(' ');
    }

    private void tellEach(String call, int many, IntFunction<Object> asked) {
        for (int i = 0; i < many; i++) {
            int what = i;
            tell(call + " " + what, () -> asked.apply(what));
        }
    }

    private void tellLink() {
        tellEach("size", 13, shaper::size);
        tellEach("total", 8, shaper::total);
        tellEach("dropRow", shaper.size(1), shaper::dropRow);
        tell("isWarned", shaper::isWarned);
        tell("fairnessOfPrograms", shaper::fairnessOfPrograms);
        tell("mostYielding", shaper::mostYielding);
        tell("checksum", shaper::checksum);
    }

    private void tellHousehold(int household) {
        tellEach("letter of " + household, 8, index -> shaper.letter(true, household, index));
        tellEach("household " + household, 6, what -> shaper.household(household, what));
    }

    private void tellProgram(int program) {
        tellEach("letter of " + program, 8, index -> shaper.letter(false, program, index));
        tellEach("program " + program, 11, what -> shaper.program(program, what));
        tellEach("counted " + program, 8, what -> shaper.counted(program, what));
        tellEach("latest " + program, 6, what -> shaper.latest(program, what));
        tell("served " + program, () -> shaper.served(program));
    }

    private void tellHours() {
        int ended = shaper.size(7) / 12;
        for (int i = ended - shaper.size(8) - 1; i <= ended; i++) {
            int hour = i;
            tell("fairness " + hour, () -> shaper.fairness(hour));
            tellEach("hour " + hour, shaper.size(0), household -> shaper.hour(hour, household));
        }
        tell("unfairest", shaper::unfairest);
    }

    private void tellWouldBe() {
        tell("dropsIn", () -> shaper.dropsIn(20));
        tellEach("deliveredIn", shaper.size(1), program -> shaper.deliveredIn(program, 20));
        tell("firstDrop", shaper::firstDrop);
        tell("calmIn", shaper::calmIn);
        tell("bestThreshold", () -> shaper.bestThreshold(5));
        tell("neededCapacity", () -> shaper.neededCapacity(5));
        tell("culprit", () -> shaper.culprit(5));
    }
}
