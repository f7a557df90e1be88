import java.util.List;
import java.util.function.Supplier;
import java.util.function.ToIntBiFunction;
import java.util.function.ToIntFunction;

/** What is refused changes nothing: of two offices led through the same calls one is asked what is refused. */
final class Twins {
    private final Due due;
    private final Supplier<HutLift> scene;

    Twins(Due due, Supplier<HutLift> scene) {
        this.due = due;
        this.scene = scene;
    }

    /** The answer is the one that is due, and behind it all is as if the call had not been made. */
    void changesNothing(String call, int want, ToIntFunction<HutLift> made) {
        HutLift asked = scene.get();
        due.is(call, made.applyAsInt(asked), want);
        List<Integer> got = Probe.all(asked);
        List<Integer> spared = Probe.all(scene.get());
        due.holds(call + " changed what is told: " + got + " from " + spared, got.equals(spared));
    }

    /** A number is refused if it is less than the least or more than the most, and only then. */
    void range(String call, int least, int most, int refusal, ToIntBiFunction<HutLift, Integer> made) {
        refuse(call, Integer.MIN_VALUE, refusal, made);
        refuse(call, Integer.MAX_VALUE, refusal, made);
        edges(call, least, most, refusal, made);
    }

    /** The same without wild numbers, for one that is but a part of what the call is given. */
    void edges(String call, int least, int most, int refusal, ToIntBiFunction<HutLift, Integer> made) {
        refuse(call, least - 1, refusal, made);
        refuse(call, most + 1, refusal, made);
        for (int good : new int[] {least, Math.min(least + 1, most), Math.max(most - 1, least), most}) {
            int answer = made.applyAsInt(scene.get(), good);
            due.holds(call.replace("_", "" + good) + " answered " + answer, answer != refusal);
        }
    }

    private void refuse(String call, int wrong, int refusal, ToIntBiFunction<HutLift, Integer> made) {
        changesNothing(call.replace("_", "" + wrong), refusal, x -> made.applyAsInt(x, wrong));
    }
}
