import java.util.function.ToIntFunction;

/** A call of the program with its text; it can be made on any object. */
record Call(String text, ToIntFunction<KeyGraves> on) {
}
