import java.io.IOException;

/** Each sentence of the document that names a boundary, with calls on it and on both sides of it. */
public final class BoundariesTest extends Sentences {
    public static void main(String[] arguments) throws IOException {
        open();
        DriverBoundaries.all();
        AskingBoundaries.all();
        SendingBoundaries.all();
        TextBoundaries.all();
        RefusalBoundaries.all();
        DetailBoundaries.all();
        CallBoundaries.all();
        QuestionBoundaries.all();
        dueAllQuoted();
        endWith("all boundaries hold");
    }
}
