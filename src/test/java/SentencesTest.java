import java.io.IOException;
import java.util.List;

/**
 * Each sentence of the document that names a boundary case has a test that quotes it, in the
 * classes whose names end in Sentences; all others stand here, so that none is forgotten.
 */
public final class SentencesTest {
    /** They tell what a thing is, or what another sentence with a test bounds. */
    private static final List<String> WITHOUT_A_BOUNDARY = List.of(
        "What it is: A simulator of a session layer: two endpoints shake hands, exchange numbered messages"
            + " over a network that loses, repeats, reorders and alters packets as it is told to, change"
            + " keys by counts, filter replayed packets, resume sessions with tickets, and close in order.",
        "Description: The class is not thread-safe.",
        "Description: The keys are plain numbers and protect nothing outside of this simulation.",
        "Description: Endpoint 0 begins sessions, endpoint 1 answers.",
        "Description: A packet has a sender, a kind, a session, an epoch, a sequence number, two numbers a and"
            + " b, an acknowledgement and a tag.",
        "Description: The kinds are",
        "Description: 2, refusal",
        "Description: 3, finish",
        "Description: 5, acknowledgement",
        "Description: protected: the windows change as described.",
        "Description: The constants:",
        "Description: The constructor and the methods follow, a promise each: the signature, then what it"
            + " does.",
        "Promise 2: Sets the settings.",
        "Promise 9: - `position`: the position in the list",
        "Promise 10: - `position`: the position in the list",
        "Promise 11: - `position`: the position in the list",
        "Promise 12: - `position`: the position in the list",
        "Promise 13: Performs ticks.",
        "Promise 14: Returns a part of a packet in the network.",
        "Promise 14: - `position`: the position in the list",
        "Promise 15: Returns a number about an endpoint.",
        "Promise 15: - `endpoint`: the endpoint",
        "Promise 16: Returns the window of an endpoint.",
        "Promise 16: - `endpoint`: the endpoint",
        "Promise 17: - `endpoint`: the endpoint",
        "Promise 18: Returns a message that an endpoint keeps.",
        "Promise 18: - `endpoint`: the endpoint",
        "Promise 19: - `endpoint`: the endpoint",
        "Promise 20: Returns a count.",
        "Promise 21: Returns a part of an event of the log.",
        "Promise 23: Appends a character to the text several times.",
        "Promise 24: Runs the text as a script.",
        "Not promised: How the state is held inside the object is free, as are the speed of each call, the"
            + " text of toString and the behaviour of equals and hashCode.",
        "Not promised: Use of one object from several threads at once is not promised to be safe.",
        "Not promised: Nothing is promised beyond the answers and state changes described above, and nothing"
            + " about an object after its 512th call.");

    public static void main(String[] args) throws IOException {
        Doc.read();
        PacketSentences.all();
        ReceivingSentences.all();
        EffectSentences.all();
        ParticularSentences.all();
        MethodSentences.all();
        ReportSentences.all();
        Doc.finish(WITHOUT_A_BOUNDARY);
        Due.finish("SentencesTest");
    }
}
