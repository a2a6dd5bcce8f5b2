/** Each sentence of the document has a test of its own; none is left out. */
public final class SentenceTest {
    public static void main(String[] args) throws Exception {
        Says.read();
        SaysLand.all();
        SaysOrders.all();
        SaysPlans.all();
        SaysPapers.all();
        SaysVotes.all();
        SaysScrip.all();
        SaysDebts.all();
        SaysDigging.all();
        SaysKnown.all();
        SaysRefusals.all();
        Says.nothingIsLeft();
        Check.end();
    }
}
