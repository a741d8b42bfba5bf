/** All promises, and the sections that they rest on; every statement of DOC.md must have been looked at in the end. */
public final class PromisesTest {
    public static void main(String[] args) {
        TermsTest.all();
        RangesTest.all();
        ChangesTest.all();
        QuestionsTest.all();
        Doc.needAllQuoted();
        System.out.println(Check.answers + " answers, " + Check.wrong + " wrong");
        if (Check.wrong != 0) {
            System.exit(1);
        }
    }
}
