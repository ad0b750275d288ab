/** A run of calls on a new object, after which a test asks. */
interface Story {
    void tell(Exchange x);
}
