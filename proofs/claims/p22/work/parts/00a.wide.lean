/-- names a lemma of the rest of the library, so that every round is read over the whole of it -/
theorem x_wide : True := by
  have := @Jvm.Stand.areturnOut
  trivial
