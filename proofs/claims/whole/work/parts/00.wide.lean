/-- names a law of the whole library, so that a round goes wide at once -/
theorem wide_first : True := by
  have _h := @Jvm.Stand.thenCaughtThrough
  trivial
