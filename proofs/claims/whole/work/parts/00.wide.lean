/-! a name of the whole library, ahead of all: so the round is read over it from its first part on -/
theorem xwide : True := by
  have := @Jvm.Stand.multianewarray2F
  trivial
