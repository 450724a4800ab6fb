/-! a name of the rest of the library: the round is read over the whole of it from its first part on -/
theorem zw_1 : True := by
  have h := @W.anew
  trivial
