/-- names the library's rows on exceptions that leave a frame, which part bb rests on: so a round over the shorter library finds out at once that it wants the whole -/
theorem wide_row : True := by
  have _h := @Jvm.Stand.outThrough
  exact True.intro
