/-! arrays of arrays lie in the rest of the library: this names one of its rows first of all -/
theorem wide_0 : True := by
  have := @Stand.arrayOver_specB
  trivial
