/-- the rows name words of the library's rest from the first part on -/
theorem wide_w : True := by
  have _h := @Cond.arrayClass_spec
  trivial
