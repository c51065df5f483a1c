/-- the end -/
theorem z_last : True := trivial
