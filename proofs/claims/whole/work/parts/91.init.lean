/-! the two constructors, reckoned out (own work) -/
def h0X : xH := [xI 9 [], xO 11 (x_df g_M 11 15)]
theorem i_top0 : (x_gz g_M 1200 8 k_Top_init (0, x_ent (x_nL g_M k_Top_init) [.ref 1], [], h0X)).isSome = true := by decide +kernel
