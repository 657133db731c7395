theorem fm_newX : am_runF 9000 11 0 0 [some (.ref 0), none] [] [(7, am_df 7)] = some (none, (fm_mk fm_S0).take fm_nx) := by decide +kernel
theorem fm_newM : am_runF 9000 11 133 0 [some (.ref fm_nx)] [] ((fm_mk fm_S0).take fm_nx ++ [(8, am_df 8)]) = some (none, fm_mk fm_S0) := by decide +kernel
