theorem qf_X11_10 : am_lF RX11 10 11 0 := ⟨(RX11, TX11, 9), rfl, by decide, rfl, am_mem 412 (by decide +kernel) rfl⟩
theorem qp_X11_10 : am_lP RX11 10 11 0 true (.object "CandleBar$State") := ⟨(RX11, TX11, 9), rfl, by decide, rfl, am_mem 412 (by decide +kernel) rfl, rfl, (by decide +kernel), fun h => rfl⟩
theorem qf_X11_16 : am_lF RX11 16 11 1 := ⟨(RX11, TX11, 9), rfl, by decide, rfl, am_mem 413 (by decide +kernel) rfl⟩
theorem qp_X11_16 : am_lP RX11 16 11 1 true (.object "CandleBar$State") := ⟨(RX11, TX11, 9), rfl, by decide, rfl, am_mem 413 (by decide +kernel) rfl, rfl, (by decide +kernel), fun h => rfl⟩
theorem qf_X11_21 : am_lF RX11 21 11 3 := ⟨(RX11, TX11, 9), rfl, by decide, rfl, am_mem 415 (by decide +kernel) rfl⟩
theorem qp_X11_21 : am_lP RX11 21 11 3 true (.array (.object "CandleBar$Shelf")) := ⟨(RX11, TX11, 9), rfl, by decide, rfl, am_mem 415 (by decide +kernel) rfl, rfl, (by decide +kernel), fun h => rfl⟩
theorem qf_X11_28 : am_lF RX11 28 11 4 := ⟨(RX11, TX11, 9), rfl, by decide, rfl, am_mem 416 (by decide +kernel) rfl⟩
theorem qp_X11_28 : am_lP RX11 28 11 4 true (.object "CandleBar$RuleReader") := ⟨(RX11, TX11, 9), rfl, by decide, rfl, am_mem 416 (by decide +kernel) rfl, rfl, (by decide +kernel), fun h => rfl⟩
theorem qf_X11_35 : am_lF RX11 35 11 5 := ⟨(RX11, TX11, 9), rfl, by decide, rfl, am_mem 417 (by decide +kernel) rfl⟩
theorem qp_X11_35 : am_lP RX11 35 11 5 true (.object "CandleBar$ChainFinder") := ⟨(RX11, TX11, 9), rfl, by decide, rfl, am_mem 417 (by decide +kernel) rfl, rfl, (by decide +kernel), fun h => rfl⟩
theorem qf_X11_42 : am_lF RX11 42 11 6 := ⟨(RX11, TX11, 9), rfl, by decide, rfl, am_mem 418 (by decide +kernel) rfl⟩
theorem qp_X11_42 : am_lP RX11 42 11 6 true (.object "CandleBar$Groups") := ⟨(RX11, TX11, 9), rfl, by decide, rfl, am_mem 418 (by decide +kernel) rfl, rfl, (by decide +kernel), fun h => rfl⟩
theorem qf_X11_49 : am_lF RX11 49 11 7 := ⟨(RX11, TX11, 9), rfl, by decide, rfl, am_mem 419 (by decide +kernel) rfl⟩
theorem qp_X11_49 : am_lP RX11 49 11 7 true (.object "CandleBar$LawBook") := ⟨(RX11, TX11, 9), rfl, by decide, rfl, am_mem 419 (by decide +kernel) rfl, rfl, (by decide +kernel), fun h => rfl⟩
theorem qf_X11_56 : am_lF RX11 56 11 8 := ⟨(RX11, TX11, 9), rfl, by decide, rfl, am_mem 420 (by decide +kernel) rfl⟩
theorem qp_X11_56 : am_lP RX11 56 11 8 true (.object "CandleBar$Eye") := ⟨(RX11, TX11, 9), rfl, by decide, rfl, am_mem 420 (by decide +kernel) rfl, rfl, (by decide +kernel), fun h => rfl⟩
theorem qf_X11_65 : am_lF RX11 65 10 1 := ⟨(RX10, TX10, 11), rfl, by decide, rfl, am_mem 232 (by decide +kernel) rfl⟩
theorem qp_X11_65 : am_lP RX11 65 10 1 false .int := ⟨(RX10, TX10, 11), rfl, by decide, rfl, am_mem 232 (by decide +kernel) rfl, rfl, (by decide +kernel), fun h => by cases h⟩
theorem qf_X11_69 : am_lF RX11 69 10 0 := ⟨(RX10, TX10, 11), rfl, by decide, rfl, am_mem 228 (by decide +kernel) rfl⟩
theorem qf_X11_73 : am_lF RX11 73 5 0 := ⟨(RX5, TX5, 6), rfl, by decide, rfl, am_mem 110 (by decide +kernel) rfl⟩
theorem qp_X11_73 : am_lP RX11 73 5 0 false .int := ⟨(RX5, TX5, 6), rfl, by decide, rfl, am_mem 110 (by decide +kernel) rfl, rfl, (by decide +kernel), fun h => by cases h⟩
theorem qf_X11_78 : am_lF RX11 78 5 1 := ⟨(RX5, TX5, 6), rfl, by decide, rfl, am_mem 112 (by decide +kernel) rfl⟩
theorem qp_X11_78 : am_lP RX11 78 5 1 false .int := ⟨(RX5, TX5, 6), rfl, by decide, rfl, am_mem 112 (by decide +kernel) rfl, rfl, (by decide +kernel), fun h => by cases h⟩
theorem qf_X11_81 : am_lF RX11 81 5 2 := ⟨(RX5, TX5, 6), rfl, by decide, rfl, am_mem 114 (by decide +kernel) rfl⟩
theorem qp_X11_81 : am_lP RX11 81 5 2 false .int := ⟨(RX5, TX5, 6), rfl, by decide, rfl, am_mem 114 (by decide +kernel) rfl, rfl, (by decide +kernel), fun h => by cases h⟩
theorem qf_X11_84 : am_lF RX11 84 5 3 := ⟨(RX5, TX5, 6), rfl, by decide, rfl, am_mem 117 (by decide +kernel) rfl⟩
theorem qp_X11_84 : am_lP RX11 84 5 3 false .int := ⟨(RX5, TX5, 6), rfl, by decide, rfl, am_mem 117 (by decide +kernel) rfl, rfl, (by decide +kernel), fun h => by cases h⟩
theorem qf_X11_87 : am_lF RX11 87 5 4 := ⟨(RX5, TX5, 6), rfl, by decide, rfl, am_mem 121 (by decide +kernel) rfl⟩
theorem qp_X11_87 : am_lP RX11 87 5 4 false .int := ⟨(RX5, TX5, 6), rfl, by decide, rfl, am_mem 121 (by decide +kernel) rfl, rfl, (by decide +kernel), fun h => by cases h⟩
theorem qf_X11_90 : am_lF RX11 90 5 5 := ⟨(RX5, TX5, 6), rfl, by decide, rfl, am_mem 125 (by decide +kernel) rfl⟩
theorem qp_X11_90 : am_lP RX11 90 5 5 false .int := ⟨(RX5, TX5, 6), rfl, by decide, rfl, am_mem 125 (by decide +kernel) rfl, rfl, (by decide +kernel), fun h => by cases h⟩
theorem qf_X11_98 : am_lF RX11 98 10 2 := ⟨(RX10, TX10, 11), rfl, by decide, rfl, am_mem 235 (by decide +kernel) rfl⟩
theorem qp_X11_98 : am_lP RX11 98 10 2 false .int := ⟨(RX10, TX10, 11), rfl, by decide, rfl, am_mem 235 (by decide +kernel) rfl, rfl, (by decide +kernel), fun h => by cases h⟩
theorem qf_X11_141 : am_lF RX11 141 9 2 := ⟨(RX9, TX9, 3), rfl, by decide, rfl, am_mem 404 (by decide +kernel) rfl⟩
theorem qf_X11_145 : am_lF RX11 145 7 1 := ⟨(RX7, TX7, 3), rfl, by decide, rfl, am_mem 389 (by decide +kernel) rfl⟩
theorem qp_X11_145 : am_lP RX11 145 7 1 false .int := ⟨(RX7, TX7, 3), rfl, by decide, rfl, am_mem 389 (by decide +kernel) rfl, rfl, (by decide +kernel), fun h => by cases h⟩
theorem qf_X11_154 : am_lF RX11 154 7 2 := ⟨(RX7, TX7, 3), rfl, by decide, rfl, am_mem 391 (by decide +kernel) rfl⟩
theorem qf_X11_162 : am_lF RX11 162 6 0 := ⟨(RX6, TX6, 6), rfl, by decide, rfl, am_mem 167 (by decide +kernel) rfl⟩
theorem qp_X11_162 : am_lP RX11 162 6 0 false .int := ⟨(RX6, TX6, 6), rfl, by decide, rfl, am_mem 167 (by decide +kernel) rfl, rfl, (by decide +kernel), fun h => by cases h⟩
theorem qf_X11_167 : am_lF RX11 167 6 1 := ⟨(RX6, TX6, 6), rfl, by decide, rfl, am_mem 173 (by decide +kernel) rfl⟩
theorem qp_X11_167 : am_lP RX11 167 6 1 false .int := ⟨(RX6, TX6, 6), rfl, by decide, rfl, am_mem 173 (by decide +kernel) rfl, rfl, (by decide +kernel), fun h => by cases h⟩
theorem qf_X11_170 : am_lF RX11 170 6 2 := ⟨(RX6, TX6, 6), rfl, by decide, rfl, am_mem 177 (by decide +kernel) rfl⟩
theorem qp_X11_170 : am_lP RX11 170 6 2 false .int := ⟨(RX6, TX6, 6), rfl, by decide, rfl, am_mem 177 (by decide +kernel) rfl, rfl, (by decide +kernel), fun h => by cases h⟩
theorem qf_X11_173 : am_lF RX11 173 6 3 := ⟨(RX6, TX6, 6), rfl, by decide, rfl, am_mem 182 (by decide +kernel) rfl⟩
theorem qp_X11_173 : am_lP RX11 173 6 3 false .int := ⟨(RX6, TX6, 6), rfl, by decide, rfl, am_mem 182 (by decide +kernel) rfl, rfl, (by decide +kernel), fun h => by cases h⟩
theorem qf_X11_176 : am_lF RX11 176 6 4 := ⟨(RX6, TX6, 6), rfl, by decide, rfl, am_mem 185 (by decide +kernel) rfl⟩
theorem qp_X11_176 : am_lP RX11 176 6 4 false .int := ⟨(RX6, TX6, 6), rfl, by decide, rfl, am_mem 185 (by decide +kernel) rfl, rfl, (by decide +kernel), fun h => by cases h⟩
theorem qf_X11_179 : am_lF RX11 179 6 5 := ⟨(RX6, TX6, 6), rfl, by decide, rfl, am_mem 191 (by decide +kernel) rfl⟩
theorem qp_X11_179 : am_lP RX11 179 6 5 false .boolean := ⟨(RX6, TX6, 6), rfl, by decide, rfl, am_mem 191 (by decide +kernel) rfl, rfl, (by decide +kernel), fun h => by cases h⟩
theorem qf_X11_190 : am_lF RX11 190 1 2 := ⟨(RX1, TX1, 5), rfl, by decide, rfl, am_mem 318 (by decide +kernel) rfl⟩
theorem qp_X11_190 : am_lP RX11 190 1 2 false .int := ⟨(RX1, TX1, 5), rfl, by decide, rfl, am_mem 318 (by decide +kernel) rfl, rfl, (by decide +kernel), fun h => by cases h⟩
theorem qf_X11_193 : am_lF RX11 193 1 1 := ⟨(RX1, TX1, 5), rfl, by decide, rfl, am_mem 316 (by decide +kernel) rfl⟩
theorem qf_X11_202 : am_lF RX11 202 1 3 := ⟨(RX1, TX1, 5), rfl, by decide, rfl, am_mem 320 (by decide +kernel) rfl⟩
theorem qp_X11_202 : am_lP RX11 202 1 3 false .long := ⟨(RX1, TX1, 5), rfl, by decide, rfl, am_mem 320 (by decide +kernel) rfl, rfl, (by decide +kernel), fun h => by cases h⟩
theorem qf_X11_206 : am_lF RX11 206 1 4 := ⟨(RX1, TX1, 5), rfl, by decide, rfl, am_mem 322 (by decide +kernel) rfl⟩
theorem qp_X11_206 : am_lP RX11 206 1 4 false .long := ⟨(RX1, TX1, 5), rfl, by decide, rfl, am_mem 322 (by decide +kernel) rfl, rfl, (by decide +kernel), fun h => by cases h⟩
theorem qf_X11_216 : am_lF RX11 216 4 1 := ⟨(RX4, TX4, 4), rfl, by decide, rfl, am_mem 358 (by decide +kernel) rfl⟩
theorem qp_X11_216 : am_lP RX11 216 4 1 false .int := ⟨(RX4, TX4, 4), rfl, by decide, rfl, am_mem 358 (by decide +kernel) rfl, rfl, (by decide +kernel), fun h => by cases h⟩
theorem qf_X11_234 : am_lF RX11 234 10 3 := ⟨(RX10, TX10, 11), rfl, by decide, rfl, am_mem 238 (by decide +kernel) rfl⟩
theorem qf_X11_263 : am_lF RX11 263 10 10 := ⟨(RX10, TX10, 11), rfl, by decide, rfl, am_mem 257 (by decide +kernel) rfl⟩
theorem qp_X11_263 : am_lP RX11 263 10 10 false .int := ⟨(RX10, TX10, 11), rfl, by decide, rfl, am_mem 257 (by decide +kernel) rfl, rfl, (by decide +kernel), fun h => by cases h⟩
theorem qf_X11_279 : am_lF RX11 279 10 7 := ⟨(RX10, TX10, 11), rfl, by decide, rfl, am_mem 251 (by decide +kernel) rfl⟩
theorem qp_X11_279 : am_lP RX11 279 10 7 false .int := ⟨(RX10, TX10, 11), rfl, by decide, rfl, am_mem 251 (by decide +kernel) rfl, rfl, (by decide +kernel), fun h => by cases h⟩
theorem qf_X11_282 : am_lF RX11 282 10 6 := ⟨(RX10, TX10, 11), rfl, by decide, rfl, am_mem 249 (by decide +kernel) rfl⟩
theorem qf_X11_286 : am_lF RX11 286 0 0 := ⟨(RX0, TX0, 4), rfl, by decide, rfl, am_mem 211 (by decide +kernel) rfl⟩
theorem qp_X11_286 : am_lP RX11 286 0 0 false .int := ⟨(RX0, TX0, 4), rfl, by decide, rfl, am_mem 211 (by decide +kernel) rfl, rfl, (by decide +kernel), fun h => by cases h⟩
theorem qf_X11_291 : am_lF RX11 291 0 1 := ⟨(RX0, TX0, 4), rfl, by decide, rfl, am_mem 213 (by decide +kernel) rfl⟩
theorem qp_X11_291 : am_lP RX11 291 0 1 false .int := ⟨(RX0, TX0, 4), rfl, by decide, rfl, am_mem 213 (by decide +kernel) rfl, rfl, (by decide +kernel), fun h => by cases h⟩
theorem qf_X11_294 : am_lF RX11 294 0 2 := ⟨(RX0, TX0, 4), rfl, by decide, rfl, am_mem 215 (by decide +kernel) rfl⟩
theorem qp_X11_294 : am_lP RX11 294 0 2 false .int := ⟨(RX0, TX0, 4), rfl, by decide, rfl, am_mem 215 (by decide +kernel) rfl, rfl, (by decide +kernel), fun h => by cases h⟩
theorem qf_X11_299 : am_lF RX11 299 0 3 := ⟨(RX0, TX0, 4), rfl, by decide, rfl, am_mem 217 (by decide +kernel) rfl⟩
theorem qp_X11_299 : am_lP RX11 299 0 3 false .long := ⟨(RX0, TX0, 4), rfl, by decide, rfl, am_mem 217 (by decide +kernel) rfl, rfl, (by decide +kernel), fun h => by cases h⟩
theorem qf_X11_332 : am_lF RX11 332 11 2 := ⟨(RX11, TX11, 9), rfl, by decide, rfl, am_mem 414 (by decide +kernel) rfl⟩
theorem qp_X11_332 : am_lP RX11 332 11 2 false .boolean := ⟨(RX11, TX11, 9), rfl, by decide, rfl, am_mem 414 (by decide +kernel) rfl, rfl, (by decide +kernel), fun h => by cases h⟩
theorem qf_X11_335 : am_lF RX11 335 10 5 := ⟨(RX10, TX10, 11), rfl, by decide, rfl, am_mem 247 (by decide +kernel) rfl⟩
theorem qp_X11_335 : am_lP RX11 335 10 5 false .int := ⟨(RX10, TX10, 11), rfl, by decide, rfl, am_mem 247 (by decide +kernel) rfl, rfl, (by decide +kernel), fun h => by cases h⟩
theorem qf_X11_348 : am_lF RX11 348 9 0 := ⟨(RX9, TX9, 3), rfl, by decide, rfl, am_mem 400 (by decide +kernel) rfl⟩
theorem qp_X11_348 : am_lP RX11 348 9 0 false .int := ⟨(RX9, TX9, 3), rfl, by decide, rfl, am_mem 400 (by decide +kernel) rfl, rfl, (by decide +kernel), fun h => by cases h⟩
theorem qf_X11_351 : am_lF RX11 351 9 1 := ⟨(RX9, TX9, 3), rfl, by decide, rfl, am_mem 402 (by decide +kernel) rfl⟩
theorem qf_X11_377 : am_lF RX11 377 7 0 := ⟨(RX7, TX7, 3), rfl, by decide, rfl, am_mem 387 (by decide +kernel) rfl⟩
theorem qp_X11_377 : am_lP RX11 377 7 0 false .int := ⟨(RX7, TX7, 3), rfl, by decide, rfl, am_mem 387 (by decide +kernel) rfl, rfl, (by decide +kernel), fun h => by cases h⟩
theorem qf_X0_7 : am_lF RX0 7 0 0 := ⟨(RX0, TX0, 4), rfl, by decide, rfl, am_mem 210 (by decide +kernel) rfl⟩
theorem qp_X0_7 : am_lP RX0 7 0 0 false .int := ⟨(RX0, TX0, 4), rfl, by decide, rfl, am_mem 210 (by decide +kernel) rfl, rfl, (by decide +kernel), fun h => by cases h⟩
theorem qf_X0_13 : am_lF RX0 13 0 1 := ⟨(RX0, TX0, 4), rfl, by decide, rfl, am_mem 212 (by decide +kernel) rfl⟩
theorem qp_X0_13 : am_lP RX0 13 0 1 false .int := ⟨(RX0, TX0, 4), rfl, by decide, rfl, am_mem 212 (by decide +kernel) rfl, rfl, (by decide +kernel), fun h => by cases h⟩
theorem qf_X0_16 : am_lF RX0 16 0 2 := ⟨(RX0, TX0, 4), rfl, by decide, rfl, am_mem 214 (by decide +kernel) rfl⟩
theorem qp_X0_16 : am_lP RX0 16 0 2 false .int := ⟨(RX0, TX0, 4), rfl, by decide, rfl, am_mem 214 (by decide +kernel) rfl, rfl, (by decide +kernel), fun h => by cases h⟩
theorem qf_X0_19 : am_lF RX0 19 0 3 := ⟨(RX0, TX0, 4), rfl, by decide, rfl, am_mem 216 (by decide +kernel) rfl⟩
theorem qp_X0_19 : am_lP RX0 19 0 3 false .long := ⟨(RX0, TX0, 4), rfl, by decide, rfl, am_mem 216 (by decide +kernel) rfl, rfl, (by decide +kernel), fun h => by cases h⟩
theorem qf_X1_9 : am_lF RX1 9 1 0 := ⟨(RX1, TX1, 5), rfl, by decide, rfl, am_mem 314 (by decide +kernel) rfl⟩
theorem qp_X1_9 : am_lP RX1 9 1 0 true (.array .int) := ⟨(RX1, TX1, 5), rfl, by decide, rfl, am_mem 314 (by decide +kernel) rfl, rfl, (by decide +kernel), fun h => rfl⟩
theorem qf_X1_15 : am_lF RX1 15 1 1 := ⟨(RX1, TX1, 5), rfl, by decide, rfl, am_mem 315 (by decide +kernel) rfl⟩
theorem qp_X1_15 : am_lP RX1 15 1 1 true (.array .int) := ⟨(RX1, TX1, 5), rfl, by decide, rfl, am_mem 315 (by decide +kernel) rfl, rfl, (by decide +kernel), fun h => rfl⟩
theorem qf_X1_22 : am_lF RX1 22 1 2 := ⟨(RX1, TX1, 5), rfl, by decide, rfl, am_mem 317 (by decide +kernel) rfl⟩
theorem qp_X1_22 : am_lP RX1 22 1 2 false .int := ⟨(RX1, TX1, 5), rfl, by decide, rfl, am_mem 317 (by decide +kernel) rfl, rfl, (by decide +kernel), fun h => by cases h⟩
theorem qf_X1_30 : am_lF RX1 30 10 4 := ⟨(RX10, TX10, 11), rfl, by decide, rfl, am_mem 242 (by decide +kernel) rfl⟩
theorem qf_X1_42 : am_lF RX1 42 10 5 := ⟨(RX10, TX10, 11), rfl, by decide, rfl, am_mem 246 (by decide +kernel) rfl⟩
theorem qp_X1_42 : am_lP RX1 42 10 5 false .int := ⟨(RX10, TX10, 11), rfl, by decide, rfl, am_mem 246 (by decide +kernel) rfl, rfl, (by decide +kernel), fun h => by cases h⟩
theorem qf_X1_45 : am_lF RX1 45 6 5 := ⟨(RX6, TX6, 6), rfl, by decide, rfl, am_mem 189 (by decide +kernel) rfl⟩
theorem qp_X1_45 : am_lP RX1 45 6 5 false .boolean := ⟨(RX6, TX6, 6), rfl, by decide, rfl, am_mem 189 (by decide +kernel) rfl, rfl, (by decide +kernel), fun h => by cases h⟩
theorem qf_X1_49 : am_lF RX1 49 6 0 := ⟨(RX6, TX6, 6), rfl, by decide, rfl, am_mem 164 (by decide +kernel) rfl⟩
theorem qp_X1_49 : am_lP RX1 49 6 0 false .int := ⟨(RX6, TX6, 6), rfl, by decide, rfl, am_mem 164 (by decide +kernel) rfl, rfl, (by decide +kernel), fun h => by cases h⟩
theorem qf_X1_52 : am_lF RX1 52 6 1 := ⟨(RX6, TX6, 6), rfl, by decide, rfl, am_mem 170 (by decide +kernel) rfl⟩
theorem qp_X1_52 : am_lP RX1 52 6 1 false .int := ⟨(RX6, TX6, 6), rfl, by decide, rfl, am_mem 170 (by decide +kernel) rfl, rfl, (by decide +kernel), fun h => by cases h⟩
theorem qf_X1_63 : am_lF RX1 63 1 3 := ⟨(RX1, TX1, 5), rfl, by decide, rfl, am_mem 319 (by decide +kernel) rfl⟩
theorem qp_X1_63 : am_lP RX1 63 1 3 false .long := ⟨(RX1, TX1, 5), rfl, by decide, rfl, am_mem 319 (by decide +kernel) rfl, rfl, (by decide +kernel), fun h => by cases h⟩
theorem qf_X1_67 : am_lF RX1 67 1 4 := ⟨(RX1, TX1, 5), rfl, by decide, rfl, am_mem 321 (by decide +kernel) rfl⟩
theorem qp_X1_67 : am_lP RX1 67 1 4 false .long := ⟨(RX1, TX1, 5), rfl, by decide, rfl, am_mem 321 (by decide +kernel) rfl, rfl, (by decide +kernel), fun h => by cases h⟩
theorem qf_X1_70 : am_lF RX1 70 6 3 := ⟨(RX6, TX6, 6), rfl, by decide, rfl, am_mem 180 (by decide +kernel) rfl⟩
theorem qp_X1_70 : am_lP RX1 70 6 3 false .int := ⟨(RX6, TX6, 6), rfl, by decide, rfl, am_mem 180 (by decide +kernel) rfl, rfl, (by decide +kernel), fun h => by cases h⟩
theorem qf_X2_7 : am_lF RX2 7 2 0 := ⟨(RX2, TX2, 3), rfl, by decide, rfl, am_mem 147 (by decide +kernel) rfl⟩
theorem qp_X2_7 : am_lP RX2 7 2 0 false .int := ⟨(RX2, TX2, 3), rfl, by decide, rfl, am_mem 147 (by decide +kernel) rfl, rfl, (by decide +kernel), fun h => by cases h⟩
theorem qf_X2_13 : am_lF RX2 13 2 1 := ⟨(RX2, TX2, 3), rfl, by decide, rfl, am_mem 148 (by decide +kernel) rfl⟩
theorem qp_X2_13 : am_lP RX2 13 2 1 false .int := ⟨(RX2, TX2, 3), rfl, by decide, rfl, am_mem 148 (by decide +kernel) rfl, rfl, (by decide +kernel), fun h => by cases h⟩
theorem qf_X2_16 : am_lF RX2 16 2 2 := ⟨(RX2, TX2, 3), rfl, by decide, rfl, am_mem 149 (by decide +kernel) rfl⟩
theorem qp_X2_16 : am_lP RX2 16 2 2 false .int := ⟨(RX2, TX2, 3), rfl, by decide, rfl, am_mem 149 (by decide +kernel) rfl, rfl, (by decide +kernel), fun h => by cases h⟩
theorem qf_X2_35 : am_lF RX2 35 5 3 := ⟨(RX5, TX5, 6), rfl, by decide, rfl, am_mem 119 (by decide +kernel) rfl⟩
theorem qp_X2_35 : am_lP RX2 35 5 3 false .int := ⟨(RX5, TX5, 6), rfl, by decide, rfl, am_mem 119 (by decide +kernel) rfl, rfl, (by decide +kernel), fun h => by cases h⟩
theorem qf_X3_9 : am_lF RX3 9 3 0 := ⟨(RX3, TX3, 3), rfl, by decide, rfl, am_mem 340 (by decide +kernel) rfl⟩
theorem qp_X3_9 : am_lP RX3 9 3 0 true (.array .int) := ⟨(RX3, TX3, 3), rfl, by decide, rfl, am_mem 340 (by decide +kernel) rfl, rfl, (by decide +kernel), fun h => rfl⟩
theorem qf_X3_15 : am_lF RX3 15 3 1 := ⟨(RX3, TX3, 3), rfl, by decide, rfl, am_mem 341 (by decide +kernel) rfl⟩
theorem qp_X3_15 : am_lP RX3 15 3 1 true (.array .int) := ⟨(RX3, TX3, 3), rfl, by decide, rfl, am_mem 341 (by decide +kernel) rfl, rfl, (by decide +kernel), fun h => rfl⟩
theorem qf_X3_18 : am_lF RX3 18 10 1 := ⟨(RX10, TX10, 11), rfl, by decide, rfl, am_mem 230 (by decide +kernel) rfl⟩
theorem qp_X3_18 : am_lP RX3 18 10 1 false .int := ⟨(RX10, TX10, 11), rfl, by decide, rfl, am_mem 230 (by decide +kernel) rfl, rfl, (by decide +kernel), fun h => by cases h⟩
theorem qf_X3_24 : am_lF RX3 24 3 2 := ⟨(RX3, TX3, 3), rfl, by decide, rfl, am_mem 342 (by decide +kernel) rfl⟩
theorem qp_X3_24 : am_lP RX3 24 3 2 false .int := ⟨(RX3, TX3, 3), rfl, by decide, rfl, am_mem 342 (by decide +kernel) rfl, rfl, (by decide +kernel), fun h => by cases h⟩
theorem qf_X3_27 : am_lF RX3 27 10 5 := ⟨(RX10, TX10, 11), rfl, by decide, rfl, am_mem 245 (by decide +kernel) rfl⟩
theorem qp_X3_27 : am_lP RX3 27 10 5 false .int := ⟨(RX10, TX10, 11), rfl, by decide, rfl, am_mem 245 (by decide +kernel) rfl, rfl, (by decide +kernel), fun h => by cases h⟩
theorem qf_X3_30 : am_lF RX3 30 10 4 := ⟨(RX10, TX10, 11), rfl, by decide, rfl, am_mem 241 (by decide +kernel) rfl⟩
theorem qf_X3_34 : am_lF RX3 34 6 5 := ⟨(RX6, TX6, 6), rfl, by decide, rfl, am_mem 188 (by decide +kernel) rfl⟩
theorem qp_X3_34 : am_lP RX3 34 6 5 false .boolean := ⟨(RX6, TX6, 6), rfl, by decide, rfl, am_mem 188 (by decide +kernel) rfl, rfl, (by decide +kernel), fun h => by cases h⟩
theorem qf_X3_40 : am_lF RX3 40 6 0 := ⟨(RX6, TX6, 6), rfl, by decide, rfl, am_mem 163 (by decide +kernel) rfl⟩
theorem qp_X3_40 : am_lP RX3 40 6 0 false .int := ⟨(RX6, TX6, 6), rfl, by decide, rfl, am_mem 163 (by decide +kernel) rfl, rfl, (by decide +kernel), fun h => by cases h⟩
theorem qf_X3_43 : am_lF RX3 43 6 1 := ⟨(RX6, TX6, 6), rfl, by decide, rfl, am_mem 169 (by decide +kernel) rfl⟩
theorem qp_X3_43 : am_lP RX3 43 6 1 false .int := ⟨(RX6, TX6, 6), rfl, by decide, rfl, am_mem 169 (by decide +kernel) rfl, rfl, (by decide +kernel), fun h => by cases h⟩
theorem qf_X4_11 : am_lF RX4 11 4 0 := ⟨(RX4, TX4, 4), rfl, by decide, rfl, am_mem 356 (by decide +kernel) rfl⟩
theorem qp_X4_11 : am_lP RX4 11 4 0 true (.array .boolean) := ⟨(RX4, TX4, 4), rfl, by decide, rfl, am_mem 356 (by decide +kernel) rfl, rfl, (by decide +kernel), fun h => rfl⟩
theorem qf_X4_15 : am_lF RX4 15 10 5 := ⟨(RX10, TX10, 11), rfl, by decide, rfl, am_mem 244 (by decide +kernel) rfl⟩
theorem qp_X4_15 : am_lP RX4 15 10 5 false .int := ⟨(RX10, TX10, 11), rfl, by decide, rfl, am_mem 244 (by decide +kernel) rfl, rfl, (by decide +kernel), fun h => by cases h⟩
theorem qf_X4_21 : am_lF RX4 21 10 4 := ⟨(RX10, TX10, 11), rfl, by decide, rfl, am_mem 240 (by decide +kernel) rfl⟩
theorem qf_X4_25 : am_lF RX4 25 6 5 := ⟨(RX6, TX6, 6), rfl, by decide, rfl, am_mem 187 (by decide +kernel) rfl⟩
theorem qp_X4_25 : am_lP RX4 25 6 5 false .boolean := ⟨(RX6, TX6, 6), rfl, by decide, rfl, am_mem 187 (by decide +kernel) rfl, rfl, (by decide +kernel), fun h => by cases h⟩
theorem qf_X4_31 : am_lF RX4 31 6 2 := ⟨(RX6, TX6, 6), rfl, by decide, rfl, am_mem 174 (by decide +kernel) rfl⟩
theorem qp_X4_31 : am_lP RX4 31 6 2 false .int := ⟨(RX6, TX6, 6), rfl, by decide, rfl, am_mem 174 (by decide +kernel) rfl, rfl, (by decide +kernel), fun h => by cases h⟩
theorem qf_X4_41 : am_lF RX4 41 10 0 := ⟨(RX10, TX10, 11), rfl, by decide, rfl, am_mem 229 (by decide +kernel) rfl⟩
theorem qf_X4_45 : am_lF RX4 45 6 0 := ⟨(RX6, TX6, 6), rfl, by decide, rfl, am_mem 165 (by decide +kernel) rfl⟩
theorem qp_X4_45 : am_lP RX4 45 6 0 false .int := ⟨(RX6, TX6, 6), rfl, by decide, rfl, am_mem 165 (by decide +kernel) rfl, rfl, (by decide +kernel), fun h => by cases h⟩
theorem qf_X4_48 : am_lF RX4 48 6 1 := ⟨(RX6, TX6, 6), rfl, by decide, rfl, am_mem 171 (by decide +kernel) rfl⟩
theorem qp_X4_48 : am_lP RX4 48 6 1 false .int := ⟨(RX6, TX6, 6), rfl, by decide, rfl, am_mem 171 (by decide +kernel) rfl, rfl, (by decide +kernel), fun h => by cases h⟩
theorem qf_X4_51 : am_lF RX4 51 10 2 := ⟨(RX10, TX10, 11), rfl, by decide, rfl, am_mem 236 (by decide +kernel) rfl⟩
theorem qp_X4_51 : am_lP RX4 51 10 2 false .int := ⟨(RX10, TX10, 11), rfl, by decide, rfl, am_mem 236 (by decide +kernel) rfl, rfl, (by decide +kernel), fun h => by cases h⟩
theorem qf_X4_72 : am_lF RX4 72 6 3 := ⟨(RX6, TX6, 6), rfl, by decide, rfl, am_mem 179 (by decide +kernel) rfl⟩
theorem qp_X4_72 : am_lP RX4 72 6 3 false .int := ⟨(RX6, TX6, 6), rfl, by decide, rfl, am_mem 179 (by decide +kernel) rfl, rfl, (by decide +kernel), fun h => by cases h⟩
theorem qf_X4_79 : am_lF RX4 79 4 1 := ⟨(RX4, TX4, 4), rfl, by decide, rfl, am_mem 357 (by decide +kernel) rfl⟩
theorem qp_X4_79 : am_lP RX4 79 4 1 false .int := ⟨(RX4, TX4, 4), rfl, by decide, rfl, am_mem 357 (by decide +kernel) rfl, rfl, (by decide +kernel), fun h => by cases h⟩
theorem qf_X4_82 : am_lF RX4 82 4 2 := ⟨(RX4, TX4, 4), rfl, by decide, rfl, am_mem 359 (by decide +kernel) rfl⟩
theorem qp_X4_82 : am_lP RX4 82 4 2 false .int := ⟨(RX4, TX4, 4), rfl, by decide, rfl, am_mem 359 (by decide +kernel) rfl, rfl, (by decide +kernel), fun h => by cases h⟩
theorem qf_X4_89 : am_lF RX4 89 4 3 := ⟨(RX4, TX4, 4), rfl, by decide, rfl, am_mem 360 (by decide +kernel) rfl⟩
theorem qp_X4_89 : am_lP RX4 89 4 3 false .int := ⟨(RX4, TX4, 4), rfl, by decide, rfl, am_mem 360 (by decide +kernel) rfl, rfl, (by decide +kernel), fun h => by cases h⟩
theorem qf_X5_9 : am_lF RX5 9 5 5 := ⟨(RX5, TX5, 6), rfl, by decide, rfl, am_mem 124 (by decide +kernel) rfl⟩
theorem qp_X5_9 : am_lP RX5 9 5 5 false .int := ⟨(RX5, TX5, 6), rfl, by decide, rfl, am_mem 124 (by decide +kernel) rfl, rfl, (by decide +kernel), fun h => by cases h⟩
theorem qf_X5_31 : am_lF RX5 31 5 1 := ⟨(RX5, TX5, 6), rfl, by decide, rfl, am_mem 113 (by decide +kernel) rfl⟩
theorem qp_X5_31 : am_lP RX5 31 5 1 false .int := ⟨(RX5, TX5, 6), rfl, by decide, rfl, am_mem 113 (by decide +kernel) rfl, rfl, (by decide +kernel), fun h => by cases h⟩
theorem qf_X5_34 : am_lF RX5 34 5 2 := ⟨(RX5, TX5, 6), rfl, by decide, rfl, am_mem 116 (by decide +kernel) rfl⟩
theorem qp_X5_34 : am_lP RX5 34 5 2 false .int := ⟨(RX5, TX5, 6), rfl, by decide, rfl, am_mem 116 (by decide +kernel) rfl, rfl, (by decide +kernel), fun h => by cases h⟩
theorem qf_X5_37 : am_lF RX5 37 5 4 := ⟨(RX5, TX5, 6), rfl, by decide, rfl, am_mem 123 (by decide +kernel) rfl⟩
theorem qp_X5_37 : am_lP RX5 37 5 4 false .int := ⟨(RX5, TX5, 6), rfl, by decide, rfl, am_mem 123 (by decide +kernel) rfl, rfl, (by decide +kernel), fun h => by cases h⟩
theorem qf_X5_67 : am_lF RX5 67 5 0 := ⟨(RX5, TX5, 6), rfl, by decide, rfl, am_mem 111 (by decide +kernel) rfl⟩
theorem qp_X5_67 : am_lP RX5 67 5 0 false .int := ⟨(RX5, TX5, 6), rfl, by decide, rfl, am_mem 111 (by decide +kernel) rfl, rfl, (by decide +kernel), fun h => by cases h⟩
theorem qf_X5_70 : am_lF RX5 70 5 3 := ⟨(RX5, TX5, 6), rfl, by decide, rfl, am_mem 120 (by decide +kernel) rfl⟩
theorem qp_X5_70 : am_lP RX5 70 5 3 false .int := ⟨(RX5, TX5, 6), rfl, by decide, rfl, am_mem 120 (by decide +kernel) rfl, rfl, (by decide +kernel), fun h => by cases h⟩
theorem qf_X6_7 : am_lF RX6 7 6 5 := ⟨(RX6, TX6, 6), rfl, by decide, rfl, am_mem 186 (by decide +kernel) rfl⟩
theorem qp_X6_7 : am_lP RX6 7 6 5 false .boolean := ⟨(RX6, TX6, 6), rfl, by decide, rfl, am_mem 186 (by decide +kernel) rfl, rfl, (by decide +kernel), fun h => by cases h⟩
theorem qf_X6_13 : am_lF RX6 13 6 0 := ⟨(RX6, TX6, 6), rfl, by decide, rfl, am_mem 162 (by decide +kernel) rfl⟩
theorem qp_X6_13 : am_lP RX6 13 6 0 false .int := ⟨(RX6, TX6, 6), rfl, by decide, rfl, am_mem 162 (by decide +kernel) rfl, rfl, (by decide +kernel), fun h => by cases h⟩
theorem qf_X6_17 : am_lF RX6 17 6 1 := ⟨(RX6, TX6, 6), rfl, by decide, rfl, am_mem 168 (by decide +kernel) rfl⟩
theorem qp_X6_17 : am_lP RX6 17 6 1 false .int := ⟨(RX6, TX6, 6), rfl, by decide, rfl, am_mem 168 (by decide +kernel) rfl, rfl, (by decide +kernel), fun h => by cases h⟩
theorem qf_X6_20 : am_lF RX6 20 6 2 := ⟨(RX6, TX6, 6), rfl, by decide, rfl, am_mem 175 (by decide +kernel) rfl⟩
theorem qp_X6_20 : am_lP RX6 20 6 2 false .int := ⟨(RX6, TX6, 6), rfl, by decide, rfl, am_mem 175 (by decide +kernel) rfl, rfl, (by decide +kernel), fun h => by cases h⟩
theorem qf_X6_23 : am_lF RX6 23 6 3 := ⟨(RX6, TX6, 6), rfl, by decide, rfl, am_mem 178 (by decide +kernel) rfl⟩
theorem qp_X6_23 : am_lP RX6 23 6 3 false .int := ⟨(RX6, TX6, 6), rfl, by decide, rfl, am_mem 178 (by decide +kernel) rfl, rfl, (by decide +kernel), fun h => by cases h⟩
theorem qf_X6_26 : am_lF RX6 26 6 4 := ⟨(RX6, TX6, 6), rfl, by decide, rfl, am_mem 183 (by decide +kernel) rfl⟩
theorem qp_X6_26 : am_lP RX6 26 6 4 false .int := ⟨(RX6, TX6, 6), rfl, by decide, rfl, am_mem 183 (by decide +kernel) rfl, rfl, (by decide +kernel), fun h => by cases h⟩
theorem qf_X7_9 : am_lF RX7 9 7 2 := ⟨(RX7, TX7, 3), rfl, by decide, rfl, am_mem 390 (by decide +kernel) rfl⟩
theorem qp_X7_9 : am_lP RX7 9 7 2 true (.array .int) := ⟨(RX7, TX7, 3), rfl, by decide, rfl, am_mem 390 (by decide +kernel) rfl, rfl, (by decide +kernel), fun h => rfl⟩
theorem qf_X7_15 : am_lF RX7 15 7 0 := ⟨(RX7, TX7, 3), rfl, by decide, rfl, am_mem 386 (by decide +kernel) rfl⟩
theorem qp_X7_15 : am_lP RX7 15 7 0 false .int := ⟨(RX7, TX7, 3), rfl, by decide, rfl, am_mem 386 (by decide +kernel) rfl, rfl, (by decide +kernel), fun h => by cases h⟩
theorem qf_X7_19 : am_lF RX7 19 7 1 := ⟨(RX7, TX7, 3), rfl, by decide, rfl, am_mem 388 (by decide +kernel) rfl⟩
theorem qp_X7_19 : am_lP RX7 19 7 1 false .int := ⟨(RX7, TX7, 3), rfl, by decide, rfl, am_mem 388 (by decide +kernel) rfl, rfl, (by decide +kernel), fun h => by cases h⟩
theorem qf_X8_9 : am_lF RX8 9 8 0 := ⟨(RX8, TX8, 6), rfl, by decide, rfl, am_mem 289 (by decide +kernel) rfl⟩
theorem qp_X8_9 : am_lP RX8 9 8 0 true (.array .int) := ⟨(RX8, TX8, 6), rfl, by decide, rfl, am_mem 289 (by decide +kernel) rfl, rfl, (by decide +kernel), fun h => rfl⟩
theorem qf_X8_15 : am_lF RX8 15 8 1 := ⟨(RX8, TX8, 6), rfl, by decide, rfl, am_mem 290 (by decide +kernel) rfl⟩
theorem qp_X8_15 : am_lP RX8 15 8 1 false (.array .int) := ⟨(RX8, TX8, 6), rfl, by decide, rfl, am_mem 290 (by decide +kernel) rfl, rfl, (by decide +kernel), fun h => by cases h⟩
theorem qf_X8_26 : am_lF RX8 26 8 5 := ⟨(RX8, TX8, 6), rfl, by decide, rfl, am_mem 294 (by decide +kernel) rfl⟩
theorem qp_X8_26 : am_lP RX8 26 8 5 false .boolean := ⟨(RX8, TX8, 6), rfl, by decide, rfl, am_mem 294 (by decide +kernel) rfl, rfl, (by decide +kernel), fun h => by cases h⟩
theorem qf_X8_30 : am_lF RX8 30 8 4 := ⟨(RX8, TX8, 6), rfl, by decide, rfl, am_mem 293 (by decide +kernel) rfl⟩
theorem qp_X8_30 : am_lP RX8 30 8 4 false .int := ⟨(RX8, TX8, 6), rfl, by decide, rfl, am_mem 293 (by decide +kernel) rfl, rfl, (by decide +kernel), fun h => by cases h⟩
theorem qf_X8_34 : am_lF RX8 34 8 3 := ⟨(RX8, TX8, 6), rfl, by decide, rfl, am_mem 292 (by decide +kernel) rfl⟩
theorem qp_X8_34 : am_lP RX8 34 8 3 false .int := ⟨(RX8, TX8, 6), rfl, by decide, rfl, am_mem 292 (by decide +kernel) rfl, rfl, (by decide +kernel), fun h => by cases h⟩
theorem qf_X8_37 : am_lF RX8 37 10 2 := ⟨(RX10, TX10, 11), rfl, by decide, rfl, am_mem 234 (by decide +kernel) rfl⟩
theorem qp_X8_37 : am_lP RX8 37 10 2 false .int := ⟨(RX10, TX10, 11), rfl, by decide, rfl, am_mem 234 (by decide +kernel) rfl, rfl, (by decide +kernel), fun h => by cases h⟩
theorem qf_X8_47 : am_lF RX8 47 5 2 := ⟨(RX5, TX5, 6), rfl, by decide, rfl, am_mem 115 (by decide +kernel) rfl⟩
theorem qp_X8_47 : am_lP RX8 47 5 2 false .int := ⟨(RX5, TX5, 6), rfl, by decide, rfl, am_mem 115 (by decide +kernel) rfl, rfl, (by decide +kernel), fun h => by cases h⟩
theorem qf_X8_50 : am_lF RX8 50 5 4 := ⟨(RX5, TX5, 6), rfl, by decide, rfl, am_mem 122 (by decide +kernel) rfl⟩
theorem qp_X8_50 : am_lP RX8 50 5 4 false .int := ⟨(RX5, TX5, 6), rfl, by decide, rfl, am_mem 122 (by decide +kernel) rfl, rfl, (by decide +kernel), fun h => by cases h⟩
theorem qf_X8_53 : am_lF RX8 53 5 5 := ⟨(RX5, TX5, 6), rfl, by decide, rfl, am_mem 126 (by decide +kernel) rfl⟩
theorem qp_X8_53 : am_lP RX8 53 5 5 false .int := ⟨(RX5, TX5, 6), rfl, by decide, rfl, am_mem 126 (by decide +kernel) rfl, rfl, (by decide +kernel), fun h => by cases h⟩
theorem qf_X8_59 : am_lF RX8 59 5 3 := ⟨(RX5, TX5, 6), rfl, by decide, rfl, am_mem 118 (by decide +kernel) rfl⟩
theorem qp_X8_59 : am_lP RX8 59 5 3 false .int := ⟨(RX5, TX5, 6), rfl, by decide, rfl, am_mem 118 (by decide +kernel) rfl, rfl, (by decide +kernel), fun h => by cases h⟩
theorem qf_X8_62 : am_lF RX8 62 10 8 := ⟨(RX10, TX10, 11), rfl, by decide, rfl, am_mem 253 (by decide +kernel) rfl⟩
theorem qf_X8_65 : am_lF RX8 65 10 9 := ⟨(RX10, TX10, 11), rfl, by decide, rfl, am_mem 255 (by decide +kernel) rfl⟩
theorem qp_X8_65 : am_lP RX8 65 10 9 false .int := ⟨(RX10, TX10, 11), rfl, by decide, rfl, am_mem 255 (by decide +kernel) rfl, rfl, (by decide +kernel), fun h => by cases h⟩
theorem qf_X8_74 : am_lF RX8 74 8 2 := ⟨(RX8, TX8, 6), rfl, by decide, rfl, am_mem 291 (by decide +kernel) rfl⟩
theorem qp_X8_74 : am_lP RX8 74 8 2 false .int := ⟨(RX8, TX8, 6), rfl, by decide, rfl, am_mem 291 (by decide +kernel) rfl, rfl, (by decide +kernel), fun h => by cases h⟩
theorem qf_X9_9 : am_lF RX9 9 9 0 := ⟨(RX9, TX9, 3), rfl, by decide, rfl, am_mem 399 (by decide +kernel) rfl⟩
theorem qp_X9_9 : am_lP RX9 9 9 0 false .int := ⟨(RX9, TX9, 3), rfl, by decide, rfl, am_mem 399 (by decide +kernel) rfl, rfl, (by decide +kernel), fun h => by cases h⟩
theorem qf_X9_18 : am_lF RX9 18 9 1 := ⟨(RX9, TX9, 3), rfl, by decide, rfl, am_mem 401 (by decide +kernel) rfl⟩
theorem qp_X9_18 : am_lP RX9 18 9 1 true (.object "CandleBar$Light") := ⟨(RX9, TX9, 3), rfl, by decide, rfl, am_mem 401 (by decide +kernel) rfl, rfl, (by decide +kernel), fun h => rfl⟩
theorem qf_X9_25 : am_lF RX9 25 9 2 := ⟨(RX9, TX9, 3), rfl, by decide, rfl, am_mem 403 (by decide +kernel) rfl⟩
theorem qp_X9_25 : am_lP RX9 25 9 2 true (.object "CandleBar$Row") := ⟨(RX9, TX9, 3), rfl, by decide, rfl, am_mem 403 (by decide +kernel) rfl, rfl, (by decide +kernel), fun h => rfl⟩
theorem qf_X10_11 : am_lF RX10 11 10 0 := ⟨(RX10, TX10, 11), rfl, by decide, rfl, am_mem 227 (by decide +kernel) rfl⟩
theorem qp_X10_11 : am_lP RX10 11 10 0 true (.array (.object "CandleBar$Light")) := ⟨(RX10, TX10, 11), rfl, by decide, rfl, am_mem 227 (by decide +kernel) rfl, rfl, (by decide +kernel), fun h => rfl⟩
theorem qf_X10_19 : am_lF RX10 19 10 3 := ⟨(RX10, TX10, 11), rfl, by decide, rfl, am_mem 237 (by decide +kernel) rfl⟩
theorem qp_X10_19 : am_lP RX10 19 10 3 true (.array (.object "CandleBar$Eye")) := ⟨(RX10, TX10, 11), rfl, by decide, rfl, am_mem 237 (by decide +kernel) rfl, rfl, (by decide +kernel), fun h => rfl⟩
theorem qf_X10_25 : am_lF RX10 25 10 4 := ⟨(RX10, TX10, 11), rfl, by decide, rfl, am_mem 239 (by decide +kernel) rfl⟩
theorem qp_X10_25 : am_lP RX10 25 10 4 true (.array (.object "CandleBar$Match")) := ⟨(RX10, TX10, 11), rfl, by decide, rfl, am_mem 239 (by decide +kernel) rfl, rfl, (by decide +kernel), fun h => rfl⟩
theorem qf_X10_31 : am_lF RX10 31 10 6 := ⟨(RX10, TX10, 11), rfl, by decide, rfl, am_mem 248 (by decide +kernel) rfl⟩
theorem qp_X10_31 : am_lP RX10 31 10 6 true (.array (.object "CandleBar$Bill")) := ⟨(RX10, TX10, 11), rfl, by decide, rfl, am_mem 248 (by decide +kernel) rfl, rfl, (by decide +kernel), fun h => rfl⟩
theorem qf_X10_35 : am_lF RX10 35 10 8 := ⟨(RX10, TX10, 11), rfl, by decide, rfl, am_mem 252 (by decide +kernel) rfl⟩
theorem qp_X10_35 : am_lP RX10 35 10 8 true (.array .int) := ⟨(RX10, TX10, 11), rfl, by decide, rfl, am_mem 252 (by decide +kernel) rfl, rfl, (by decide +kernel), fun h => rfl⟩
theorem qf_X10_39 : am_lF RX10 39 10 9 := ⟨(RX10, TX10, 11), rfl, by decide, rfl, am_mem 254 (by decide +kernel) rfl⟩
theorem qp_X10_39 : am_lP RX10 39 10 9 false .int := ⟨(RX10, TX10, 11), rfl, by decide, rfl, am_mem 254 (by decide +kernel) rfl, rfl, (by decide +kernel), fun h => by cases h⟩
theorem qf_X10_43 : am_lF RX10 43 10 10 := ⟨(RX10, TX10, 11), rfl, by decide, rfl, am_mem 256 (by decide +kernel) rfl⟩
theorem qp_X10_43 : am_lP RX10 43 10 10 false .int := ⟨(RX10, TX10, 11), rfl, by decide, rfl, am_mem 256 (by decide +kernel) rfl, rfl, (by decide +kernel), fun h => by cases h⟩
theorem qf_X10_50 : am_lF RX10 50 10 1 := ⟨(RX10, TX10, 11), rfl, by decide, rfl, am_mem 231 (by decide +kernel) rfl⟩
theorem qp_X10_50 : am_lP RX10 50 10 1 false .int := ⟨(RX10, TX10, 11), rfl, by decide, rfl, am_mem 231 (by decide +kernel) rfl, rfl, (by decide +kernel), fun h => by cases h⟩
theorem qf_X10_53 : am_lF RX10 53 10 2 := ⟨(RX10, TX10, 11), rfl, by decide, rfl, am_mem 233 (by decide +kernel) rfl⟩
theorem qp_X10_53 : am_lP RX10 53 10 2 false .int := ⟨(RX10, TX10, 11), rfl, by decide, rfl, am_mem 233 (by decide +kernel) rfl, rfl, (by decide +kernel), fun h => by cases h⟩
theorem qf_X10_56 : am_lF RX10 56 10 5 := ⟨(RX10, TX10, 11), rfl, by decide, rfl, am_mem 243 (by decide +kernel) rfl⟩
theorem qp_X10_56 : am_lP RX10 56 10 5 false .int := ⟨(RX10, TX10, 11), rfl, by decide, rfl, am_mem 243 (by decide +kernel) rfl, rfl, (by decide +kernel), fun h => by cases h⟩
theorem qf_X10_59 : am_lF RX10 59 10 7 := ⟨(RX10, TX10, 11), rfl, by decide, rfl, am_mem 250 (by decide +kernel) rfl⟩
theorem qp_X10_59 : am_lP RX10 59 10 7 false .int := ⟨(RX10, TX10, 11), rfl, by decide, rfl, am_mem 250 (by decide +kernel) rfl, rfl, (by decide +kernel), fun h => by cases h⟩
theorem qf_X10_99 : am_lF RX10 99 6 0 := ⟨(RX6, TX6, 6), rfl, by decide, rfl, am_mem 166 (by decide +kernel) rfl⟩
theorem qp_X10_99 : am_lP RX10 99 6 0 false .int := ⟨(RX6, TX6, 6), rfl, by decide, rfl, am_mem 166 (by decide +kernel) rfl, rfl, (by decide +kernel), fun h => by cases h⟩
theorem qf_X10_102 : am_lF RX10 102 6 1 := ⟨(RX6, TX6, 6), rfl, by decide, rfl, am_mem 172 (by decide +kernel) rfl⟩
theorem qp_X10_102 : am_lP RX10 102 6 1 false .int := ⟨(RX6, TX6, 6), rfl, by decide, rfl, am_mem 172 (by decide +kernel) rfl, rfl, (by decide +kernel), fun h => by cases h⟩
theorem qf_X10_105 : am_lF RX10 105 6 2 := ⟨(RX6, TX6, 6), rfl, by decide, rfl, am_mem 176 (by decide +kernel) rfl⟩
theorem qp_X10_105 : am_lP RX10 105 6 2 false .int := ⟨(RX6, TX6, 6), rfl, by decide, rfl, am_mem 176 (by decide +kernel) rfl, rfl, (by decide +kernel), fun h => by cases h⟩
theorem qf_X10_108 : am_lF RX10 108 6 3 := ⟨(RX6, TX6, 6), rfl, by decide, rfl, am_mem 181 (by decide +kernel) rfl⟩
theorem qp_X10_108 : am_lP RX10 108 6 3 false .int := ⟨(RX6, TX6, 6), rfl, by decide, rfl, am_mem 181 (by decide +kernel) rfl, rfl, (by decide +kernel), fun h => by cases h⟩
theorem qf_X10_111 : am_lF RX10 111 6 4 := ⟨(RX6, TX6, 6), rfl, by decide, rfl, am_mem 184 (by decide +kernel) rfl⟩
theorem qp_X10_111 : am_lP RX10 111 6 4 false .int := ⟨(RX6, TX6, 6), rfl, by decide, rfl, am_mem 184 (by decide +kernel) rfl, rfl, (by decide +kernel), fun h => by cases h⟩
theorem qf_X10_114 : am_lF RX10 114 6 5 := ⟨(RX6, TX6, 6), rfl, by decide, rfl, am_mem 190 (by decide +kernel) rfl⟩
theorem qp_X10_114 : am_lP RX10 114 6 5 false .boolean := ⟨(RX6, TX6, 6), rfl, by decide, rfl, am_mem 190 (by decide +kernel) rfl, rfl, (by decide +kernel), fun h => by cases h⟩
theorem qf_X10_118 : am_lF RX10 118 5 5 := ⟨(RX5, TX5, 6), rfl, by decide, rfl, am_mem 127 (by decide +kernel) rfl⟩
theorem qp_X10_118 : am_lP RX10 118 5 5 false .int := ⟨(RX5, TX5, 6), rfl, by decide, rfl, am_mem 127 (by decide +kernel) rfl, rfl, (by decide +kernel), fun h => by cases h⟩
theorem qf_X12_9 : am_lF RX12 9 12 0 := ⟨(RX12, TX12, 23), rfl, by decide, rfl, am_mem 1063 (by decide +kernel) rfl⟩
theorem qp_X12_9 : am_lP RX12 9 12 0 true (.array .int) := ⟨(RX12, TX12, 23), rfl, by decide, rfl, am_mem 1063 (by decide +kernel) rfl, rfl, (by decide +kernel), fun h => rfl⟩
theorem qf_X12_13 : am_lF RX12 13 12 1 := ⟨(RX12, TX12, 23), rfl, by decide, rfl, am_mem 1064 (by decide +kernel) rfl⟩
theorem qp_X12_13 : am_lP RX12 13 12 1 true (.array .int) := ⟨(RX12, TX12, 23), rfl, by decide, rfl, am_mem 1064 (by decide +kernel) rfl, rfl, (by decide +kernel), fun h => rfl⟩
theorem qf_X12_16 : am_lF RX12 16 12 2 := ⟨(RX12, TX12, 23), rfl, by decide, rfl, am_mem 1065 (by decide +kernel) rfl⟩
theorem qp_X12_16 : am_lP RX12 16 12 2 true (.array .long) := ⟨(RX12, TX12, 23), rfl, by decide, rfl, am_mem 1065 (by decide +kernel) rfl, rfl, (by decide +kernel), fun h => rfl⟩
theorem qf_X12_20 : am_lF RX12 20 12 3 := ⟨(RX12, TX12, 23), rfl, by decide, rfl, am_mem 1066 (by decide +kernel) rfl⟩
theorem qp_X12_20 : am_lP RX12 20 12 3 true (.array .long) := ⟨(RX12, TX12, 23), rfl, by decide, rfl, am_mem 1066 (by decide +kernel) rfl, rfl, (by decide +kernel), fun h => rfl⟩
theorem qf_X12_23 : am_lF RX12 23 12 4 := ⟨(RX12, TX12, 23), rfl, by decide, rfl, am_mem 1067 (by decide +kernel) rfl⟩
theorem qp_X12_23 : am_lP RX12 23 12 4 true (.array .int) := ⟨(RX12, TX12, 23), rfl, by decide, rfl, am_mem 1067 (by decide +kernel) rfl, rfl, (by decide +kernel), fun h => rfl⟩
theorem qf_X12_26 : am_lF RX12 26 12 5 := ⟨(RX12, TX12, 23), rfl, by decide, rfl, am_mem 1068 (by decide +kernel) rfl⟩
theorem qp_X12_26 : am_lP RX12 26 12 5 true (.array .int) := ⟨(RX12, TX12, 23), rfl, by decide, rfl, am_mem 1068 (by decide +kernel) rfl, rfl, (by decide +kernel), fun h => rfl⟩
theorem qf_X12_29 : am_lF RX12 29 12 6 := ⟨(RX12, TX12, 23), rfl, by decide, rfl, am_mem 1069 (by decide +kernel) rfl⟩
theorem qp_X12_29 : am_lP RX12 29 12 6 true (.array .int) := ⟨(RX12, TX12, 23), rfl, by decide, rfl, am_mem 1069 (by decide +kernel) rfl, rfl, (by decide +kernel), fun h => rfl⟩
theorem qf_X12_32 : am_lF RX12 32 12 7 := ⟨(RX12, TX12, 23), rfl, by decide, rfl, am_mem 1070 (by decide +kernel) rfl⟩
theorem qp_X12_32 : am_lP RX12 32 12 7 true (.array .int) := ⟨(RX12, TX12, 23), rfl, by decide, rfl, am_mem 1070 (by decide +kernel) rfl, rfl, (by decide +kernel), fun h => rfl⟩
theorem qf_X12_35 : am_lF RX12 35 12 8 := ⟨(RX12, TX12, 23), rfl, by decide, rfl, am_mem 1071 (by decide +kernel) rfl⟩
theorem qp_X12_35 : am_lP RX12 35 12 8 true (.array .int) := ⟨(RX12, TX12, 23), rfl, by decide, rfl, am_mem 1071 (by decide +kernel) rfl, rfl, (by decide +kernel), fun h => rfl⟩
theorem qf_X12_38 : am_lF RX12 38 12 9 := ⟨(RX12, TX12, 23), rfl, by decide, rfl, am_mem 1072 (by decide +kernel) rfl⟩
theorem qp_X12_38 : am_lP RX12 38 12 9 true (.array .int) := ⟨(RX12, TX12, 23), rfl, by decide, rfl, am_mem 1072 (by decide +kernel) rfl, rfl, (by decide +kernel), fun h => rfl⟩
theorem qf_X12_41 : am_lF RX12 41 12 12 := ⟨(RX12, TX12, 23), rfl, by decide, rfl, am_mem 1075 (by decide +kernel) rfl⟩
theorem qp_X12_41 : am_lP RX12 41 12 12 true (.array .int) := ⟨(RX12, TX12, 23), rfl, by decide, rfl, am_mem 1075 (by decide +kernel) rfl, rfl, (by decide +kernel), fun h => rfl⟩
theorem qf_X12_44 : am_lF RX12 44 12 14 := ⟨(RX12, TX12, 23), rfl, by decide, rfl, am_mem 1077 (by decide +kernel) rfl⟩
theorem qp_X12_44 : am_lP RX12 44 12 14 true (.array .int) := ⟨(RX12, TX12, 23), rfl, by decide, rfl, am_mem 1077 (by decide +kernel) rfl, rfl, (by decide +kernel), fun h => rfl⟩
theorem qf_X12_47 : am_lF RX12 47 12 20 := ⟨(RX12, TX12, 23), rfl, by decide, rfl, am_mem 1083 (by decide +kernel) rfl⟩
theorem qp_X12_47 : am_lP RX12 47 12 20 false (.array .int) := ⟨(RX12, TX12, 23), rfl, by decide, rfl, am_mem 1083 (by decide +kernel) rfl, rfl, (by decide +kernel), fun h => by cases h⟩
theorem qf_X12_50 : am_lF RX12 50 12 22 := ⟨(RX12, TX12, 23), rfl, by decide, rfl, am_mem 1085 (by decide +kernel) rfl⟩
theorem qp_X12_50 : am_lP RX12 50 12 22 true (.array .int) := ⟨(RX12, TX12, 23), rfl, by decide, rfl, am_mem 1085 (by decide +kernel) rfl, rfl, (by decide +kernel), fun h => rfl⟩
theorem qf_X12_53 : am_lF RX12 53 12 11 := ⟨(RX12, TX12, 23), rfl, by decide, rfl, am_mem 1074 (by decide +kernel) rfl⟩
theorem qp_X12_53 : am_lP RX12 53 12 11 false .int := ⟨(RX12, TX12, 23), rfl, by decide, rfl, am_mem 1074 (by decide +kernel) rfl, rfl, (by decide +kernel), fun h => by cases h⟩
theorem qf_X12_161 : am_lF RX12 161 12 13 := ⟨(RX12, TX12, 23), rfl, by decide, rfl, am_mem 1076 (by decide +kernel) rfl⟩
theorem qp_X12_161 : am_lP RX12 161 12 13 false .int := ⟨(RX12, TX12, 23), rfl, by decide, rfl, am_mem 1076 (by decide +kernel) rfl, rfl, (by decide +kernel), fun h => by cases h⟩
theorem qf_X12_196 : am_lF RX12 196 12 15 := ⟨(RX12, TX12, 23), rfl, by decide, rfl, am_mem 1078 (by decide +kernel) rfl⟩
theorem qp_X12_196 : am_lP RX12 196 12 15 false .int := ⟨(RX12, TX12, 23), rfl, by decide, rfl, am_mem 1078 (by decide +kernel) rfl, rfl, (by decide +kernel), fun h => by cases h⟩
theorem qf_X12_199 : am_lF RX12 199 12 17 := ⟨(RX12, TX12, 23), rfl, by decide, rfl, am_mem 1080 (by decide +kernel) rfl⟩
theorem qp_X12_199 : am_lP RX12 199 12 17 false .int := ⟨(RX12, TX12, 23), rfl, by decide, rfl, am_mem 1080 (by decide +kernel) rfl, rfl, (by decide +kernel), fun h => by cases h⟩
theorem qf_X12_202 : am_lF RX12 202 12 16 := ⟨(RX12, TX12, 23), rfl, by decide, rfl, am_mem 1079 (by decide +kernel) rfl⟩
theorem qp_X12_202 : am_lP RX12 202 12 16 false .int := ⟨(RX12, TX12, 23), rfl, by decide, rfl, am_mem 1079 (by decide +kernel) rfl, rfl, (by decide +kernel), fun h => by cases h⟩
theorem qf_X12_213 : am_lF RX12 213 12 19 := ⟨(RX12, TX12, 23), rfl, by decide, rfl, am_mem 1082 (by decide +kernel) rfl⟩
theorem qp_X12_213 : am_lP RX12 213 12 19 false .int := ⟨(RX12, TX12, 23), rfl, by decide, rfl, am_mem 1082 (by decide +kernel) rfl, rfl, (by decide +kernel), fun h => by cases h⟩
theorem qf_X12_226 : am_lF RX12 226 12 18 := ⟨(RX12, TX12, 23), rfl, by decide, rfl, am_mem 1081 (by decide +kernel) rfl⟩
theorem qp_X12_226 : am_lP RX12 226 12 18 false .int := ⟨(RX12, TX12, 23), rfl, by decide, rfl, am_mem 1081 (by decide +kernel) rfl, rfl, (by decide +kernel), fun h => by cases h⟩
theorem qf_X12_250 : am_lF RX12 250 12 21 := ⟨(RX12, TX12, 23), rfl, by decide, rfl, am_mem 1084 (by decide +kernel) rfl⟩
theorem qp_X12_250 : am_lP RX12 250 12 21 false .int := ⟨(RX12, TX12, 23), rfl, by decide, rfl, am_mem 1084 (by decide +kernel) rfl, rfl, (by decide +kernel), fun h => by cases h⟩
theorem qf_X12_289 : am_lF RX12 289 12 10 := ⟨(RX12, TX12, 23), rfl, by decide, rfl, am_mem 1073 (by decide +kernel) rfl⟩
theorem qp_X12_289 : am_lP RX12 289 12 10 false .boolean := ⟨(RX12, TX12, 23), rfl, by decide, rfl, am_mem 1073 (by decide +kernel) rfl, rfl, (by decide +kernel), fun h => by cases h⟩
theorem qm_X11_init : am_y yX11_init cX11_init 2 none 0 := ⟨am_mem 87 (by decide +kernel) rfl, am_mem 61 (by decide +kernel) rfl, (by decide +kernel), ⟨(by decide +kernel), (by decide +kernel), (by decide +kernel)⟩, by decide⟩
theorem qi_X11_init : Cond.instanceMethod yX11_init ∈ am_gt := am_mem 86 (by decide +kernel) rfl
theorem qm_X10_init : am_y yX10_init cX10_init 2 none 0 := ⟨am_mem 95 (by decide +kernel) rfl, am_mem 62 (by decide +kernel) rfl, (by decide +kernel), ⟨(by decide +kernel), (by decide +kernel), (by decide +kernel)⟩, by decide⟩
theorem qi_X10_init : Cond.instanceMethod yX10_init ∈ am_gt := am_mem 94 (by decide +kernel) rfl
theorem qm_X5_init : am_y yX5_init cX5_init 1 none 0 := ⟨am_mem 108 (by decide +kernel) rfl, am_mem 63 (by decide +kernel) rfl, (by decide +kernel), ⟨(by decide +kernel), (by decide +kernel), (by decide +kernel)⟩, by decide⟩
theorem qi_X5_init : Cond.instanceMethod yX5_init ∈ am_gt := am_mem 107 (by decide +kernel) rfl
theorem qm_X2_init : am_y yX2_init cX2_init 1 none 0 := ⟨am_mem 145 (by decide +kernel) rfl, am_mem 64 (by decide +kernel) rfl, (by decide +kernel), ⟨(by decide +kernel), (by decide +kernel), (by decide +kernel)⟩, by decide⟩
theorem qi_X2_init : Cond.instanceMethod yX2_init ∈ am_gt := am_mem 144 (by decide +kernel) rfl
theorem qm_X6_init : am_y yX6_init cX6_init 1 none 0 := ⟨am_mem 160 (by decide +kernel) rfl, am_mem 65 (by decide +kernel) rfl, (by decide +kernel), ⟨(by decide +kernel), (by decide +kernel), (by decide +kernel)⟩, by decide⟩
theorem qi_X6_init : Cond.instanceMethod yX6_init ∈ am_gt := am_mem 159 (by decide +kernel) rfl
theorem qm_X0_init : am_y yX0_init cX0_init 1 none 0 := ⟨am_mem 208 (by decide +kernel) rfl, am_mem 66 (by decide +kernel) rfl, (by decide +kernel), ⟨(by decide +kernel), (by decide +kernel), (by decide +kernel)⟩, by decide⟩
theorem qi_X0_init : Cond.instanceMethod yX0_init ∈ am_gt := am_mem 207 (by decide +kernel) rfl
theorem qm_X8_init : am_y yX8_init cX8_init 1 none 0 := ⟨am_mem 287 (by decide +kernel) rfl, am_mem 67 (by decide +kernel) rfl, (by decide +kernel), ⟨(by decide +kernel), (by decide +kernel), (by decide +kernel)⟩, by decide⟩
theorem qi_X8_init : Cond.instanceMethod yX8_init ∈ am_gt := am_mem 286 (by decide +kernel) rfl
theorem qm_X1_init : am_y yX1_init cX1_init 1 none 0 := ⟨am_mem 312 (by decide +kernel) rfl, am_mem 68 (by decide +kernel) rfl, (by decide +kernel), ⟨(by decide +kernel), (by decide +kernel), (by decide +kernel)⟩, by decide⟩
theorem qi_X1_init : Cond.instanceMethod yX1_init ∈ am_gt := am_mem 311 (by decide +kernel) rfl
theorem qm_X3_init : am_y yX3_init cX3_init 1 none 0 := ⟨am_mem 338 (by decide +kernel) rfl, am_mem 69 (by decide +kernel) rfl, (by decide +kernel), ⟨(by decide +kernel), (by decide +kernel), (by decide +kernel)⟩, by decide⟩
theorem qi_X3_init : Cond.instanceMethod yX3_init ∈ am_gt := am_mem 337 (by decide +kernel) rfl
theorem qm_X4_init : am_y yX4_init cX4_init 1 none 0 := ⟨am_mem 354 (by decide +kernel) rfl, am_mem 70 (by decide +kernel) rfl, (by decide +kernel), ⟨(by decide +kernel), (by decide +kernel), (by decide +kernel)⟩, by decide⟩
theorem qi_X4_init : Cond.instanceMethod yX4_init ∈ am_gt := am_mem 353 (by decide +kernel) rfl
theorem qm_X9_init : am_y yX9_init cX9_init 1 none 0 := ⟨am_mem 376 (by decide +kernel) rfl, am_mem 71 (by decide +kernel) rfl, (by decide +kernel), ⟨(by decide +kernel), (by decide +kernel), (by decide +kernel)⟩, by decide⟩
theorem qi_X9_init : Cond.instanceMethod yX9_init ∈ am_gt := am_mem 375 (by decide +kernel) rfl
theorem qm_X7_init : am_y yX7_init cX7_init 1 none 0 := ⟨am_mem 384 (by decide +kernel) rfl, am_mem 72 (by decide +kernel) rfl, (by decide +kernel), ⟨(by decide +kernel), (by decide +kernel), (by decide +kernel)⟩, by decide⟩
theorem qi_X7_init : Cond.instanceMethod yX7_init ∈ am_gt := am_mem 383 (by decide +kernel) rfl
theorem qm_X11_light : am_y yX11_light cX11_light 7 (some .int) 4 := ⟨am_mem 443 (by decide +kernel) rfl, am_mem 61 (by decide +kernel) rfl, (by decide +kernel), ⟨(by decide +kernel), (by decide +kernel), (by decide +kernel)⟩, by decide⟩
theorem qv_X11_light : am_yV yX11_light := ⟨am_mem 441 (by decide +kernel) rfl, am_mem 442 (by decide +kernel) rfl⟩
theorem qm_X11_within : am_y yX11_within cX11_within 3 (some .boolean) 3 := ⟨am_mem 446 (by decide +kernel) rfl, am_mem 61 (by decide +kernel) rfl, (by decide +kernel), ⟨(by decide +kernel), (by decide +kernel), (by decide +kernel)⟩, by decide⟩
theorem qs_X11_within : Cond.static yX11_within ∈ am_gt := am_mem 445 (by decide +kernel) rfl
theorem qm_X11_setting : am_y yX11_setting cX11_setting 5 (some .int) 2 := ⟨am_mem 450 (by decide +kernel) rfl, am_mem 61 (by decide +kernel) rfl, (by decide +kernel), ⟨(by decide +kernel), (by decide +kernel), (by decide +kernel)⟩, by decide⟩
theorem qv_X11_setting : am_yV yX11_setting := ⟨am_mem 448 (by decide +kernel) rfl, am_mem 449 (by decide +kernel) rfl⟩
theorem qm_X10_lightAt : am_y yX10_lightAt cX10_lightAt 2 (some (.object "CandleBar$Light")) 1 := ⟨am_mem 454 (by decide +kernel) rfl, am_mem 62 (by decide +kernel) rfl, (by decide +kernel), ⟨(by decide +kernel), (by decide +kernel), (by decide +kernel)⟩, by decide⟩
theorem qv_X10_lightAt : am_yV yX10_lightAt := ⟨am_mem 452 (by decide +kernel) rfl, am_mem 453 (by decide +kernel) rfl⟩
theorem qm_X10_isLight : am_y yX10_isLight cX10_isLight 2 (some .boolean) 1 := ⟨am_mem 458 (by decide +kernel) rfl, am_mem 62 (by decide +kernel) rfl, (by decide +kernel), ⟨(by decide +kernel), (by decide +kernel), (by decide +kernel)⟩, by decide⟩
theorem qv_X10_isLight : am_yV yX10_isLight := ⟨am_mem 456 (by decide +kernel) rfl, am_mem 457 (by decide +kernel) rfl⟩
theorem qm_X11_burn : am_y yX11_burn cX11_burn 4 (some .int) 2 := ⟨am_mem 463 (by decide +kernel) rfl, am_mem 61 (by decide +kernel) rfl, (by decide +kernel), ⟨(by decide +kernel), (by decide +kernel), (by decide +kernel)⟩, by decide⟩
theorem qv_X11_burn : am_yV yX11_burn := ⟨am_mem 461 (by decide +kernel) rfl, am_mem 462 (by decide +kernel) rfl⟩
theorem qm_X11_damp : am_y yX11_damp cX11_damp 3 (some .int) 1 := ⟨am_mem 468 (by decide +kernel) rfl, am_mem 61 (by decide +kernel) rfl, (by decide +kernel), ⟨(by decide +kernel), (by decide +kernel), (by decide +kernel)⟩, by decide⟩
theorem qv_X11_damp : am_yV yX11_damp := ⟨am_mem 466 (by decide +kernel) rfl, am_mem 467 (by decide +kernel) rfl⟩
theorem qm_X11_of : am_y yX11_of cX11_of 4 (some .int) 2 := ⟨am_mem 472 (by decide +kernel) rfl, am_mem 61 (by decide +kernel) rfl, (by decide +kernel), ⟨(by decide +kernel), (by decide +kernel), (by decide +kernel)⟩, by decide⟩
theorem qv_X11_of : am_yV yX11_of := ⟨am_mem 470 (by decide +kernel) rfl, am_mem 471 (by decide +kernel) rfl⟩
theorem qm_X5_shineIn : am_y yX5_shineIn cX5_shineIn 2 (some .int) 1 := ⟨am_mem 476 (by decide +kernel) rfl, am_mem 63 (by decide +kernel) rfl, (by decide +kernel), ⟨(by decide +kernel), (by decide +kernel), (by decide +kernel)⟩, by decide⟩
theorem qv_X5_shineIn : am_yV yX5_shineIn := ⟨am_mem 474 (by decide +kernel) rfl, am_mem 475 (by decide +kernel) rfl⟩
theorem qm_X5_shineAfter : am_y yX5_shineAfter cX5_shineAfter 3 (some .int) 2 := ⟨am_mem 480 (by decide +kernel) rfl, am_mem 63 (by decide +kernel) rfl, (by decide +kernel), ⟨(by decide +kernel), (by decide +kernel), (by decide +kernel)⟩, by decide⟩
theorem qv_X5_shineAfter : am_yV yX5_shineAfter := ⟨am_mem 478 (by decide +kernel) rfl, am_mem 479 (by decide +kernel) rfl⟩
theorem qm_X5_unheld : am_y yX5_unheld cX5_unheld 3 (some .int) 2 := ⟨am_mem 485 (by decide +kernel) rfl, am_mem 63 (by decide +kernel) rfl, (by decide +kernel), ⟨(by decide +kernel), (by decide +kernel), (by decide +kernel)⟩, by decide⟩
theorem qv_X5_unheld : am_yV yX5_unheld := ⟨am_mem 484 (by decide +kernel) rfl, am_mem 0 (by decide +kernel) rfl⟩
theorem qm_X5_glow : am_y yX5_glow cX5_glow 2 (some .int) 1 := ⟨am_mem 489 (by decide +kernel) rfl, am_mem 63 (by decide +kernel) rfl, (by decide +kernel), ⟨(by decide +kernel), (by decide +kernel), (by decide +kernel)⟩, by decide⟩
theorem qv_X5_glow : am_yV yX5_glow := ⟨am_mem 488 (by decide +kernel) rfl, am_mem 1 (by decide +kernel) rfl⟩
theorem qm_X5_wanderIn : am_y yX5_wanderIn cX5_wanderIn 2 (some .int) 1 := ⟨am_mem 499 (by decide +kernel) rfl, am_mem 63 (by decide +kernel) rfl, (by decide +kernel), ⟨(by decide +kernel), (by decide +kernel), (by decide +kernel)⟩, by decide⟩
theorem qv_X5_wanderIn : am_yV yX5_wanderIn := ⟨am_mem 497 (by decide +kernel) rfl, am_mem 498 (by decide +kernel) rfl⟩
theorem qm_X11_eye : am_y yX11_eye cX11_eye 7 (some .int) 3 := ⟨am_mem 506 (by decide +kernel) rfl, am_mem 61 (by decide +kernel) rfl, (by decide +kernel), ⟨(by decide +kernel), (by decide +kernel), (by decide +kernel)⟩, by decide⟩
theorem qv_X11_eye : am_yV yX11_eye := ⟨am_mem 504 (by decide +kernel) rfl, am_mem 505 (by decide +kernel) rfl⟩
theorem qm_X10_eyeAt : am_y yX10_eyeAt cX10_eyeAt 2 (some (.object "CandleBar$Eye")) 1 := ⟨am_mem 510 (by decide +kernel) rfl, am_mem 62 (by decide +kernel) rfl, (by decide +kernel), ⟨(by decide +kernel), (by decide +kernel), (by decide +kernel)⟩, by decide⟩
theorem qv_X10_eyeAt : am_yV yX10_eyeAt := ⟨am_mem 508 (by decide +kernel) rfl, am_mem 509 (by decide +kernel) rfl⟩
theorem qm_X2_weightOf : am_y yX2_weightOf cX2_weightOf 2 (some .int) 1 := ⟨am_mem 514 (by decide +kernel) rfl, am_mem 64 (by decide +kernel) rfl, (by decide +kernel), ⟨(by decide +kernel), (by decide +kernel), (by decide +kernel)⟩, by decide⟩
theorem qv_X2_weightOf : am_yV yX2_weightOf := ⟨am_mem 512 (by decide +kernel) rfl, am_mem 513 (by decide +kernel) rfl⟩
theorem qm_X2_change : am_y yX2_change cX2_change 3 none 2 := ⟨am_mem 518 (by decide +kernel) rfl, am_mem 64 (by decide +kernel) rfl, (by decide +kernel), ⟨(by decide +kernel), (by decide +kernel), (by decide +kernel)⟩, by decide⟩
theorem qv_X2_change : am_yV yX2_change := ⟨am_mem 516 (by decide +kernel) rfl, am_mem 517 (by decide +kernel) rfl⟩
theorem qm_X11_seen : am_y yX11_seen cX11_seen 6 (some .long) 3 := ⟨am_mem 522 (by decide +kernel) rfl, am_mem 61 (by decide +kernel) rfl, (by decide +kernel), ⟨(by decide +kernel), (by decide +kernel), (by decide +kernel)⟩, by decide⟩
theorem qv_X11_seen : am_yV yX11_seen := ⟨am_mem 520 (by decide +kernel) rfl, am_mem 521 (by decide +kernel) rfl⟩
theorem qm_X2_see : am_y yX2_see cX2_see 5 (some .long) 3 := ⟨am_mem 527 (by decide +kernel) rfl, am_mem 64 (by decide +kernel) rfl, (by decide +kernel), ⟨(by decide +kernel), (by decide +kernel), (by decide +kernel)⟩, by decide⟩
theorem qv_X2_see : am_yV yX2_see := ⟨am_mem 525 (by decide +kernel) rfl, am_mem 526 (by decide +kernel) rfl⟩
theorem qm_X2_weigh : am_y yX2_weigh cX2_weigh 4 (some .long) 4 := ⟨am_mem 532 (by decide +kernel) rfl, am_mem 64 (by decide +kernel) rfl, (by decide +kernel), ⟨(by decide +kernel), (by decide +kernel), (by decide +kernel)⟩, by decide⟩
theorem qs_X2_weigh : Cond.static yX2_weigh ∈ am_gt := am_mem 531 (by decide +kernel) rfl
theorem qm_X11_alike : am_y yX11_alike cX11_alike 6 (some .int) 4 := ⟨am_mem 536 (by decide +kernel) rfl, am_mem 61 (by decide +kernel) rfl, (by decide +kernel), ⟨(by decide +kernel), (by decide +kernel), (by decide +kernel)⟩, by decide⟩
theorem qv_X11_alike : am_yV yX11_alike := ⟨am_mem 534 (by decide +kernel) rfl, am_mem 535 (by decide +kernel) rfl⟩
theorem qm_X10_isPair : am_y yX10_isPair cX10_isPair 3 (some .boolean) 2 := ⟨am_mem 540 (by decide +kernel) rfl, am_mem 62 (by decide +kernel) rfl, (by decide +kernel), ⟨(by decide +kernel), (by decide +kernel), (by decide +kernel)⟩, by decide⟩
theorem qv_X10_isPair : am_yV yX10_isPair := ⟨am_mem 538 (by decide +kernel) rfl, am_mem 539 (by decide +kernel) rfl⟩
theorem qm_X10_placeFor : am_y yX10_placeFor cX10_placeFor 5 (some .int) 4 := ⟨am_mem 544 (by decide +kernel) rfl, am_mem 62 (by decide +kernel) rfl, (by decide +kernel), ⟨(by decide +kernel), (by decide +kernel), (by decide +kernel)⟩, by decide⟩
theorem qv_X10_placeFor : am_yV yX10_placeFor := ⟨am_mem 542 (by decide +kernel) rfl, am_mem 543 (by decide +kernel) rfl⟩
theorem qm_X11_placeOf : am_y yX11_placeOf cX11_placeOf 6 (some .int) 2 := ⟨am_mem 548 (by decide +kernel) rfl, am_mem 61 (by decide +kernel) rfl, (by decide +kernel), ⟨(by decide +kernel), (by decide +kernel), (by decide +kernel)⟩, by decide⟩
theorem qs_X11_placeOf : Cond.static yX11_placeOf ∈ am_gt := am_mem 547 (by decide +kernel) rfl
theorem qm_X11_isPlaceUpTo : am_y yX11_isPlaceUpTo cX11_isPlaceUpTo 7 (some .boolean) 3 := ⟨am_mem 551 (by decide +kernel) rfl, am_mem 61 (by decide +kernel) rfl, (by decide +kernel), ⟨(by decide +kernel), (by decide +kernel), (by decide +kernel)⟩, by decide⟩
theorem qs_X11_isPlaceUpTo : Cond.static yX11_isPlaceUpTo ∈ am_gt := am_mem 550 (by decide +kernel) rfl
theorem qm_X11_match : am_y yX11_match cX11_match 6 (some .int) 4 := ⟨am_mem 555 (by decide +kernel) rfl, am_mem 61 (by decide +kernel) rfl, (by decide +kernel), ⟨(by decide +kernel), (by decide +kernel), (by decide +kernel)⟩, by decide⟩
theorem qv_X11_match : am_yV yX11_match := ⟨am_mem 553 (by decide +kernel) rfl, am_mem 554 (by decide +kernel) rfl⟩
theorem qm_X10_addMatch : am_y yX10_addMatch cX10_addMatch 8 (some .int) 5 := ⟨am_mem 559 (by decide +kernel) rfl, am_mem 62 (by decide +kernel) rfl, (by decide +kernel), ⟨(by decide +kernel), (by decide +kernel), (by decide +kernel)⟩, by decide⟩
theorem qv_X10_addMatch : am_yV yX10_addMatch := ⟨am_mem 557 (by decide +kernel) rfl, am_mem 558 (by decide +kernel) rfl⟩
theorem qm_X11_hear : am_y yX11_hear cX11_hear 7 (some .int) 1 := ⟨am_mem 564 (by decide +kernel) rfl, am_mem 61 (by decide +kernel) rfl, (by decide +kernel), ⟨(by decide +kernel), (by decide +kernel), (by decide +kernel)⟩, by decide⟩
theorem qv_X11_hear : am_yV yX11_hear := ⟨am_mem 562 (by decide +kernel) rfl, am_mem 563 (by decide +kernel) rfl⟩
theorem qm_X11_shelfRefusal : am_y yX11_shelfRefusal cX11_shelfRefusal 3 (some .int) 2 := ⟨am_mem 568 (by decide +kernel) rfl, am_mem 61 (by decide +kernel) rfl, (by decide +kernel), ⟨(by decide +kernel), (by decide +kernel), (by decide +kernel)⟩, by decide⟩
theorem qv_X11_shelfRefusal : am_yV yX11_shelfRefusal := ⟨am_mem 567 (by decide +kernel) rfl, am_mem 2 (by decide +kernel) rfl⟩
theorem qm_X7_isTiredAt : am_y yX7_isTiredAt cX7_isTiredAt 4 (some .boolean) 1 := ⟨am_mem 572 (by decide +kernel) rfl, am_mem 72 (by decide +kernel) rfl, (by decide +kernel), ⟨(by decide +kernel), (by decide +kernel), (by decide +kernel)⟩, by decide⟩
theorem qv_X7_isTiredAt : am_yV yX7_isTiredAt := ⟨am_mem 570 (by decide +kernel) rfl, am_mem 571 (by decide +kernel) rfl⟩
theorem qm_X7_leastNumber : am_y yX7_leastNumber cX7_leastNumber 1 (some .int) 0 := ⟨am_mem 576 (by decide +kernel) rfl, am_mem 72 (by decide +kernel) rfl, (by decide +kernel), ⟨(by decide +kernel), (by decide +kernel), (by decide +kernel)⟩, by decide⟩
theorem qv_X7_leastNumber : am_yV yX7_leastNumber := ⟨am_mem 575 (by decide +kernel) rfl, am_mem 3 (by decide +kernel) rfl⟩
theorem qm_X11_told : am_y yX11_told cX11_told 4 (some .int) 2 := ⟨am_mem 581 (by decide +kernel) rfl, am_mem 61 (by decide +kernel) rfl, (by decide +kernel), ⟨(by decide +kernel), (by decide +kernel), (by decide +kernel)⟩, by decide⟩
theorem qv_X11_told : am_yV yX11_told := ⟨am_mem 579 (by decide +kernel) rfl, am_mem 580 (by decide +kernel) rfl⟩
theorem qm_X10_matchAt : am_y yX10_matchAt cX10_matchAt 2 (some (.object "CandleBar$Match")) 1 := ⟨am_mem 585 (by decide +kernel) rfl, am_mem 62 (by decide +kernel) rfl, (by decide +kernel), ⟨(by decide +kernel), (by decide +kernel), (by decide +kernel)⟩, by decide⟩
theorem qv_X10_matchAt : am_yV yX10_matchAt := ⟨am_mem 583 (by decide +kernel) rfl, am_mem 584 (by decide +kernel) rfl⟩
theorem qm_X11_out : am_y yX11_out cX11_out 5 (some .int) 2 := ⟨am_mem 589 (by decide +kernel) rfl, am_mem 61 (by decide +kernel) rfl, (by decide +kernel), ⟨(by decide +kernel), (by decide +kernel), (by decide +kernel)⟩, by decide⟩
theorem qv_X11_out : am_yV yX11_out := ⟨am_mem 587 (by decide +kernel) rfl, am_mem 588 (by decide +kernel) rfl⟩
theorem qm_X11_chain : am_y yX11_chain cX11_chain 4 (some .int) 3 := ⟨am_mem 593 (by decide +kernel) rfl, am_mem 61 (by decide +kernel) rfl, (by decide +kernel), ⟨(by decide +kernel), (by decide +kernel), (by decide +kernel)⟩, by decide⟩
theorem qv_X11_chain : am_yV yX11_chain := ⟨am_mem 591 (by decide +kernel) rfl, am_mem 592 (by decide +kernel) rfl⟩
theorem qm_X1_find : am_y yX1_find cX1_find 6 (some .boolean) 3 := ⟨am_mem 598 (by decide +kernel) rfl, am_mem 68 (by decide +kernel) rfl, (by decide +kernel), ⟨(by decide +kernel), (by decide +kernel), (by decide +kernel)⟩, by decide⟩
theorem qv_X1_find : am_yV yX1_find := ⟨am_mem 596 (by decide +kernel) rfl, am_mem 597 (by decide +kernel) rfl⟩
theorem qm_X1_measure : am_y yX1_measure cX1_measure 6 none 2 := ⟨am_mem 602 (by decide +kernel) rfl, am_mem 68 (by decide +kernel) rfl, (by decide +kernel), ⟨(by decide +kernel), (by decide +kernel), (by decide +kernel)⟩, by decide⟩
theorem qv_X1_measure : am_yV yX1_measure := ⟨am_mem 601 (by decide +kernel) rfl, am_mem 4 (by decide +kernel) rfl⟩
theorem qm_X1_reach : am_y yX1_reach cX1_reach 4 none 3 := ⟨am_mem 606 (by decide +kernel) rfl, am_mem 68 (by decide +kernel) rfl, (by decide +kernel), ⟨(by decide +kernel), (by decide +kernel), (by decide +kernel)⟩, by decide⟩
theorem qv_X1_reach : am_yV yX1_reach := ⟨am_mem 605 (by decide +kernel) rfl, am_mem 5 (by decide +kernel) rfl⟩
theorem qm_X1_firstNearer : am_y yX1_firstNearer cX1_firstNearer 5 (some .int) 2 := ⟨am_mem 610 (by decide +kernel) rfl, am_mem 68 (by decide +kernel) rfl, (by decide +kernel), ⟨(by decide +kernel), (by decide +kernel), (by decide +kernel)⟩, by decide⟩
theorem qv_X1_firstNearer : am_yV yX1_firstNearer := ⟨am_mem 609 (by decide +kernel) rfl, am_mem 6 (by decide +kernel) rfl⟩
theorem qm_X6_joins : am_y yX6_joins cX6_joins 2 (some .boolean) 1 := ⟨am_mem 614 (by decide +kernel) rfl, am_mem 65 (by decide +kernel) rfl, (by decide +kernel), ⟨(by decide +kernel), (by decide +kernel), (by decide +kernel)⟩, by decide⟩
theorem qv_X6_joins : am_yV yX6_joins := ⟨am_mem 612 (by decide +kernel) rfl, am_mem 613 (by decide +kernel) rfl⟩
theorem qm_X6_otherThan : am_y yX6_otherThan cX6_otherThan 2 (some .int) 1 := ⟨am_mem 618 (by decide +kernel) rfl, am_mem 65 (by decide +kernel) rfl, (by decide +kernel), ⟨(by decide +kernel), (by decide +kernel), (by decide +kernel)⟩, by decide⟩
theorem qv_X6_otherThan : am_yV yX6_otherThan := ⟨am_mem 616 (by decide +kernel) rfl, am_mem 617 (by decide +kernel) rfl⟩
theorem qm_X11_span : am_y yX11_span cX11_span 5 (some .long) 4 := ⟨am_mem 622 (by decide +kernel) rfl, am_mem 61 (by decide +kernel) rfl, (by decide +kernel), ⟨(by decide +kernel), (by decide +kernel), (by decide +kernel)⟩, by decide⟩
theorem qv_X11_span : am_yV yX11_span := ⟨am_mem 620 (by decide +kernel) rfl, am_mem 621 (by decide +kernel) rfl⟩
theorem qm_X1_multiply : am_y yX1_multiply cX1_multiply 13 none 3 := ⟨am_mem 627 (by decide +kernel) rfl, am_mem 68 (by decide +kernel) rfl, (by decide +kernel), ⟨(by decide +kernel), (by decide +kernel), (by decide +kernel)⟩, by decide⟩
theorem qv_X1_multiply : am_yV yX1_multiply := ⟨am_mem 625 (by decide +kernel) rfl, am_mem 626 (by decide +kernel) rfl⟩
theorem qm_X1_greatestDivisor : am_y yX1_greatestDivisor cX1_greatestDivisor 11 (some .long) 2 := ⟨am_mem 630 (by decide +kernel) rfl, am_mem 68 (by decide +kernel) rfl, (by decide +kernel), ⟨(by decide +kernel), (by decide +kernel), (by decide +kernel)⟩, by decide⟩
theorem qs_X1_greatestDivisor : Cond.static yX1_greatestDivisor ∈ am_gt := am_mem 629 (by decide +kernel) rfl
theorem qm_X11_laws : am_y yX11_laws cX11_laws 4 (some .int) 3 := ⟨am_mem 634 (by decide +kernel) rfl, am_mem 61 (by decide +kernel) rfl, (by decide +kernel), ⟨(by decide +kernel), (by decide +kernel), (by decide +kernel)⟩, by decide⟩
theorem qv_X11_laws : am_yV yX11_laws := ⟨am_mem 632 (by decide +kernel) rfl, am_mem 633 (by decide +kernel) rfl⟩
theorem qm_X4_read : am_y yX4_read cX4_read 5 none 3 := ⟨am_mem 638 (by decide +kernel) rfl, am_mem 70 (by decide +kernel) rfl, (by decide +kernel), ⟨(by decide +kernel), (by decide +kernel), (by decide +kernel)⟩, by decide⟩
theorem qv_X4_read : am_yV yX4_read := ⟨am_mem 636 (by decide +kernel) rfl, am_mem 637 (by decide +kernel) rfl⟩
theorem qm_X4_strike : am_y yX4_strike cX4_strike 13 none 3 := ⟨am_mem 642 (by decide +kernel) rfl, am_mem 70 (by decide +kernel) rfl, (by decide +kernel), ⟨(by decide +kernel), (by decide +kernel), (by decide +kernel)⟩, by decide⟩
theorem qv_X4_strike : am_yV yX4_strike := ⟨am_mem 641 (by decide +kernel) rfl, am_mem 7 (by decide +kernel) rfl⟩
theorem qm_X4_yellowOf : am_y yX4_yellowOf cX4_yellowOf 1 (some .int) 1 := ⟨am_mem 646 (by decide +kernel) rfl, am_mem 70 (by decide +kernel) rfl, (by decide +kernel), ⟨(by decide +kernel), (by decide +kernel), (by decide +kernel)⟩, by decide⟩
theorem qs_X4_yellowOf : Cond.static yX4_yellowOf ∈ am_gt := am_mem 645 (by decide +kernel) rfl
theorem qm_X4_blueOf : am_y yX4_blueOf cX4_blueOf 1 (some .int) 1 := ⟨am_mem 649 (by decide +kernel) rfl, am_mem 70 (by decide +kernel) rfl, (by decide +kernel), ⟨(by decide +kernel), (by decide +kernel), (by decide +kernel)⟩, by decide⟩
theorem qs_X4_blueOf : Cond.static yX4_blueOf ∈ am_gt := am_mem 648 (by decide +kernel) rfl
theorem qm_X4_sumUp : am_y yX4_sumUp cX4_sumUp 2 none 0 := ⟨am_mem 655 (by decide +kernel) rfl, am_mem 70 (by decide +kernel) rfl, (by decide +kernel), ⟨(by decide +kernel), (by decide +kernel), (by decide +kernel)⟩, by decide⟩
theorem qv_X4_sumUp : am_yV yX4_sumUp := ⟨am_mem 654 (by decide +kernel) rfl, am_mem 8 (by decide +kernel) rfl⟩
theorem qm_X4_isYellower : am_y yX4_isYellower cX4_isYellower 2 (some .boolean) 2 := ⟨am_mem 658 (by decide +kernel) rfl, am_mem 70 (by decide +kernel) rfl, (by decide +kernel), ⟨(by decide +kernel), (by decide +kernel), (by decide +kernel)⟩, by decide⟩
theorem qs_X4_isYellower : Cond.static yX4_isYellower ∈ am_gt := am_mem 657 (by decide +kernel) rfl
theorem qm_X4_lawAt : am_y yX4_lawAt cX4_lawAt 4 (some .int) 1 := ⟨am_mem 662 (by decide +kernel) rfl, am_mem 70 (by decide +kernel) rfl, (by decide +kernel), ⟨(by decide +kernel), (by decide +kernel), (by decide +kernel)⟩, by decide⟩
theorem qv_X4_lawAt : am_yV yX4_lawAt := ⟨am_mem 660 (by decide +kernel) rfl, am_mem 661 (by decide +kernel) rfl⟩
theorem qm_X11_parts : am_y yX11_parts cX11_parts 5 (some .int) 4 := ⟨am_mem 666 (by decide +kernel) rfl, am_mem 61 (by decide +kernel) rfl, (by decide +kernel), ⟨(by decide +kernel), (by decide +kernel), (by decide +kernel)⟩, by decide⟩
theorem qv_X11_parts : am_yV yX11_parts := ⟨am_mem 664 (by decide +kernel) rfl, am_mem 665 (by decide +kernel) rfl⟩
theorem qm_X4_apart : am_y yX4_apart cX4_apart 4 (some .int) 3 := ⟨am_mem 670 (by decide +kernel) rfl, am_mem 70 (by decide +kernel) rfl, (by decide +kernel), ⟨(by decide +kernel), (by decide +kernel), (by decide +kernel)⟩, by decide⟩
theorem qv_X4_apart : am_yV yX4_apart := ⟨am_mem 668 (by decide +kernel) rfl, am_mem 669 (by decide +kernel) rfl⟩
theorem qm_X4_placeBy : am_y yX4_placeBy cX4_placeBy 8 (some .int) 4 := ⟨am_mem 673 (by decide +kernel) rfl, am_mem 70 (by decide +kernel) rfl, (by decide +kernel), ⟨(by decide +kernel), (by decide +kernel), (by decide +kernel)⟩, by decide⟩
theorem qs_X4_placeBy : Cond.static yX4_placeBy ∈ am_gt := am_mem 672 (by decide +kernel) rfl
theorem qm_X11_show : am_y yX11_show cX11_show 8 (some .int) 2 := ⟨am_mem 679 (by decide +kernel) rfl, am_mem 61 (by decide +kernel) rfl, (by decide +kernel), ⟨(by decide +kernel), (by decide +kernel), (by decide +kernel)⟩, by decide⟩
theorem qv_X11_show : am_yV yX11_show := ⟨am_mem 677 (by decide +kernel) rfl, am_mem 678 (by decide +kernel) rfl⟩
theorem qm_X11_disagree : am_y yX11_disagree cX11_disagree 8 (some .int) 5 := ⟨am_mem 683 (by decide +kernel) rfl, am_mem 61 (by decide +kernel) rfl, (by decide +kernel), ⟨(by decide +kernel), (by decide +kernel), (by decide +kernel)⟩, by decide⟩
theorem qv_X11_disagree : am_yV yX11_disagree := ⟨am_mem 681 (by decide +kernel) rfl, am_mem 682 (by decide +kernel) rfl⟩
theorem qm_X11_mean : am_y yX11_mean cX11_mean 3 (some .int) 2 := ⟨am_mem 688 (by decide +kernel) rfl, am_mem 61 (by decide +kernel) rfl, (by decide +kernel), ⟨(by decide +kernel), (by decide +kernel), (by decide +kernel)⟩, by decide⟩
theorem qv_X11_mean : am_yV yX11_mean := ⟨am_mem 686 (by decide +kernel) rfl, am_mem 687 (by decide +kernel) rfl⟩
theorem qm_X11_makeMeanEye : am_y yX11_makeMeanEye cX11_makeMeanEye 6 none 1 := ⟨am_mem 692 (by decide +kernel) rfl, am_mem 61 (by decide +kernel) rfl, (by decide +kernel), ⟨(by decide +kernel), (by decide +kernel), (by decide +kernel)⟩, by decide⟩
theorem qv_X11_makeMeanEye : am_yV yX11_makeMeanEye := ⟨am_mem 691 (by decide +kernel) rfl, am_mem 9 (by decide +kernel) rfl⟩
theorem qm_J6_bitCount_0f7a4 : am_y yJ6_bitCount_0f7a4 cJ6_bitCount_0f7a4 1 (some .int) 1 := ⟨am_mem 695 (by decide +kernel) rfl, am_mem 75 (by decide +kernel) rfl, (by decide +kernel), ⟨(by decide +kernel), (by decide +kernel), (by decide +kernel)⟩, by decide⟩
theorem qs_J6_bitCount_0f7a4 : Cond.static yJ6_bitCount_0f7a4 ∈ am_gt := am_mem 694 (by decide +kernel) rfl
theorem qm_X11_isIn : am_y yX11_isIn cX11_isIn 2 (some .boolean) 2 := ⟨am_mem 701 (by decide +kernel) rfl, am_mem 61 (by decide +kernel) rfl, (by decide +kernel), ⟨(by decide +kernel), (by decide +kernel), (by decide +kernel)⟩, by decide⟩
theorem qs_X11_isIn : Cond.static yX11_isIn ∈ am_gt := am_mem 700 (by decide +kernel) rfl
theorem qm_X11_stands : am_y yX11_stands cX11_stands 7 (some .int) 3 := ⟨am_mem 705 (by decide +kernel) rfl, am_mem 61 (by decide +kernel) rfl, (by decide +kernel), ⟨(by decide +kernel), (by decide +kernel), (by decide +kernel)⟩, by decide⟩
theorem qv_X11_stands : am_yV yX11_stands := ⟨am_mem 703 (by decide +kernel) rfl, am_mem 704 (by decide +kernel) rfl⟩
theorem qm_X11_fault : am_y yX11_fault cX11_fault 3 (some .int) 1 := ⟨am_mem 710 (by decide +kernel) rfl, am_mem 61 (by decide +kernel) rfl, (by decide +kernel), ⟨(by decide +kernel), (by decide +kernel), (by decide +kernel)⟩, by decide⟩
theorem qv_X11_fault : am_yV yX11_fault := ⟨am_mem 708 (by decide +kernel) rfl, am_mem 709 (by decide +kernel) rfl⟩
theorem qm_X11_textRefusal : am_y yX11_textRefusal cX11_textRefusal 3 (some .int) 1 := ⟨am_mem 714 (by decide +kernel) rfl, am_mem 61 (by decide +kernel) rfl, (by decide +kernel), ⟨(by decide +kernel), (by decide +kernel), (by decide +kernel)⟩, by decide⟩
theorem qv_X11_textRefusal : am_yV yX11_textRefusal := ⟨am_mem 713 (by decide +kernel) rfl, am_mem 10 (by decide +kernel) rfl⟩
theorem qm_X8_findFault : am_y yX8_findFault cX8_findFault 3 (some .int) 2 := ⟨am_mem 718 (by decide +kernel) rfl, am_mem 67 (by decide +kernel) rfl, (by decide +kernel), ⟨(by decide +kernel), (by decide +kernel), (by decide +kernel)⟩, by decide⟩
theorem qv_X8_findFault : am_yV yX8_findFault := ⟨am_mem 716 (by decide +kernel) rfl, am_mem 717 (by decide +kernel) rfl⟩
theorem qm_X8_begin : am_y yX8_begin cX8_begin 3 none 2 := ⟨am_mem 722 (by decide +kernel) rfl, am_mem 67 (by decide +kernel) rfl, (by decide +kernel), ⟨(by decide +kernel), (by decide +kernel), (by decide +kernel)⟩, by decide⟩
theorem qv_X8_begin : am_yV yX8_begin := ⟨am_mem 721 (by decide +kernel) rfl, am_mem 11 (by decide +kernel) rfl⟩
theorem qm_X8_step : am_y yX8_step cX8_step 1 none 0 := ⟨am_mem 727 (by decide +kernel) rfl, am_mem 67 (by decide +kernel) rfl, (by decide +kernel), ⟨(by decide +kernel), (by decide +kernel), (by decide +kernel)⟩, by decide⟩
theorem qv_X8_step : am_yV yX8_step := ⟨am_mem 726 (by decide +kernel) rfl, am_mem 12 (by decide +kernel) rfl⟩
theorem qm_X8_readSum : am_y yX8_readSum cX8_readSum 6 (some .int) 1 := ⟨am_mem 731 (by decide +kernel) rfl, am_mem 67 (by decide +kernel) rfl, (by decide +kernel), ⟨(by decide +kernel), (by decide +kernel), (by decide +kernel)⟩, by decide⟩
theorem qv_X8_readSum : am_yV yX8_readSum := ⟨am_mem 730 (by decide +kernel) rfl, am_mem 13 (by decide +kernel) rfl⟩
theorem qm_X8_readProduct : am_y yX8_readProduct cX8_readProduct 6 (some .int) 1 := ⟨am_mem 735 (by decide +kernel) rfl, am_mem 67 (by decide +kernel) rfl, (by decide +kernel), ⟨(by decide +kernel), (by decide +kernel), (by decide +kernel)⟩, by decide⟩
theorem qv_X8_readProduct : am_yV yX8_readProduct := ⟨am_mem 734 (by decide +kernel) rfl, am_mem 14 (by decide +kernel) rfl⟩
theorem qm_X8_readAtom : am_y yX8_readAtom cX8_readAtom 4 (some .int) 1 := ⟨am_mem 739 (by decide +kernel) rfl, am_mem 67 (by decide +kernel) rfl, (by decide +kernel), ⟨(by decide +kernel), (by decide +kernel), (by decide +kernel)⟩, by decide⟩
theorem qv_X8_readAtom : am_yV yX8_readAtom := ⟨am_mem 738 (by decide +kernel) rfl, am_mem 15 (by decide +kernel) rfl⟩
theorem qm_X8_readNumber : am_y yX8_readNumber cX8_readNumber 4 (some .int) 0 := ⟨am_mem 744 (by decide +kernel) rfl, am_mem 67 (by decide +kernel) rfl, (by decide +kernel), ⟨(by decide +kernel), (by decide +kernel), (by decide +kernel)⟩, by decide⟩
theorem qv_X8_readNumber : am_yV yX8_readNumber := ⟨am_mem 743 (by decide +kernel) rfl, am_mem 16 (by decide +kernel) rfl⟩
theorem qm_X8_expect : am_y yX8_expect cX8_expect 2 none 1 := ⟨am_mem 748 (by decide +kernel) rfl, am_mem 67 (by decide +kernel) rfl, (by decide +kernel), ⟨(by decide +kernel), (by decide +kernel), (by decide +kernel)⟩, by decide⟩
theorem qv_X8_expect : am_yV yX8_expect := ⟨am_mem 747 (by decide +kernel) rfl, am_mem 17 (by decide +kernel) rfl⟩
theorem qm_X11_rule : am_y yX11_rule cX11_rule 5 (some .int) 1 := ⟨am_mem 754 (by decide +kernel) rfl, am_mem 61 (by decide +kernel) rfl, (by decide +kernel), ⟨(by decide +kernel), (by decide +kernel), (by decide +kernel)⟩, by decide⟩
theorem qv_X11_rule : am_yV yX11_rule := ⟨am_mem 752 (by decide +kernel) rfl, am_mem 753 (by decide +kernel) rfl⟩
theorem qm_X10_putInForce : am_y yX10_putInForce cX10_putInForce 4 none 2 := ⟨am_mem 758 (by decide +kernel) rfl, am_mem 62 (by decide +kernel) rfl, (by decide +kernel), ⟨(by decide +kernel), (by decide +kernel), (by decide +kernel)⟩, by decide⟩
theorem qv_X10_putInForce : am_yV yX10_putInForce := ⟨am_mem 756 (by decide +kernel) rfl, am_mem 757 (by decide +kernel) rfl⟩
theorem qm_X11_right : am_y yX11_right cX11_right 3 (some .int) 1 := ⟨am_mem 762 (by decide +kernel) rfl, am_mem 61 (by decide +kernel) rfl, (by decide +kernel), ⟨(by decide +kernel), (by decide +kernel), (by decide +kernel)⟩, by decide⟩
theorem qv_X11_right : am_yV yX11_right := ⟨am_mem 760 (by decide +kernel) rfl, am_mem 761 (by decide +kernel) rfl⟩
theorem qm_X8_workOut : am_y yX8_workOut cX8_workOut 3 (some .int) 2 := ⟨am_mem 766 (by decide +kernel) rfl, am_mem 67 (by decide +kernel) rfl, (by decide +kernel), ⟨(by decide +kernel), (by decide +kernel), (by decide +kernel)⟩, by decide⟩
theorem qv_X8_workOut : am_yV yX8_workOut := ⟨am_mem 764 (by decide +kernel) rfl, am_mem 765 (by decide +kernel) rfl⟩
theorem qm_X11_standard : am_y yX11_standard cX11_standard 3 (some .int) 1 := ⟨am_mem 772 (by decide +kernel) rfl, am_mem 61 (by decide +kernel) rfl, (by decide +kernel), ⟨(by decide +kernel), (by decide +kernel), (by decide +kernel)⟩, by decide⟩
theorem qv_X11_standard : am_yV yX11_standard := ⟨am_mem 770 (by decide +kernel) rfl, am_mem 771 (by decide +kernel) rfl⟩
theorem qm_X11_worth : am_y yX11_worth cX11_worth 3 (some .long) 1 := ⟨am_mem 776 (by decide +kernel) rfl, am_mem 61 (by decide +kernel) rfl, (by decide +kernel), ⟨(by decide +kernel), (by decide +kernel), (by decide +kernel)⟩, by decide⟩
theorem qv_X11_worth : am_yV yX11_worth := ⟨am_mem 774 (by decide +kernel) rfl, am_mem 775 (by decide +kernel) rfl⟩
theorem qm_X11_worthOf : am_y yX11_worthOf cX11_worthOf 5 (some .long) 1 := ⟨am_mem 781 (by decide +kernel) rfl, am_mem 61 (by decide +kernel) rfl, (by decide +kernel), ⟨(by decide +kernel), (by decide +kernel), (by decide +kernel)⟩, by decide⟩
theorem qv_X11_worthOf : am_yV yX11_worthOf := ⟨am_mem 780 (by decide +kernel) rfl, am_mem 18 (by decide +kernel) rfl⟩
theorem qm_X11_steady : am_y yX11_steady cX11_steady 4 (some .int) 1 := ⟨am_mem 786 (by decide +kernel) rfl, am_mem 61 (by decide +kernel) rfl, (by decide +kernel), ⟨(by decide +kernel), (by decide +kernel), (by decide +kernel)⟩, by decide⟩
theorem qv_X11_steady : am_yV yX11_steady := ⟨am_mem 784 (by decide +kernel) rfl, am_mem 785 (by decide +kernel) rfl⟩
theorem qm_X11_isSteadier : am_y yX11_isSteadier cX11_isSteadier 7 (some .boolean) 2 := ⟨am_mem 790 (by decide +kernel) rfl, am_mem 61 (by decide +kernel) rfl, (by decide +kernel), ⟨(by decide +kernel), (by decide +kernel), (by decide +kernel)⟩, by decide⟩
theorem qv_X11_isSteadier : am_yV yX11_isSteadier := ⟨am_mem 789 (by decide +kernel) rfl, am_mem 19 (by decide +kernel) rfl⟩
theorem qm_X11_aged : am_y yX11_aged cX11_aged 4 (some .int) 1 := ⟨am_mem 794 (by decide +kernel) rfl, am_mem 61 (by decide +kernel) rfl, (by decide +kernel), ⟨(by decide +kernel), (by decide +kernel), (by decide +kernel)⟩, by decide⟩
theorem qv_X11_aged : am_yV yX11_aged := ⟨am_mem 792 (by decide +kernel) rfl, am_mem 793 (by decide +kernel) rfl⟩
theorem qm_X5_isAgedBy : am_y yX5_isAgedBy cX5_isAgedBy 4 (some .boolean) 2 := ⟨am_mem 798 (by decide +kernel) rfl, am_mem 63 (by decide +kernel) rfl, (by decide +kernel), ⟨(by decide +kernel), (by decide +kernel), (by decide +kernel)⟩, by decide⟩
theorem qv_X5_isAgedBy : am_yV yX5_isAgedBy := ⟨am_mem 796 (by decide +kernel) rfl, am_mem 797 (by decide +kernel) rfl⟩
theorem qm_X11_bill : am_y yX11_bill cX11_bill 7 (some .int) 3 := ⟨am_mem 803 (by decide +kernel) rfl, am_mem 61 (by decide +kernel) rfl, (by decide +kernel), ⟨(by decide +kernel), (by decide +kernel), (by decide +kernel)⟩, by decide⟩
theorem qv_X11_bill : am_yV yX11_bill := ⟨am_mem 801 (by decide +kernel) rfl, am_mem 802 (by decide +kernel) rfl⟩
theorem qm_X11_paid : am_y yX11_paid cX11_paid 2 (some .long) 1 := ⟨am_mem 807 (by decide +kernel) rfl, am_mem 61 (by decide +kernel) rfl, (by decide +kernel), ⟨(by decide +kernel), (by decide +kernel), (by decide +kernel)⟩, by decide⟩
theorem qv_X11_paid : am_yV yX11_paid := ⟨am_mem 805 (by decide +kernel) rfl, am_mem 806 (by decide +kernel) rfl⟩
theorem qm_X11_owed : am_y yX11_owed cX11_owed 6 (some .long) 1 := ⟨am_mem 811 (by decide +kernel) rfl, am_mem 61 (by decide +kernel) rfl, (by decide +kernel), ⟨(by decide +kernel), (by decide +kernel), (by decide +kernel)⟩, by decide⟩
theorem qv_X11_owed : am_yV yX11_owed := ⟨am_mem 809 (by decide +kernel) rfl, am_mem 810 (by decide +kernel) rfl⟩
theorem qm_X11_gain : am_y yX11_gain cX11_gain 7 (some .int) 5 := ⟨am_mem 815 (by decide +kernel) rfl, am_mem 61 (by decide +kernel) rfl, (by decide +kernel), ⟨(by decide +kernel), (by decide +kernel), (by decide +kernel)⟩, by decide⟩
theorem qv_X11_gain : am_yV yX11_gain := ⟨am_mem 813 (by decide +kernel) rfl, am_mem 814 (by decide +kernel) rfl⟩
theorem qm_X11_areTerms : am_y yX11_areTerms cX11_areTerms 2 (some .boolean) 2 := ⟨am_mem 818 (by decide +kernel) rfl, am_mem 61 (by decide +kernel) rfl, (by decide +kernel), ⟨(by decide +kernel), (by decide +kernel), (by decide +kernel)⟩, by decide⟩
theorem qs_X11_areTerms : Cond.static yX11_areTerms ∈ am_gt := am_mem 817 (by decide +kernel) rfl
theorem qm_X11_savedBy : am_y yX11_savedBy cX11_savedBy 1 (some .int) 1 := ⟨am_mem 822 (by decide +kernel) rfl, am_mem 61 (by decide +kernel) rfl, (by decide +kernel), ⟨(by decide +kernel), (by decide +kernel), (by decide +kernel)⟩, by decide⟩
theorem qs_X11_savedBy : Cond.static yX11_savedBy ∈ am_gt := am_mem 821 (by decide +kernel) rfl
theorem qm_X11_gainOfAnIllDay : am_y yX11_gainOfAnIllDay cX11_gainOfAnIllDay 3 (some .int) 3 := ⟨am_mem 825 (by decide +kernel) rfl, am_mem 61 (by decide +kernel) rfl, (by decide +kernel), ⟨(by decide +kernel), (by decide +kernel), (by decide +kernel)⟩, by decide⟩
theorem qs_X11_gainOfAnIllDay : Cond.static yX11_gainOfAnIllDay ∈ am_gt := am_mem 824 (by decide +kernel) rfl
theorem qm_X11_best : am_y yX11_best cX11_best 7 (some .int) 4 := ⟨am_mem 833 (by decide +kernel) rfl, am_mem 61 (by decide +kernel) rfl, (by decide +kernel), ⟨(by decide +kernel), (by decide +kernel), (by decide +kernel)⟩, by decide⟩
theorem qv_X11_best : am_yV yX11_best := ⟨am_mem 831 (by decide +kernel) rfl, am_mem 832 (by decide +kernel) rfl⟩
theorem qm_X11_narrows : am_y yX11_narrows cX11_narrows 6 (some .int) 0 := ⟨am_mem 837 (by decide +kernel) rfl, am_mem 61 (by decide +kernel) rfl, (by decide +kernel), ⟨(by decide +kernel), (by decide +kernel), (by decide +kernel)⟩, by decide⟩
theorem qv_X11_narrows : am_yV yX11_narrows := ⟨am_mem 835 (by decide +kernel) rfl, am_mem 836 (by decide +kernel) rfl⟩
theorem qm_X3_gather : am_y yX3_gather cX3_gather 4 none 1 := ⟨am_mem 841 (by decide +kernel) rfl, am_mem 69 (by decide +kernel) rfl, (by decide +kernel), ⟨(by decide +kernel), (by decide +kernel), (by decide +kernel)⟩, by decide⟩
theorem qv_X3_gather : am_yV yX3_gather := ⟨am_mem 839 (by decide +kernel) rfl, am_mem 840 (by decide +kernel) rfl⟩
theorem qm_X3_unite : am_y yX3_unite cX3_unite 4 none 2 := ⟨am_mem 845 (by decide +kernel) rfl, am_mem 69 (by decide +kernel) rfl, (by decide +kernel), ⟨(by decide +kernel), (by decide +kernel), (by decide +kernel)⟩, by decide⟩
theorem qv_X3_unite : am_yV yX3_unite := ⟨am_mem 844 (by decide +kernel) rfl, am_mem 20 (by decide +kernel) rfl⟩
theorem qm_X3_areJoined : am_y yX3_areJoined cX3_areJoined 3 (some .boolean) 2 := ⟨am_mem 849 (by decide +kernel) rfl, am_mem 69 (by decide +kernel) rfl, (by decide +kernel), ⟨(by decide +kernel), (by decide +kernel), (by decide +kernel)⟩, by decide⟩
theorem qv_X3_areJoined : am_yV yX3_areJoined := ⟨am_mem 847 (by decide +kernel) rfl, am_mem 848 (by decide +kernel) rfl⟩
theorem qm_X3_sizeWith : am_y yX3_sizeWith cX3_sizeWith 2 (some .int) 1 := ⟨am_mem 853 (by decide +kernel) rfl, am_mem 69 (by decide +kernel) rfl, (by decide +kernel), ⟨(by decide +kernel), (by decide +kernel), (by decide +kernel)⟩, by decide⟩
theorem qv_X3_sizeWith : am_yV yX3_sizeWith := ⟨am_mem 851 (by decide +kernel) rfl, am_mem 852 (by decide +kernel) rfl⟩
theorem qm_X11_image : am_y yX11_image cX11_image 1 (some .int) 0 := ⟨am_mem 857 (by decide +kernel) rfl, am_mem 61 (by decide +kernel) rfl, (by decide +kernel), ⟨(by decide +kernel), (by decide +kernel), (by decide +kernel)⟩, by decide⟩
theorem qv_X11_image : am_yV yX11_image := ⟨am_mem 855 (by decide +kernel) rfl, am_mem 856 (by decide +kernel) rfl⟩
theorem qm_X10_takeFrom : am_y yX10_takeFrom cX10_takeFrom 3 none 1 := ⟨am_mem 861 (by decide +kernel) rfl, am_mem 62 (by decide +kernel) rfl, (by decide +kernel), ⟨(by decide +kernel), (by decide +kernel), (by decide +kernel)⟩, by decide⟩
theorem qv_X10_takeFrom : am_yV yX10_takeFrom := ⟨am_mem 859 (by decide +kernel) rfl, am_mem 860 (by decide +kernel) rfl⟩
theorem qm_X5_takeFrom : am_y yX5_takeFrom cX5_takeFrom 2 none 1 := ⟨am_mem 865 (by decide +kernel) rfl, am_mem 63 (by decide +kernel) rfl, (by decide +kernel), ⟨(by decide +kernel), (by decide +kernel), (by decide +kernel)⟩, by decide⟩
theorem qv_X5_takeFrom : am_yV yX5_takeFrom := ⟨am_mem 863 (by decide +kernel) rfl, am_mem 864 (by decide +kernel) rfl⟩
theorem qm_X2_takeFrom : am_y yX2_takeFrom cX2_takeFrom 2 none 1 := ⟨am_mem 869 (by decide +kernel) rfl, am_mem 64 (by decide +kernel) rfl, (by decide +kernel), ⟨(by decide +kernel), (by decide +kernel), (by decide +kernel)⟩, by decide⟩
theorem qv_X2_takeFrom : am_yV yX2_takeFrom := ⟨am_mem 867 (by decide +kernel) rfl, am_mem 868 (by decide +kernel) rfl⟩
theorem qm_X6_takeFrom : am_y yX6_takeFrom cX6_takeFrom 2 none 1 := ⟨am_mem 873 (by decide +kernel) rfl, am_mem 65 (by decide +kernel) rfl, (by decide +kernel), ⟨(by decide +kernel), (by decide +kernel), (by decide +kernel)⟩, by decide⟩
theorem qv_X6_takeFrom : am_yV yX6_takeFrom := ⟨am_mem 871 (by decide +kernel) rfl, am_mem 872 (by decide +kernel) rfl⟩
theorem qm_X0_takeFrom : am_y yX0_takeFrom cX0_takeFrom 2 none 1 := ⟨am_mem 877 (by decide +kernel) rfl, am_mem 66 (by decide +kernel) rfl, (by decide +kernel), ⟨(by decide +kernel), (by decide +kernel), (by decide +kernel)⟩, by decide⟩
theorem qv_X0_takeFrom : am_yV yX0_takeFrom := ⟨am_mem 875 (by decide +kernel) rfl, am_mem 876 (by decide +kernel) rfl⟩
theorem qm_X11_restore : am_y yX11_restore cX11_restore 1 (some .int) 0 := ⟨am_mem 882 (by decide +kernel) rfl, am_mem 61 (by decide +kernel) rfl, (by decide +kernel), ⟨(by decide +kernel), (by decide +kernel), (by decide +kernel)⟩, by decide⟩
theorem qv_X11_restore : am_yV yX11_restore := ⟨am_mem 880 (by decide +kernel) rfl, am_mem 881 (by decide +kernel) rfl⟩
theorem qm_X11_count : am_y yX11_count cX11_count 2 (some .int) 1 := ⟨am_mem 886 (by decide +kernel) rfl, am_mem 61 (by decide +kernel) rfl, (by decide +kernel), ⟨(by decide +kernel), (by decide +kernel), (by decide +kernel)⟩, by decide⟩
theorem qv_X11_count : am_yV yX11_count := ⟨am_mem 884 (by decide +kernel) rfl, am_mem 885 (by decide +kernel) rfl⟩
theorem qm_X10_countOut : am_y yX10_countOut cX10_countOut 3 (some .int) 0 := ⟨am_mem 890 (by decide +kernel) rfl, am_mem 62 (by decide +kernel) rfl, (by decide +kernel), ⟨(by decide +kernel), (by decide +kernel), (by decide +kernel)⟩, by decide⟩
theorem qv_X10_countOut : am_yV yX10_countOut := ⟨am_mem 888 (by decide +kernel) rfl, am_mem 889 (by decide +kernel) rfl⟩
theorem qm_X10_allHours : am_y yX10_allHours cX10_allHours 3 (some .int) 0 := ⟨am_mem 894 (by decide +kernel) rfl, am_mem 62 (by decide +kernel) rfl, (by decide +kernel), ⟨(by decide +kernel), (by decide +kernel), (by decide +kernel)⟩, by decide⟩
theorem qv_X10_allHours : am_yV yX10_allHours := ⟨am_mem 892 (by decide +kernel) rfl, am_mem 893 (by decide +kernel) rfl⟩
theorem qm_X3_countPairs : am_y yX3_countPairs cX3_countPairs 4 (some .int) 0 := ⟨am_mem 898 (by decide +kernel) rfl, am_mem 69 (by decide +kernel) rfl, (by decide +kernel), ⟨(by decide +kernel), (by decide +kernel), (by decide +kernel)⟩, by decide⟩
theorem qv_X3_countPairs : am_yV yX3_countPairs := ⟨am_mem 896 (by decide +kernel) rfl, am_mem 897 (by decide +kernel) rfl⟩
theorem qm_X11_keep : am_y yX11_keep cX11_keep 5 (some .int) 3 := ⟨am_mem 903 (by decide +kernel) rfl, am_mem 61 (by decide +kernel) rfl, (by decide +kernel), ⟨(by decide +kernel), (by decide +kernel), (by decide +kernel)⟩, by decide⟩
theorem qv_X11_keep : am_yV yX11_keep := ⟨am_mem 901 (by decide +kernel) rfl, am_mem 902 (by decide +kernel) rfl⟩
theorem qm_X11_row : am_y yX11_row cX11_row 4 (some .int) 3 := ⟨am_mem 908 (by decide +kernel) rfl, am_mem 61 (by decide +kernel) rfl, (by decide +kernel), ⟨(by decide +kernel), (by decide +kernel), (by decide +kernel)⟩, by decide⟩
theorem qv_X11_row : am_yV yX11_row := ⟨am_mem 906 (by decide +kernel) rfl, am_mem 907 (by decide +kernel) rfl⟩
theorem qm_X7_begin : am_y yX7_begin cX7_begin 4 none 2 := ⟨am_mem 912 (by decide +kernel) rfl, am_mem 72 (by decide +kernel) rfl, (by decide +kernel), ⟨(by decide +kernel), (by decide +kernel), (by decide +kernel)⟩, by decide⟩
theorem qv_X7_begin : am_yV yX7_begin := ⟨am_mem 910 (by decide +kernel) rfl, am_mem 911 (by decide +kernel) rfl⟩
theorem qm_X11_put : am_y yX11_put cX11_put 6 (some .int) 3 := ⟨am_mem 916 (by decide +kernel) rfl, am_mem 61 (by decide +kernel) rfl, (by decide +kernel), ⟨(by decide +kernel), (by decide +kernel), (by decide +kernel)⟩, by decide⟩
theorem qv_X11_put : am_yV yX11_put := ⟨am_mem 914 (by decide +kernel) rfl, am_mem 915 (by decide +kernel) rfl⟩
theorem qm_X7_lowestBits : am_y yX7_lowestBits cX7_lowestBits 2 (some .int) 1 := ⟨am_mem 920 (by decide +kernel) rfl, am_mem 72 (by decide +kernel) rfl, (by decide +kernel), ⟨(by decide +kernel), (by decide +kernel), (by decide +kernel)⟩, by decide⟩
theorem qv_X7_lowestBits : am_yV yX7_lowestBits := ⟨am_mem 918 (by decide +kernel) rfl, am_mem 919 (by decide +kernel) rfl⟩
theorem qm_X11_copy : am_y yX11_copy cX11_copy 8 (some .int) 5 := ⟨am_mem 924 (by decide +kernel) rfl, am_mem 61 (by decide +kernel) rfl, (by decide +kernel), ⟨(by decide +kernel), (by decide +kernel), (by decide +kernel)⟩, by decide⟩
theorem qv_X11_copy : am_yV yX11_copy := ⟨am_mem 922 (by decide +kernel) rfl, am_mem 923 (by decide +kernel) rfl⟩
theorem qm_X11_gives : am_y yX11_gives cX11_gives 3 (some .int) 1 := ⟨am_mem 931 (by decide +kernel) rfl, am_mem 61 (by decide +kernel) rfl, (by decide +kernel), ⟨(by decide +kernel), (by decide +kernel), (by decide +kernel)⟩, by decide⟩
theorem qv_X11_gives : am_yV yX11_gives := ⟨am_mem 929 (by decide +kernel) rfl, am_mem 930 (by decide +kernel) rfl⟩
theorem qm_X5_fail : am_y yX5_fail cX5_fail 1 none 0 := ⟨am_mem 942 (by decide +kernel) rfl, am_mem 63 (by decide +kernel) rfl, (by decide +kernel), ⟨(by decide +kernel), (by decide +kernel), (by decide +kernel)⟩, by decide⟩
theorem qv_X5_fail : am_yV yX5_fail := ⟨am_mem 940 (by decide +kernel) rfl, am_mem 941 (by decide +kernel) rfl⟩
theorem qm_X11_element : am_y yX11_element cX11_element 4 (some .long) 2 := ⟨am_mem 1051 (by decide +kernel) rfl, am_mem 61 (by decide +kernel) rfl, (by decide +kernel), ⟨(by decide +kernel), (by decide +kernel), (by decide +kernel)⟩, by decide⟩
theorem qv_X11_element : am_yV yX11_element := ⟨am_mem 1049 (by decide +kernel) rfl, am_mem 1050 (by decide +kernel) rfl⟩
theorem qm_X12_init : am_y yX12_init cX12_init 2 none 0 := ⟨am_mem 1061 (by decide +kernel) rfl, am_mem 73 (by decide +kernel) rfl, (by decide +kernel), ⟨(by decide +kernel), (by decide +kernel), (by decide +kernel)⟩, by decide⟩
theorem qi_X12_init : Cond.instanceMethod yX12_init ∈ am_gt := am_mem 1060 (by decide +kernel) rfl
theorem qm_X12_thrown : am_y yX12_thrown cX12_thrown 1 (some .int) 0 := ⟨am_mem 1137 (by decide +kernel) rfl, am_mem 73 (by decide +kernel) rfl, (by decide +kernel), ⟨(by decide +kernel), (by decide +kernel), (by decide +kernel)⟩, by decide⟩
theorem qv_X12_thrown : am_yV yX12_thrown := ⟨am_mem 1135 (by decide +kernel) rfl, am_mem 1136 (by decide +kernel) rfl⟩
theorem qm_X12_light : am_y yX12_light cX12_light 6 (some .int) 4 := ⟨am_mem 1141 (by decide +kernel) rfl, am_mem 73 (by decide +kernel) rfl, (by decide +kernel), ⟨(by decide +kernel), (by decide +kernel), (by decide +kernel)⟩, by decide⟩
theorem qv_X12_light : am_yV yX12_light := ⟨am_mem 1139 (by decide +kernel) rfl, am_mem 1140 (by decide +kernel) rfl⟩
theorem qm_X12_isIn : am_y yX12_isIn cX12_isIn 6 (some .boolean) 3 := ⟨am_mem 1145 (by decide +kernel) rfl, am_mem 73 (by decide +kernel) rfl, (by decide +kernel), ⟨(by decide +kernel), (by decide +kernel), (by decide +kernel)⟩, by decide⟩
theorem qs_X12_isIn : Cond.static yX12_isIn ∈ am_gt := am_mem 1144 (by decide +kernel) rfl
theorem qm_X12_setting : am_y yX12_setting cX12_setting 3 (some .int) 2 := ⟨am_mem 1152 (by decide +kernel) rfl, am_mem 73 (by decide +kernel) rfl, (by decide +kernel), ⟨(by decide +kernel), (by decide +kernel), (by decide +kernel)⟩, by decide⟩
theorem qv_X12_setting : am_yV yX12_setting := ⟨am_mem 1150 (by decide +kernel) rfl, am_mem 1151 (by decide +kernel) rfl⟩
theorem qm_X12_isLight : am_y yX12_isLight cX12_isLight 2 (some .boolean) 1 := ⟨am_mem 1156 (by decide +kernel) rfl, am_mem 73 (by decide +kernel) rfl, (by decide +kernel), ⟨(by decide +kernel), (by decide +kernel), (by decide +kernel)⟩, by decide⟩
theorem qv_X12_isLight : am_yV yX12_isLight := ⟨am_mem 1155 (by decide +kernel) rfl, am_mem 22 (by decide +kernel) rfl⟩
theorem qm_X12_becomes : am_y yX12_becomes cX12_becomes 4 (some .int) 2 := ⟨am_mem 1160 (by decide +kernel) rfl, am_mem 73 (by decide +kernel) rfl, (by decide +kernel), ⟨(by decide +kernel), (by decide +kernel), (by decide +kernel)⟩, by decide⟩
theorem qv_X12_becomes : am_yV yX12_becomes := ⟨am_mem 1159 (by decide +kernel) rfl, am_mem 23 (by decide +kernel) rfl⟩
theorem qm_X12_burn : am_y yX12_burn cX12_burn 3 (some .int) 2 := ⟨am_mem 1164 (by decide +kernel) rfl, am_mem 73 (by decide +kernel) rfl, (by decide +kernel), ⟨(by decide +kernel), (by decide +kernel), (by decide +kernel)⟩, by decide⟩
theorem qv_X12_burn : am_yV yX12_burn := ⟨am_mem 1162 (by decide +kernel) rfl, am_mem 1163 (by decide +kernel) rfl⟩
theorem qm_X12_get : am_y yX12_get cX12_get 3 (some .int) 2 := ⟨am_mem 1169 (by decide +kernel) rfl, am_mem 73 (by decide +kernel) rfl, (by decide +kernel), ⟨(by decide +kernel), (by decide +kernel), (by decide +kernel)⟩, by decide⟩
theorem qv_X12_get : am_yV yX12_get := ⟨am_mem 1168 (by decide +kernel) rfl, am_mem 24 (by decide +kernel) rfl⟩
theorem qm_X12_damp : am_y yX12_damp cX12_damp 2 (some .int) 1 := ⟨am_mem 1174 (by decide +kernel) rfl, am_mem 73 (by decide +kernel) rfl, (by decide +kernel), ⟨(by decide +kernel), (by decide +kernel), (by decide +kernel)⟩, by decide⟩
theorem qv_X12_damp : am_yV yX12_damp := ⟨am_mem 1172 (by decide +kernel) rfl, am_mem 1173 (by decide +kernel) rfl⟩
theorem qm_X12_of : am_y yX12_of cX12_of 3 (some .int) 2 := ⟨am_mem 1179 (by decide +kernel) rfl, am_mem 73 (by decide +kernel) rfl, (by decide +kernel), ⟨(by decide +kernel), (by decide +kernel), (by decide +kernel)⟩, by decide⟩
theorem qv_X12_of : am_yV yX12_of := ⟨am_mem 1177 (by decide +kernel) rfl, am_mem 1178 (by decide +kernel) rfl⟩
theorem qm_X12_givesNow : am_y yX12_givesNow cX12_givesNow 2 (some .int) 1 := ⟨am_mem 1184 (by decide +kernel) rfl, am_mem 73 (by decide +kernel) rfl, (by decide +kernel), ⟨(by decide +kernel), (by decide +kernel), (by decide +kernel)⟩, by decide⟩
theorem qv_X12_givesNow : am_yV yX12_givesNow := ⟨am_mem 1183 (by decide +kernel) rfl, am_mem 25 (by decide +kernel) rfl⟩
theorem qm_X12_givesBy : am_y yX12_givesBy cX12_givesBy 6 (some .int) 3 := ⟨am_mem 1188 (by decide +kernel) rfl, am_mem 73 (by decide +kernel) rfl, (by decide +kernel), ⟨(by decide +kernel), (by decide +kernel), (by decide +kernel)⟩, by decide⟩
theorem qv_X12_givesBy : am_yV yX12_givesBy := ⟨am_mem 1187 (by decide +kernel) rfl, am_mem 26 (by decide +kernel) rfl⟩
theorem qm_X12_wanders : am_y yX12_wanders cX12_wanders 3 (some .int) 1 := ⟨am_mem 1192 (by decide +kernel) rfl, am_mem 73 (by decide +kernel) rfl, (by decide +kernel), ⟨(by decide +kernel), (by decide +kernel), (by decide +kernel)⟩, by decide⟩
theorem qv_X12_wanders : am_yV yX12_wanders := ⟨am_mem 1191 (by decide +kernel) rfl, am_mem 27 (by decide +kernel) rfl⟩
theorem qm_X12_eye : am_y yX12_eye cX12_eye 4 (some .int) 3 := ⟨am_mem 1196 (by decide +kernel) rfl, am_mem 73 (by decide +kernel) rfl, (by decide +kernel), ⟨(by decide +kernel), (by decide +kernel), (by decide +kernel)⟩, by decide⟩
theorem qv_X12_eye : am_yV yX12_eye := ⟨am_mem 1194 (by decide +kernel) rfl, am_mem 1195 (by decide +kernel) rfl⟩
theorem qm_X12_isEye : am_y yX12_isEye cX12_isEye 1 (some .boolean) 1 := ⟨am_mem 1199 (by decide +kernel) rfl, am_mem 73 (by decide +kernel) rfl, (by decide +kernel), ⟨(by decide +kernel), (by decide +kernel), (by decide +kernel)⟩, by decide⟩
theorem qs_X12_isEye : Cond.static yX12_isEye ∈ am_gt := am_mem 1198 (by decide +kernel) rfl
theorem qm_X12_seen : am_y yX12_seen cX12_seen 4 (some .long) 3 := ⟨am_mem 1205 (by decide +kernel) rfl, am_mem 73 (by decide +kernel) rfl, (by decide +kernel), ⟨(by decide +kernel), (by decide +kernel), (by decide +kernel)⟩, by decide⟩
theorem qv_X12_seen : am_yV yX12_seen := ⟨am_mem 1203 (by decide +kernel) rfl, am_mem 1204 (by decide +kernel) rfl⟩
theorem qm_X12_isDim : am_y yX12_isDim cX12_isDim 1 (some .boolean) 1 := ⟨am_mem 1208 (by decide +kernel) rfl, am_mem 73 (by decide +kernel) rfl, (by decide +kernel), ⟨(by decide +kernel), (by decide +kernel), (by decide +kernel)⟩, by decide⟩
theorem qs_X12_isDim : Cond.static yX12_isDim ∈ am_gt := am_mem 1207 (by decide +kernel) rfl
theorem qm_X12_yellowOf : am_y yX12_yellowOf cX12_yellowOf 4 (some .int) 2 := ⟨am_mem 1213 (by decide +kernel) rfl, am_mem 73 (by decide +kernel) rfl, (by decide +kernel), ⟨(by decide +kernel), (by decide +kernel), (by decide +kernel)⟩, by decide⟩
theorem qv_X12_yellowOf : am_yV yX12_yellowOf := ⟨am_mem 1212 (by decide +kernel) rfl, am_mem 28 (by decide +kernel) rfl⟩
theorem qm_X12_blueOf : am_y yX12_blueOf cX12_blueOf 3 (some .int) 2 := ⟨am_mem 1217 (by decide +kernel) rfl, am_mem 73 (by decide +kernel) rfl, (by decide +kernel), ⟨(by decide +kernel), (by decide +kernel), (by decide +kernel)⟩, by decide⟩
theorem qv_X12_blueOf : am_yV yX12_blueOf := ⟨am_mem 1216 (by decide +kernel) rfl, am_mem 29 (by decide +kernel) rfl⟩
theorem qm_X12_seenBy : am_y yX12_seenBy cX12_seenBy 4 (some .long) 3 := ⟨am_mem 1221 (by decide +kernel) rfl, am_mem 73 (by decide +kernel) rfl, (by decide +kernel), ⟨(by decide +kernel), (by decide +kernel), (by decide +kernel)⟩, by decide⟩
theorem qv_X12_seenBy : am_yV yX12_seenBy := ⟨am_mem 1220 (by decide +kernel) rfl, am_mem 30 (by decide +kernel) rfl⟩
theorem qm_X12_alike : am_y yX12_alike cX12_alike 5 (some .int) 4 := ⟨am_mem 1226 (by decide +kernel) rfl, am_mem 73 (by decide +kernel) rfl, (by decide +kernel), ⟨(by decide +kernel), (by decide +kernel), (by decide +kernel)⟩, by decide⟩
theorem qv_X12_alike : am_yV yX12_alike := ⟨am_mem 1224 (by decide +kernel) rfl, am_mem 1225 (by decide +kernel) rfl⟩
theorem qm_X12_isPair : am_y yX12_isPair cX12_isPair 3 (some .boolean) 2 := ⟨am_mem 1230 (by decide +kernel) rfl, am_mem 73 (by decide +kernel) rfl, (by decide +kernel), ⟨(by decide +kernel), (by decide +kernel), (by decide +kernel)⟩, by decide⟩
theorem qv_X12_isPair : am_yV yX12_isPair := ⟨am_mem 1229 (by decide +kernel) rfl, am_mem 31 (by decide +kernel) rfl⟩
theorem qm_X12_alikeOf : am_y yX12_alikeOf cX12_alikeOf 5 (some .int) 4 := ⟨am_mem 1234 (by decide +kernel) rfl, am_mem 73 (by decide +kernel) rfl, (by decide +kernel), ⟨(by decide +kernel), (by decide +kernel), (by decide +kernel)⟩, by decide⟩
theorem qv_X12_alikeOf : am_yV yX12_alikeOf := ⟨am_mem 1233 (by decide +kernel) rfl, am_mem 32 (by decide +kernel) rfl⟩
theorem qm_X12_placeBy : am_y yX12_placeBy cX12_placeBy 5 (some .int) 4 := ⟨am_mem 1238 (by decide +kernel) rfl, am_mem 73 (by decide +kernel) rfl, (by decide +kernel), ⟨(by decide +kernel), (by decide +kernel), (by decide +kernel)⟩, by decide⟩
theorem qv_X12_placeBy : am_yV yX12_placeBy := ⟨am_mem 1237 (by decide +kernel) rfl, am_mem 33 (by decide +kernel) rfl⟩
theorem qm_X12_placeOf : am_y yX12_placeOf cX12_placeOf 10 (some .int) 2 := ⟨am_mem 1241 (by decide +kernel) rfl, am_mem 73 (by decide +kernel) rfl, (by decide +kernel), ⟨(by decide +kernel), (by decide +kernel), (by decide +kernel)⟩, by decide⟩
theorem qs_X12_placeOf : Cond.static yX12_placeOf ∈ am_gt := am_mem 1240 (by decide +kernel) rfl
theorem qm_X12_match : am_y yX12_match cX12_match 5 (some .int) 4 := ⟨am_mem 1245 (by decide +kernel) rfl, am_mem 73 (by decide +kernel) rfl, (by decide +kernel), ⟨(by decide +kernel), (by decide +kernel), (by decide +kernel)⟩, by decide⟩
theorem qv_X12_match : am_yV yX12_match := ⟨am_mem 1243 (by decide +kernel) rfl, am_mem 1244 (by decide +kernel) rfl⟩
theorem qm_X12_tells : am_y yX12_tells cX12_tells 7 none 5 := ⟨am_mem 1249 (by decide +kernel) rfl, am_mem 73 (by decide +kernel) rfl, (by decide +kernel), ⟨(by decide +kernel), (by decide +kernel), (by decide +kernel)⟩, by decide⟩
theorem qv_X12_tells : am_yV yX12_tells := ⟨am_mem 1248 (by decide +kernel) rfl, am_mem 34 (by decide +kernel) rfl⟩
theorem qm_X12_hear : am_y yX12_hear cX12_hear 6 (some .int) 1 := ⟨am_mem 1253 (by decide +kernel) rfl, am_mem 73 (by decide +kernel) rfl, (by decide +kernel), ⟨(by decide +kernel), (by decide +kernel), (by decide +kernel)⟩, by decide⟩
theorem qv_X12_hear : am_yV yX12_hear := ⟨am_mem 1251 (by decide +kernel) rfl, am_mem 1252 (by decide +kernel) rfl⟩
theorem qm_X12_wrongRow : am_y yX12_wrongRow cX12_wrongRow 3 (some .int) 2 := ⟨am_mem 1257 (by decide +kernel) rfl, am_mem 73 (by decide +kernel) rfl, (by decide +kernel), ⟨(by decide +kernel), (by decide +kernel), (by decide +kernel)⟩, by decide⟩
theorem qv_X12_wrongRow : am_yV yX12_wrongRow := ⟨am_mem 1256 (by decide +kernel) rfl, am_mem 35 (by decide +kernel) rfl⟩
theorem qm_X12_isShelf : am_y yX12_isShelf cX12_isShelf 1 (some .boolean) 1 := ⟨am_mem 1260 (by decide +kernel) rfl, am_mem 73 (by decide +kernel) rfl, (by decide +kernel), ⟨(by decide +kernel), (by decide +kernel), (by decide +kernel)⟩, by decide⟩
theorem qs_X12_isShelf : Cond.static yX12_isShelf ∈ am_gt := am_mem 1259 (by decide +kernel) rfl
theorem qm_X12_isTired : am_y yX12_isTired cX12_isTired 5 (some .boolean) 2 := ⟨am_mem 1264 (by decide +kernel) rfl, am_mem 73 (by decide +kernel) rfl, (by decide +kernel), ⟨(by decide +kernel), (by decide +kernel), (by decide +kernel)⟩, by decide⟩
theorem qv_X12_isTired : am_yV yX12_isTired := ⟨am_mem 1263 (by decide +kernel) rfl, am_mem 36 (by decide +kernel) rfl⟩
theorem qm_X12_told : am_y yX12_told cX12_told 3 (some .int) 2 := ⟨am_mem 1270 (by decide +kernel) rfl, am_mem 73 (by decide +kernel) rfl, (by decide +kernel), ⟨(by decide +kernel), (by decide +kernel), (by decide +kernel)⟩, by decide⟩
theorem qv_X12_told : am_yV yX12_told := ⟨am_mem 1268 (by decide +kernel) rfl, am_mem 1269 (by decide +kernel) rfl⟩
theorem qm_X12_isMatch : am_y yX12_isMatch cX12_isMatch 2 (some .boolean) 1 := ⟨am_mem 1274 (by decide +kernel) rfl, am_mem 73 (by decide +kernel) rfl, (by decide +kernel), ⟨(by decide +kernel), (by decide +kernel), (by decide +kernel)⟩, by decide⟩
theorem qv_X12_isMatch : am_yV yX12_isMatch := ⟨am_mem 1273 (by decide +kernel) rfl, am_mem 37 (by decide +kernel) rfl⟩
theorem qm_X12_say : am_y yX12_say cX12_say 3 (some .int) 2 := ⟨am_mem 1279 (by decide +kernel) rfl, am_mem 73 (by decide +kernel) rfl, (by decide +kernel), ⟨(by decide +kernel), (by decide +kernel), (by decide +kernel)⟩, by decide⟩
theorem qv_X12_say : am_yV yX12_say := ⟨am_mem 1278 (by decide +kernel) rfl, am_mem 38 (by decide +kernel) rfl⟩
theorem qm_X12_out : am_y yX12_out cX12_out 3 (some .int) 2 := ⟨am_mem 1283 (by decide +kernel) rfl, am_mem 73 (by decide +kernel) rfl, (by decide +kernel), ⟨(by decide +kernel), (by decide +kernel), (by decide +kernel)⟩, by decide⟩
theorem qv_X12_out : am_yV yX12_out := ⟨am_mem 1281 (by decide +kernel) rfl, am_mem 1282 (by decide +kernel) rfl⟩
theorem qm_X12_chain : am_y yX12_chain cX12_chain 4 (some .int) 3 := ⟨am_mem 1287 (by decide +kernel) rfl, am_mem 73 (by decide +kernel) rfl, (by decide +kernel), ⟨(by decide +kernel), (by decide +kernel), (by decide +kernel)⟩, by decide⟩
theorem qv_X12_chain : am_yV yX12_chain := ⟨am_mem 1285 (by decide +kernel) rfl, am_mem 1286 (by decide +kernel) rfl⟩
theorem qm_X12_findChain : am_y yX12_findChain cX12_findChain 3 (some .boolean) 2 := ⟨am_mem 1291 (by decide +kernel) rfl, am_mem 73 (by decide +kernel) rfl, (by decide +kernel), ⟨(by decide +kernel), (by decide +kernel), (by decide +kernel)⟩, by decide⟩
theorem qv_X12_findChain : am_yV yX12_findChain := ⟨am_mem 1290 (by decide +kernel) rfl, am_mem 39 (by decide +kernel) rfl⟩
theorem qm_X12_goesOn : am_y yX12_goesOn cX12_goesOn 5 (some .boolean) 3 := ⟨am_mem 1295 (by decide +kernel) rfl, am_mem 73 (by decide +kernel) rfl, (by decide +kernel), ⟨(by decide +kernel), (by decide +kernel), (by decide +kernel)⟩, by decide⟩
theorem qv_X12_goesOn : am_yV yX12_goesOn := ⟨am_mem 1294 (by decide +kernel) rfl, am_mem 40 (by decide +kernel) rfl⟩
theorem qm_X12_span : am_y yX12_span cX12_span 14 (some .long) 4 := ⟨am_mem 1299 (by decide +kernel) rfl, am_mem 73 (by decide +kernel) rfl, (by decide +kernel), ⟨(by decide +kernel), (by decide +kernel), (by decide +kernel)⟩, by decide⟩
theorem qv_X12_span : am_yV yX12_span := ⟨am_mem 1297 (by decide +kernel) rfl, am_mem 1298 (by decide +kernel) rfl⟩
theorem qm_X12_common : am_y yX12_common cX12_common 10 (some .long) 2 := ⟨am_mem 1303 (by decide +kernel) rfl, am_mem 73 (by decide +kernel) rfl, (by decide +kernel), ⟨(by decide +kernel), (by decide +kernel), (by decide +kernel)⟩, by decide⟩
theorem qs_X12_common : Cond.static yX12_common ∈ am_gt := am_mem 1302 (by decide +kernel) rfl
theorem qm_X12_laws : am_y yX12_laws cX12_laws 5 (some .int) 3 := ⟨am_mem 1307 (by decide +kernel) rfl, am_mem 73 (by decide +kernel) rfl, (by decide +kernel), ⟨(by decide +kernel), (by decide +kernel), (by decide +kernel)⟩, by decide⟩
theorem qv_X12_laws : am_yV yX12_laws := ⟨am_mem 1305 (by decide +kernel) rfl, am_mem 1306 (by decide +kernel) rfl⟩
theorem qm_X12_findLaws : am_y yX12_findLaws cX12_findLaws 6 (some .int) 2 := ⟨am_mem 1311 (by decide +kernel) rfl, am_mem 73 (by decide +kernel) rfl, (by decide +kernel), ⟨(by decide +kernel), (by decide +kernel), (by decide +kernel)⟩, by decide⟩
theorem qv_X12_findLaws : am_yV yX12_findLaws := ⟨am_mem 1310 (by decide +kernel) rfl, am_mem 41 (by decide +kernel) rfl⟩
theorem qm_X12_isLet : am_y yX12_isLet cX12_isLet 7 (some .boolean) 4 := ⟨am_mem 1315 (by decide +kernel) rfl, am_mem 73 (by decide +kernel) rfl, (by decide +kernel), ⟨(by decide +kernel), (by decide +kernel), (by decide +kernel)⟩, by decide⟩
theorem qv_X12_isLet : am_yV yX12_isLet := ⟨am_mem 1314 (by decide +kernel) rfl, am_mem 42 (by decide +kernel) rfl⟩
theorem qm_X12_parts : am_y yX12_parts cX12_parts 6 (some .int) 4 := ⟨am_mem 1319 (by decide +kernel) rfl, am_mem 73 (by decide +kernel) rfl, (by decide +kernel), ⟨(by decide +kernel), (by decide +kernel), (by decide +kernel)⟩, by decide⟩
theorem qv_X12_parts : am_yV yX12_parts := ⟨am_mem 1317 (by decide +kernel) rfl, am_mem 1318 (by decide +kernel) rfl⟩
theorem qm_X12_partOf : am_y yX12_partOf cX12_partOf 8 (some .int) 3 := ⟨am_mem 1323 (by decide +kernel) rfl, am_mem 73 (by decide +kernel) rfl, (by decide +kernel), ⟨(by decide +kernel), (by decide +kernel), (by decide +kernel)⟩, by decide⟩
theorem qv_X12_partOf : am_yV yX12_partOf := ⟨am_mem 1322 (by decide +kernel) rfl, am_mem 43 (by decide +kernel) rfl⟩
theorem qm_X12_show : am_y yX12_show cX12_show 9 (some .int) 2 := ⟨am_mem 1327 (by decide +kernel) rfl, am_mem 73 (by decide +kernel) rfl, (by decide +kernel), ⟨(by decide +kernel), (by decide +kernel), (by decide +kernel)⟩, by decide⟩
theorem qv_X12_show : am_yV yX12_show := ⟨am_mem 1325 (by decide +kernel) rfl, am_mem 1326 (by decide +kernel) rfl⟩
theorem qm_X12_disagree : am_y yX12_disagree cX12_disagree 6 (some .int) 5 := ⟨am_mem 1331 (by decide +kernel) rfl, am_mem 73 (by decide +kernel) rfl, (by decide +kernel), ⟨(by decide +kernel), (by decide +kernel), (by decide +kernel)⟩, by decide⟩
theorem qv_X12_disagree : am_yV yX12_disagree := ⟨am_mem 1329 (by decide +kernel) rfl, am_mem 1330 (by decide +kernel) rfl⟩
theorem qm_X12_mean : am_y yX12_mean cX12_mean 3 (some .int) 2 := ⟨am_mem 1336 (by decide +kernel) rfl, am_mem 73 (by decide +kernel) rfl, (by decide +kernel), ⟨(by decide +kernel), (by decide +kernel), (by decide +kernel)⟩, by decide⟩
theorem qv_X12_mean : am_yV yX12_mean := ⟨am_mem 1334 (by decide +kernel) rfl, am_mem 1335 (by decide +kernel) rfl⟩
theorem qm_X12_meanOf : am_y yX12_meanOf cX12_meanOf 6 (some .int) 2 := ⟨am_mem 1341 (by decide +kernel) rfl, am_mem 73 (by decide +kernel) rfl, (by decide +kernel), ⟨(by decide +kernel), (by decide +kernel), (by decide +kernel)⟩, by decide⟩
theorem qv_X12_meanOf : am_yV yX12_meanOf := ⟨am_mem 1340 (by decide +kernel) rfl, am_mem 44 (by decide +kernel) rfl⟩
theorem qm_X12_stands : am_y yX12_stands cX12_stands 8 (some .int) 3 := ⟨am_mem 1345 (by decide +kernel) rfl, am_mem 73 (by decide +kernel) rfl, (by decide +kernel), ⟨(by decide +kernel), (by decide +kernel), (by decide +kernel)⟩, by decide⟩
theorem qv_X12_stands : am_yV yX12_stands := ⟨am_mem 1343 (by decide +kernel) rfl, am_mem 1344 (by decide +kernel) rfl⟩
theorem qm_X12_fault : am_y yX12_fault cX12_fault 3 (some .int) 1 := ⟨am_mem 1350 (by decide +kernel) rfl, am_mem 73 (by decide +kernel) rfl, (by decide +kernel), ⟨(by decide +kernel), (by decide +kernel), (by decide +kernel)⟩, by decide⟩
theorem qv_X12_fault : am_yV yX12_fault := ⟨am_mem 1348 (by decide +kernel) rfl, am_mem 1349 (by decide +kernel) rfl⟩
theorem qm_X12_faultIn : am_y yX12_faultIn cX12_faultIn 2 (some .int) 1 := ⟨am_mem 1354 (by decide +kernel) rfl, am_mem 73 (by decide +kernel) rfl, (by decide +kernel), ⟨(by decide +kernel), (by decide +kernel), (by decide +kernel)⟩, by decide⟩
theorem qv_X12_faultIn : am_yV yX12_faultIn := ⟨am_mem 1353 (by decide +kernel) rfl, am_mem 45 (by decide +kernel) rfl⟩
theorem qm_X12_readsSum : am_y yX12_readsSum cX12_readsSum 1 (some .boolean) 0 := ⟨am_mem 1358 (by decide +kernel) rfl, am_mem 73 (by decide +kernel) rfl, (by decide +kernel), ⟨(by decide +kernel), (by decide +kernel), (by decide +kernel)⟩, by decide⟩
theorem qv_X12_readsSum : am_yV yX12_readsSum := ⟨am_mem 1357 (by decide +kernel) rfl, am_mem 46 (by decide +kernel) rfl⟩
theorem qm_X12_readsProduct : am_y yX12_readsProduct cX12_readsProduct 1 (some .boolean) 0 := ⟨am_mem 1362 (by decide +kernel) rfl, am_mem 73 (by decide +kernel) rfl, (by decide +kernel), ⟨(by decide +kernel), (by decide +kernel), (by decide +kernel)⟩, by decide⟩
theorem qv_X12_readsProduct : am_yV yX12_readsProduct := ⟨am_mem 1361 (by decide +kernel) rfl, am_mem 47 (by decide +kernel) rfl⟩
theorem qm_X12_readsAtom : am_y yX12_readsAtom cX12_readsAtom 2 (some .boolean) 0 := ⟨am_mem 1366 (by decide +kernel) rfl, am_mem 73 (by decide +kernel) rfl, (by decide +kernel), ⟨(by decide +kernel), (by decide +kernel), (by decide +kernel)⟩, by decide⟩
theorem qv_X12_readsAtom : am_yV yX12_readsAtom := ⟨am_mem 1365 (by decide +kernel) rfl, am_mem 48 (by decide +kernel) rfl⟩
theorem qm_X12_sign : am_y yX12_sign cX12_sign 1 (some .int) 0 := ⟨am_mem 1370 (by decide +kernel) rfl, am_mem 73 (by decide +kernel) rfl, (by decide +kernel), ⟨(by decide +kernel), (by decide +kernel), (by decide +kernel)⟩, by decide⟩
theorem qv_X12_sign : am_yV yX12_sign := ⟨am_mem 1369 (by decide +kernel) rfl, am_mem 49 (by decide +kernel) rfl⟩
theorem qm_X12_takes : am_y yX12_takes cX12_takes 2 (some .boolean) 1 := ⟨am_mem 1374 (by decide +kernel) rfl, am_mem 73 (by decide +kernel) rfl, (by decide +kernel), ⟨(by decide +kernel), (by decide +kernel), (by decide +kernel)⟩, by decide⟩
theorem qv_X12_takes : am_yV yX12_takes := ⟨am_mem 1373 (by decide +kernel) rfl, am_mem 50 (by decide +kernel) rfl⟩
theorem qm_X12_isField : am_y yX12_isField cX12_isField 1 (some .boolean) 1 := ⟨am_mem 1377 (by decide +kernel) rfl, am_mem 73 (by decide +kernel) rfl, (by decide +kernel), ⟨(by decide +kernel), (by decide +kernel), (by decide +kernel)⟩, by decide⟩
theorem qs_X12_isField : Cond.static yX12_isField ∈ am_gt := am_mem 1376 (by decide +kernel) rfl
theorem qm_X12_readsNumber : am_y yX12_readsNumber cX12_readsNumber 2 (some .boolean) 0 := ⟨am_mem 1381 (by decide +kernel) rfl, am_mem 73 (by decide +kernel) rfl, (by decide +kernel), ⟨(by decide +kernel), (by decide +kernel), (by decide +kernel)⟩, by decide⟩
theorem qv_X12_readsNumber : am_yV yX12_readsNumber := ⟨am_mem 1380 (by decide +kernel) rfl, am_mem 51 (by decide +kernel) rfl⟩
theorem qm_X12_rule : am_y yX12_rule cX12_rule 5 (some .int) 1 := ⟨am_mem 1387 (by decide +kernel) rfl, am_mem 73 (by decide +kernel) rfl, (by decide +kernel), ⟨(by decide +kernel), (by decide +kernel), (by decide +kernel)⟩, by decide⟩
theorem qv_X12_rule : am_yV yX12_rule := ⟨am_mem 1385 (by decide +kernel) rfl, am_mem 1386 (by decide +kernel) rfl⟩
theorem qm_X12_right : am_y yX12_right cX12_right 2 (some .int) 1 := ⟨am_mem 1391 (by decide +kernel) rfl, am_mem 73 (by decide +kernel) rfl, (by decide +kernel), ⟨(by decide +kernel), (by decide +kernel), (by decide +kernel)⟩, by decide⟩
theorem qv_X12_right : am_yV yX12_right := ⟨am_mem 1389 (by decide +kernel) rfl, am_mem 1390 (by decide +kernel) rfl⟩
theorem qm_X12_rightOf : am_y yX12_rightOf cX12_rightOf 2 (some .int) 1 := ⟨am_mem 1395 (by decide +kernel) rfl, am_mem 73 (by decide +kernel) rfl, (by decide +kernel), ⟨(by decide +kernel), (by decide +kernel), (by decide +kernel)⟩, by decide⟩
theorem qv_X12_rightOf : am_yV yX12_rightOf := ⟨am_mem 1394 (by decide +kernel) rfl, am_mem 52 (by decide +kernel) rfl⟩
theorem qm_X12_sum : am_y yX12_sum cX12_sum 4 (some .int) 0 := ⟨am_mem 1399 (by decide +kernel) rfl, am_mem 73 (by decide +kernel) rfl, (by decide +kernel), ⟨(by decide +kernel), (by decide +kernel), (by decide +kernel)⟩, by decide⟩
theorem qv_X12_sum : am_yV yX12_sum := ⟨am_mem 1398 (by decide +kernel) rfl, am_mem 53 (by decide +kernel) rfl⟩
theorem qm_X12_product : am_y yX12_product cX12_product 4 (some .int) 0 := ⟨am_mem 1403 (by decide +kernel) rfl, am_mem 73 (by decide +kernel) rfl, (by decide +kernel), ⟨(by decide +kernel), (by decide +kernel), (by decide +kernel)⟩, by decide⟩
theorem qv_X12_product : am_yV yX12_product := ⟨am_mem 1402 (by decide +kernel) rfl, am_mem 54 (by decide +kernel) rfl⟩
theorem qm_X12_atom : am_y yX12_atom cX12_atom 4 (some .int) 0 := ⟨am_mem 1407 (by decide +kernel) rfl, am_mem 73 (by decide +kernel) rfl, (by decide +kernel), ⟨(by decide +kernel), (by decide +kernel), (by decide +kernel)⟩, by decide⟩
theorem qv_X12_atom : am_yV yX12_atom := ⟨am_mem 1406 (by decide +kernel) rfl, am_mem 55 (by decide +kernel) rfl⟩
theorem qm_X12_standard : am_y yX12_standard cX12_standard 3 (some .int) 1 := ⟨am_mem 1411 (by decide +kernel) rfl, am_mem 73 (by decide +kernel) rfl, (by decide +kernel), ⟨(by decide +kernel), (by decide +kernel), (by decide +kernel)⟩, by decide⟩
theorem qv_X12_standard : am_yV yX12_standard := ⟨am_mem 1409 (by decide +kernel) rfl, am_mem 1410 (by decide +kernel) rfl⟩
theorem qm_X12_worth : am_y yX12_worth cX12_worth 2 (some .long) 1 := ⟨am_mem 1415 (by decide +kernel) rfl, am_mem 73 (by decide +kernel) rfl, (by decide +kernel), ⟨(by decide +kernel), (by decide +kernel), (by decide +kernel)⟩, by decide⟩
theorem qv_X12_worth : am_yV yX12_worth := ⟨am_mem 1413 (by decide +kernel) rfl, am_mem 1414 (by decide +kernel) rfl⟩
theorem qm_X12_worthOf : am_y yX12_worthOf cX12_worthOf 4 (some .long) 1 := ⟨am_mem 1420 (by decide +kernel) rfl, am_mem 73 (by decide +kernel) rfl, (by decide +kernel), ⟨(by decide +kernel), (by decide +kernel), (by decide +kernel)⟩, by decide⟩
theorem qv_X12_worthOf : am_yV yX12_worthOf := ⟨am_mem 1419 (by decide +kernel) rfl, am_mem 56 (by decide +kernel) rfl⟩
theorem qm_X12_steady : am_y yX12_steady cX12_steady 4 (some .int) 1 := ⟨am_mem 1424 (by decide +kernel) rfl, am_mem 73 (by decide +kernel) rfl, (by decide +kernel), ⟨(by decide +kernel), (by decide +kernel), (by decide +kernel)⟩, by decide⟩
theorem qv_X12_steady : am_yV yX12_steady := ⟨am_mem 1422 (by decide +kernel) rfl, am_mem 1423 (by decide +kernel) rfl⟩
theorem qm_X12_aged : am_y yX12_aged cX12_aged 5 (some .int) 1 := ⟨am_mem 1428 (by decide +kernel) rfl, am_mem 73 (by decide +kernel) rfl, (by decide +kernel), ⟨(by decide +kernel), (by decide +kernel), (by decide +kernel)⟩, by decide⟩
theorem qv_X12_aged : am_yV yX12_aged := ⟨am_mem 1426 (by decide +kernel) rfl, am_mem 1427 (by decide +kernel) rfl⟩
theorem qm_X12_bill : am_y yX12_bill cX12_bill 5 (some .int) 3 := ⟨am_mem 1432 (by decide +kernel) rfl, am_mem 73 (by decide +kernel) rfl, (by decide +kernel), ⟨(by decide +kernel), (by decide +kernel), (by decide +kernel)⟩, by decide⟩
theorem qv_X12_bill : am_yV yX12_bill := ⟨am_mem 1430 (by decide +kernel) rfl, am_mem 1431 (by decide +kernel) rfl⟩
theorem qm_X12_paid : am_y yX12_paid cX12_paid 2 (some .long) 1 := ⟨am_mem 1437 (by decide +kernel) rfl, am_mem 73 (by decide +kernel) rfl, (by decide +kernel), ⟨(by decide +kernel), (by decide +kernel), (by decide +kernel)⟩, by decide⟩
theorem qv_X12_paid : am_yV yX12_paid := ⟨am_mem 1435 (by decide +kernel) rfl, am_mem 1436 (by decide +kernel) rfl⟩
theorem qm_X12_owed : am_y yX12_owed cX12_owed 5 (some .long) 1 := ⟨am_mem 1441 (by decide +kernel) rfl, am_mem 73 (by decide +kernel) rfl, (by decide +kernel), ⟨(by decide +kernel), (by decide +kernel), (by decide +kernel)⟩, by decide⟩
theorem qv_X12_owed : am_yV yX12_owed := ⟨am_mem 1439 (by decide +kernel) rfl, am_mem 1440 (by decide +kernel) rfl⟩
theorem qm_X12_gain : am_y yX12_gain cX12_gain 6 (some .int) 5 := ⟨am_mem 1445 (by decide +kernel) rfl, am_mem 73 (by decide +kernel) rfl, (by decide +kernel), ⟨(by decide +kernel), (by decide +kernel), (by decide +kernel)⟩, by decide⟩
theorem qv_X12_gain : am_yV yX12_gain := ⟨am_mem 1443 (by decide +kernel) rfl, am_mem 1444 (by decide +kernel) rfl⟩
theorem qm_X12_isCosts : am_y yX12_isCosts cX12_isCosts 2 (some .boolean) 2 := ⟨am_mem 1449 (by decide +kernel) rfl, am_mem 73 (by decide +kernel) rfl, (by decide +kernel), ⟨(by decide +kernel), (by decide +kernel), (by decide +kernel)⟩, by decide⟩
theorem qs_X12_isCosts : Cond.static yX12_isCosts ∈ am_gt := am_mem 1448 (by decide +kernel) rfl
theorem qm_X12_byLot : am_y yX12_byLot cX12_byLot 6 (some .int) 4 := ⟨am_mem 1453 (by decide +kernel) rfl, am_mem 73 (by decide +kernel) rfl, (by decide +kernel), ⟨(by decide +kernel), (by decide +kernel), (by decide +kernel)⟩, by decide⟩
theorem qs_X12_byLot : Cond.static yX12_byLot ∈ am_gt := am_mem 1452 (by decide +kernel) rfl
theorem qm_X12_bits : am_y yX12_bits cX12_bits 3 (some .int) 1 := ⟨am_mem 1456 (by decide +kernel) rfl, am_mem 73 (by decide +kernel) rfl, (by decide +kernel), ⟨(by decide +kernel), (by decide +kernel), (by decide +kernel)⟩, by decide⟩
theorem qs_X12_bits : Cond.static yX12_bits ∈ am_gt := am_mem 1455 (by decide +kernel) rfl
theorem qm_X12_gainBy : am_y yX12_gainBy cX12_gainBy 5 (some .int) 4 := ⟨am_mem 1459 (by decide +kernel) rfl, am_mem 73 (by decide +kernel) rfl, (by decide +kernel), ⟨(by decide +kernel), (by decide +kernel), (by decide +kernel)⟩, by decide⟩
theorem qs_X12_gainBy : Cond.static yX12_gainBy ∈ am_gt := am_mem 1458 (by decide +kernel) rfl
theorem qm_X12_best : am_y yX12_best cX12_best 7 (some .int) 4 := ⟨am_mem 1463 (by decide +kernel) rfl, am_mem 73 (by decide +kernel) rfl, (by decide +kernel), ⟨(by decide +kernel), (by decide +kernel), (by decide +kernel)⟩, by decide⟩
theorem qv_X12_best : am_yV yX12_best := ⟨am_mem 1461 (by decide +kernel) rfl, am_mem 1462 (by decide +kernel) rfl⟩
theorem qm_X12_isEnough : am_y yX12_isEnough cX12_isEnough 4 (some .boolean) 3 := ⟨am_mem 1466 (by decide +kernel) rfl, am_mem 73 (by decide +kernel) rfl, (by decide +kernel), ⟨(by decide +kernel), (by decide +kernel), (by decide +kernel)⟩, by decide⟩
theorem qs_X12_isEnough : Cond.static yX12_isEnough ∈ am_gt := am_mem 1465 (by decide +kernel) rfl
theorem qm_X12_narrows : am_y yX12_narrows cX12_narrows 6 (some .int) 0 := ⟨am_mem 1470 (by decide +kernel) rfl, am_mem 73 (by decide +kernel) rfl, (by decide +kernel), ⟨(by decide +kernel), (by decide +kernel), (by decide +kernel)⟩, by decide⟩
theorem qv_X12_narrows : am_yV yX12_narrows := ⟨am_mem 1468 (by decide +kernel) rfl, am_mem 1469 (by decide +kernel) rfl⟩
theorem qm_X12_findGroups : am_y yX12_findGroups cX12_findGroups 4 none 0 := ⟨am_mem 1474 (by decide +kernel) rfl, am_mem 73 (by decide +kernel) rfl, (by decide +kernel), ⟨(by decide +kernel), (by decide +kernel), (by decide +kernel)⟩, by decide⟩
theorem qv_X12_findGroups : am_yV yX12_findGroups := ⟨am_mem 1473 (by decide +kernel) rfl, am_mem 57 (by decide +kernel) rfl⟩
theorem qm_X12_sizeOf : am_y yX12_sizeOf cX12_sizeOf 4 (some .int) 1 := ⟨am_mem 1478 (by decide +kernel) rfl, am_mem 73 (by decide +kernel) rfl, (by decide +kernel), ⟨(by decide +kernel), (by decide +kernel), (by decide +kernel)⟩, by decide⟩
theorem qv_X12_sizeOf : am_yV yX12_sizeOf := ⟨am_mem 1477 (by decide +kernel) rfl, am_mem 58 (by decide +kernel) rfl⟩
theorem qm_X12_image : am_y yX12_image cX12_image 2 (some .int) 0 := ⟨am_mem 1482 (by decide +kernel) rfl, am_mem 73 (by decide +kernel) rfl, (by decide +kernel), ⟨(by decide +kernel), (by decide +kernel), (by decide +kernel)⟩, by decide⟩
theorem qv_X12_image : am_yV yX12_image := ⟨am_mem 1480 (by decide +kernel) rfl, am_mem 1481 (by decide +kernel) rfl⟩
theorem qm_X12_restore : am_y yX12_restore cX12_restore 2 (some .int) 0 := ⟨am_mem 1486 (by decide +kernel) rfl, am_mem 73 (by decide +kernel) rfl, (by decide +kernel), ⟨(by decide +kernel), (by decide +kernel), (by decide +kernel)⟩, by decide⟩
theorem qv_X12_restore : am_yV yX12_restore := ⟨am_mem 1484 (by decide +kernel) rfl, am_mem 1485 (by decide +kernel) rfl⟩
theorem qm_X12_count : am_y yX12_count cX12_count 5 (some .int) 1 := ⟨am_mem 1490 (by decide +kernel) rfl, am_mem 73 (by decide +kernel) rfl, (by decide +kernel), ⟨(by decide +kernel), (by decide +kernel), (by decide +kernel)⟩, by decide⟩
theorem qv_X12_count : am_yV yX12_count := ⟨am_mem 1488 (by decide +kernel) rfl, am_mem 1489 (by decide +kernel) rfl⟩
theorem qm_X12_keep : am_y yX12_keep cX12_keep 5 (some .int) 3 := ⟨am_mem 1494 (by decide +kernel) rfl, am_mem 73 (by decide +kernel) rfl, (by decide +kernel), ⟨(by decide +kernel), (by decide +kernel), (by decide +kernel)⟩, by decide⟩
theorem qv_X12_keep : am_yV yX12_keep := ⟨am_mem 1492 (by decide +kernel) rfl, am_mem 1493 (by decide +kernel) rfl⟩
theorem qm_X12_row : am_y yX12_row cX12_row 5 (some .int) 3 := ⟨am_mem 1498 (by decide +kernel) rfl, am_mem 73 (by decide +kernel) rfl, (by decide +kernel), ⟨(by decide +kernel), (by decide +kernel), (by decide +kernel)⟩, by decide⟩
theorem qv_X12_row : am_yV yX12_row := ⟨am_mem 1496 (by decide +kernel) rfl, am_mem 1497 (by decide +kernel) rfl⟩
theorem qm_X12_put : am_y yX12_put cX12_put 5 (some .int) 3 := ⟨am_mem 1502 (by decide +kernel) rfl, am_mem 73 (by decide +kernel) rfl, (by decide +kernel), ⟨(by decide +kernel), (by decide +kernel), (by decide +kernel)⟩, by decide⟩
theorem qv_X12_put : am_yV yX12_put := ⟨am_mem 1500 (by decide +kernel) rfl, am_mem 1501 (by decide +kernel) rfl⟩
theorem qm_X12_element : am_y yX12_element cX12_element 3 (some .long) 2 := ⟨am_mem 1506 (by decide +kernel) rfl, am_mem 73 (by decide +kernel) rfl, (by decide +kernel), ⟨(by decide +kernel), (by decide +kernel), (by decide +kernel)⟩, by decide⟩
theorem qv_X12_element : am_yV yX12_element := ⟨am_mem 1504 (by decide +kernel) rfl, am_mem 1505 (by decide +kernel) rfl⟩
theorem qm_X12_copy : am_y yX12_copy cX12_copy 8 (some .int) 5 := ⟨am_mem 1510 (by decide +kernel) rfl, am_mem 73 (by decide +kernel) rfl, (by decide +kernel), ⟨(by decide +kernel), (by decide +kernel), (by decide +kernel)⟩, by decide⟩
theorem qv_X12_copy : am_yV yX12_copy := ⟨am_mem 1508 (by decide +kernel) rfl, am_mem 1509 (by decide +kernel) rfl⟩
theorem qm_X12_gives : am_y yX12_gives cX12_gives 3 (some .int) 1 := ⟨am_mem 1514 (by decide +kernel) rfl, am_mem 73 (by decide +kernel) rfl, (by decide +kernel), ⟨(by decide +kernel), (by decide +kernel), (by decide +kernel)⟩, by decide⟩
theorem qv_X12_gives : am_yV yX12_gives := ⟨am_mem 1512 (by decide +kernel) rfl, am_mem 1513 (by decide +kernel) rfl⟩
theorem qm_X12_wrongKept : am_y yX12_wrongKept cX12_wrongKept 2 (some .int) 1 := ⟨am_mem 1518 (by decide +kernel) rfl, am_mem 73 (by decide +kernel) rfl, (by decide +kernel), ⟨(by decide +kernel), (by decide +kernel), (by decide +kernel)⟩, by decide⟩
theorem qv_X12_wrongKept : am_yV yX12_wrongKept := ⟨am_mem 1517 (by decide +kernel) rfl, am_mem 59 (by decide +kernel) rfl⟩
theorem qm_X12_toss : am_y yX12_toss cX12_toss 3 (some .int) 1 := ⟨am_mem 1522 (by decide +kernel) rfl, am_mem 73 (by decide +kernel) rfl, (by decide +kernel), ⟨(by decide +kernel), (by decide +kernel), (by decide +kernel)⟩, by decide⟩
theorem qv_X12_toss : am_yV yX12_toss := ⟨am_mem 1520 (by decide +kernel) rfl, am_mem 1521 (by decide +kernel) rfl⟩
theorem ql_X11_1 : Cond.methodLink RX11 1 Lib.objectInit ∈ am_gt := am_mem 88 (by decide +kernel) rfl
theorem ql_X11_9 : am_lM RX11 9 yX10_init := Or.inl (am_mem 93 (by decide +kernel) rfl)
theorem ql_X11_27 : am_lM RX11 27 yX8_init := Or.inr ⟨"CandleBar", List.mem_of_getElem? (i := 285) (by decide +kernel)⟩
theorem ql_X11_34 : am_lM RX11 34 yX1_init := Or.inr ⟨"CandleBar", List.mem_of_getElem? (i := 310) (by decide +kernel)⟩
theorem ql_X11_41 : am_lM RX11 41 yX3_init := Or.inr ⟨"CandleBar", List.mem_of_getElem? (i := 336) (by decide +kernel)⟩
theorem ql_X11_48 : am_lM RX11 48 yX4_init := Or.inr ⟨"CandleBar", List.mem_of_getElem? (i := 352) (by decide +kernel)⟩
theorem ql_X11_55 : am_lM RX11 55 yX2_init := Or.inr ⟨"CandleBar", List.mem_of_getElem? (i := 372) (by decide +kernel)⟩
theorem ql_X11_60 : am_lM RX11 60 yX9_init := Or.inr ⟨"CandleBar", List.mem_of_getElem? (i := 374) (by decide +kernel)⟩
theorem ql_X11_61 : am_lM RX11 61 yX11_within := Or.inl (am_mem 444 (by decide +kernel) rfl)
theorem ql_X11_93 : am_lM RX11 93 yX10_lightAt := Or.inl (am_mem 451 (by decide +kernel) rfl)
theorem ql_X11_101 : am_lM RX11 101 yX5_shineIn := Or.inl (am_mem 473 (by decide +kernel) rfl)
theorem ql_X11_105 : am_lM RX11 105 yX5_wanderIn := Or.inl (am_mem 496 (by decide +kernel) rfl)
theorem ql_X11_108 : am_lM RX11 108 yX10_eyeAt := Or.inl (am_mem 507 (by decide +kernel) rfl)
theorem ql_X11_112 : am_lM RX11 112 yX2_weightOf := Or.inl (am_mem 511 (by decide +kernel) rfl)
theorem ql_X11_115 : am_lM RX11 115 yX2_change := Or.inl (am_mem 515 (by decide +kernel) rfl)
theorem ql_X11_121 : am_lM RX11 121 yX2_see := Or.inl (am_mem 524 (by decide +kernel) rfl)
theorem ql_X11_125 : am_lM RX11 125 yX10_isPair := Or.inl (am_mem 537 (by decide +kernel) rfl)
theorem ql_X11_129 : am_lM RX11 129 yX10_placeFor := Or.inl (am_mem 541 (by decide +kernel) rfl)
theorem ql_X11_133 : am_lM RX11 133 yX10_addMatch := Or.inl (am_mem 556 (by decide +kernel) rfl)
theorem ql_X11_137 : am_lM RX11 137 yX11_shelfRefusal := Or.inl (am_mem 565 (by decide +kernel) rfl)
theorem ql_X11_150 : am_lM RX11 150 yX7_isTiredAt := Or.inl (am_mem 569 (by decide +kernel) rfl)
theorem ql_X11_158 : am_lM RX11 158 yX10_matchAt := Or.inl (am_mem 582 (by decide +kernel) rfl)
theorem ql_X11_183 : am_lM RX11 183 yX10_isLight := Or.inl (am_mem 594 (by decide +kernel) rfl)
theorem ql_X11_186 : am_lM RX11 186 yX1_find := Or.inl (am_mem 595 (by decide +kernel) rfl)
theorem ql_X11_198 : am_lM RX11 198 yX1_multiply := Or.inl (am_mem 624 (by decide +kernel) rfl)
theorem ql_X11_209 : am_lM RX11 209 yX11_isPlaceUpTo := Or.inl (am_mem 549 (by decide +kernel) rfl)
theorem ql_X11_213 : am_lM RX11 213 yX4_read := Or.inl (am_mem 635 (by decide +kernel) rfl)
theorem ql_X11_219 : am_lM RX11 219 yX4_lawAt := Or.inl (am_mem 659 (by decide +kernel) rfl)
theorem ql_X11_222 : am_lM RX11 222 yX4_apart := Or.inl (am_mem 667 (by decide +kernel) rfl)
theorem ql_X11_227 : am_lM RX11 227 yX11_makeMeanEye := Or.inl (am_mem 689 (by decide +kernel) rfl)
theorem ql_X11_231 : am_lM RX11 231 yX11_isIn := Or.inl (am_mem 699 (by decide +kernel) rfl)
theorem ql_X11_238 : Cond.methodLink RX11 238 Lib.Math.abs.name ∈ am_gt := am_mem 706 (by decide +kernel) rfl
theorem ql_X11_243 : am_lM RX11 243 yJ6_bitCount_0f7a4 := Or.inl (am_mem 693 (by decide +kernel) rfl)
theorem ql_X11_248 : am_lM RX11 248 yX11_textRefusal := Or.inl (am_mem 711 (by decide +kernel) rfl)
theorem ql_X11_251 : am_lM RX11 251 yX8_findFault := Or.inl (am_mem 715 (by decide +kernel) rfl)
theorem ql_X11_255 : am_lM RX11 255 yX10_putInForce := Or.inl (am_mem 755 (by decide +kernel) rfl)
theorem ql_X11_259 : am_lM RX11 259 yX8_workOut := Or.inl (am_mem 763 (by decide +kernel) rfl)
theorem ql_X11_268 : am_lM RX11 268 yX11_worthOf := Or.inl (am_mem 778 (by decide +kernel) rfl)
theorem ql_X11_272 : am_lM RX11 272 yX11_isSteadier := Or.inl (am_mem 787 (by decide +kernel) rfl)
theorem ql_X11_276 : am_lM RX11 276 yX5_isAgedBy := Or.inl (am_mem 795 (by decide +kernel) rfl)
theorem ql_X11_302 : am_lM RX11 302 yX11_areTerms := Or.inl (am_mem 816 (by decide +kernel) rfl)
theorem ql_X11_305 : am_lM RX11 305 yX11_savedBy := Or.inl (am_mem 820 (by decide +kernel) rfl)
theorem ql_X11_308 : am_lM RX11 308 yX11_gainOfAnIllDay := Or.inl (am_mem 823 (by decide +kernel) rfl)
theorem ql_X11_312 : am_lM RX11 312 yX3_gather := Or.inl (am_mem 838 (by decide +kernel) rfl)
theorem ql_X11_316 : am_lM RX11 316 yX3_areJoined := Or.inl (am_mem 846 (by decide +kernel) rfl)
theorem ql_X11_319 : am_lM RX11 319 yX3_sizeWith := Or.inl (am_mem 850 (by decide +kernel) rfl)
theorem ql_X11_329 : am_lM RX11 329 yX10_takeFrom := Or.inl (am_mem 858 (by decide +kernel) rfl)
theorem ql_X11_338 : am_lM RX11 338 yX10_countOut := Or.inl (am_mem 887 (by decide +kernel) rfl)
theorem ql_X11_342 : am_lM RX11 342 yX10_allHours := Or.inl (am_mem 891 (by decide +kernel) rfl)
theorem ql_X11_345 : am_lM RX11 345 yX3_countPairs := Or.inl (am_mem 895 (by decide +kernel) rfl)
theorem ql_X11_354 : am_lM RX11 354 yX5_takeFrom := Or.inl (am_mem 904 (by decide +kernel) rfl)
theorem ql_X11_357 : am_lM RX11 357 yX7_begin := Or.inl (am_mem 909 (by decide +kernel) rfl)
theorem ql_X11_360 : am_lM RX11 360 yX7_lowestBits := Or.inl (am_mem 917 (by decide +kernel) rfl)
theorem ql_X11_386 : am_lM RX11 386 yX5_fail := Or.inl (am_mem 939 (by decide +kernel) rfl)
theorem ql_X0_1 : Cond.methodLink RX0 1 Lib.objectInit ∈ am_gt := am_mem 209 (by decide +kernel) rfl
theorem ql_X1_3 : Cond.methodLink RX1 3 Lib.objectInit ∈ am_gt := am_mem 313 (by decide +kernel) rfl
theorem ql_X1_18 : am_lM RX1 18 yX1_measure := Or.inl (am_mem 599 (by decide +kernel) rfl)
theorem ql_X1_26 : am_lM RX1 26 yX1_firstNearer := Or.inl (am_mem 607 (by decide +kernel) rfl)
theorem ql_X1_36 : am_lM RX1 36 yX6_otherThan := Or.inl (am_mem 615 (by decide +kernel) rfl)
theorem ql_X1_55 : am_lM RX1 55 yX1_reach := Or.inl (am_mem 603 (by decide +kernel) rfl)
theorem ql_X1_59 : am_lM RX1 59 yX6_joins := Or.inl (am_mem 611 (by decide +kernel) rfl)
theorem ql_X1_73 : am_lM RX1 73 yX1_greatestDivisor := Or.inl (am_mem 628 (by decide +kernel) rfl)
theorem ql_X2_1 : Cond.methodLink RX2 1 Lib.objectInit ∈ am_gt := am_mem 146 (by decide +kernel) rfl
theorem ql_X2_19 : Cond.methodLink RX2 19 Lib.Math.max.name ∈ am_gt := am_mem 528 (by decide +kernel) rfl
theorem ql_X2_25 : am_lM RX2 25 yX5_shineIn := Or.inl (am_mem 529 (by decide +kernel) rfl)
theorem ql_X2_31 : am_lM RX2 31 yX2_weigh := Or.inl (am_mem 530 (by decide +kernel) rfl)
theorem ql_X3_3 : Cond.methodLink RX3 3 Lib.objectInit ∈ am_gt := am_mem 339 (by decide +kernel) rfl
theorem ql_X3_46 : am_lM RX3 46 yX3_unite := Or.inl (am_mem 842 (by decide +kernel) rfl)
theorem ql_X3_50 : am_lM RX3 50 yX3_areJoined := Or.inl (am_mem 899 (by decide +kernel) rfl)
theorem ql_X4_3 : Cond.methodLink RX4 3 Lib.objectInit ∈ am_gt := am_mem 355 (by decide +kernel) rfl
theorem ql_X4_34 : am_lM RX4 34 yX4_strike := Or.inl (am_mem 639 (by decide +kernel) rfl)
theorem ql_X4_38 : am_lM RX4 38 yX4_sumUp := Or.inl (am_mem 652 (by decide +kernel) rfl)
theorem ql_X4_54 : am_lM RX4 54 yX5_shineIn := Or.inl (am_mem 643 (by decide +kernel) rfl)
theorem ql_X4_60 : am_lM RX4 60 yX4_yellowOf := Or.inl (am_mem 644 (by decide +kernel) rfl)
theorem ql_X4_63 : am_lM RX4 63 yX4_blueOf := Or.inl (am_mem 647 (by decide +kernel) rfl)
theorem ql_X4_66 : am_lM RX4 66 yX2_weigh := Or.inl (am_mem 650 (by decide +kernel) rfl)
theorem ql_X4_75 : am_lM RX4 75 yX11_isPlaceUpTo := Or.inr ⟨"CandleBar", List.mem_of_getElem? (i := 651) (by decide +kernel)⟩
theorem ql_X4_85 : am_lM RX4 85 yX4_isYellower := Or.inl (am_mem 656 (by decide +kernel) rfl)
theorem ql_X4_92 : am_lM RX4 92 yX4_placeBy := Or.inl (am_mem 671 (by decide +kernel) rfl)
theorem ql_X4_96 : Cond.methodLink RX4 96 Lib.Math.abs.name ∈ am_gt := am_mem 675 (by decide +kernel) rfl
theorem ql_X4_101 : am_lM RX4 101 yX11_placeOf := Or.inr ⟨"CandleBar", List.mem_of_getElem? (i := 674) (by decide +kernel)⟩
theorem ql_X5_3 : Cond.methodLink RX5 3 Lib.objectInit ∈ am_gt := am_mem 109 (by decide +kernel) rfl
theorem ql_X5_15 : am_lM RX5 15 yX5_shineAfter := Or.inl (am_mem 477 (by decide +kernel) rfl)
theorem ql_X5_20 : am_lM RX5 20 yX5_unheld := Or.inl (am_mem 482 (by decide +kernel) rfl)
theorem ql_X5_23 : Cond.methodLink RX5 23 Lib.Math.min.name ∈ am_gt := am_mem 490 (by decide +kernel) rfl
theorem ql_X5_28 : Cond.methodLink RX5 28 Lib.Math.max.name ∈ am_gt := am_mem 493 (by decide +kernel) rfl
theorem ql_X5_40 : am_lM RX5 40 yX5_glow := Or.inl (am_mem 486 (by decide +kernel) rfl)
theorem ql_X5_44 : Cond.methodLink RX5 44 Lib.Math.abs.name ∈ am_gt := am_mem 500 (by decide +kernel) rfl
theorem ql_X5_47 : am_lM RX5 47 yX5_shineIn := Or.inl (am_mem 799 (by decide +kernel) rfl)
theorem ql_X6_1 : Cond.methodLink RX6 1 Lib.objectInit ∈ am_gt := am_mem 161 (by decide +kernel) rfl
theorem ql_X7_3 : Cond.methodLink RX7 3 Lib.objectInit ∈ am_gt := am_mem 385 (by decide +kernel) rfl
theorem ql_X7_25 : am_lM RX7 25 yX7_leastNumber := Or.inl (am_mem 573 (by decide +kernel) rfl)
theorem ql_X8_3 : Cond.methodLink RX8 3 Lib.objectInit ∈ am_gt := am_mem 288 (by decide +kernel) rfl
theorem ql_X8_18 : am_lM RX8 18 yX8_begin := Or.inl (am_mem 719 (by decide +kernel) rfl)
theorem ql_X8_22 : am_lM RX8 22 yX8_readSum := Or.inl (am_mem 728 (by decide +kernel) rfl)
theorem ql_X8_42 : am_lM RX8 42 yX5_shineIn := Or.inl (am_mem 767 (by decide +kernel) rfl)
theorem ql_X8_56 : am_lM RX8 56 yX5_wanderIn := Or.inl (am_mem 768 (by decide +kernel) rfl)
theorem ql_X8_68 : Cond.methodLink RX8 68 Lib.Math.min.name ∈ am_gt := am_mem 723 (by decide +kernel) rfl
theorem ql_X8_77 : am_lM RX8 77 yX8_step := Or.inl (am_mem 724 (by decide +kernel) rfl)
theorem ql_X8_80 : am_lM RX8 80 yX8_readProduct := Or.inl (am_mem 732 (by decide +kernel) rfl)
theorem ql_X8_83 : am_lM RX8 83 yX8_readAtom := Or.inl (am_mem 736 (by decide +kernel) rfl)
theorem ql_X8_86 : am_lM RX8 86 yX11_within := Or.inr ⟨"CandleBar", List.mem_of_getElem? (i := 740) (by decide +kernel)⟩
theorem ql_X8_90 : am_lM RX8 90 yX8_readNumber := Or.inl (am_mem 741 (by decide +kernel) rfl)
theorem ql_X8_94 : am_lM RX8 94 yX8_expect := Or.inl (am_mem 745 (by decide +kernel) rfl)
theorem ql_X9_3 : Cond.methodLink RX9 3 Lib.objectInit ∈ am_gt := am_mem 377 (by decide +kernel) rfl
theorem ql_X9_17 : am_lM RX9 17 yX5_init := Or.inr ⟨"CandleBar", List.mem_of_getElem? (i := 379) (by decide +kernel)⟩
theorem ql_X9_24 : am_lM RX9 24 yX7_init := Or.inr ⟨"CandleBar", List.mem_of_getElem? (i := 382) (by decide +kernel)⟩
theorem ql_X10_3 : Cond.methodLink RX10 3 Lib.objectInit ∈ am_gt := am_mem 96 (by decide +kernel) rfl
theorem ql_X10_46 : am_lM RX10 46 yX5_init := Or.inr ⟨"CandleBar", List.mem_of_getElem? (i := 106) (by decide +kernel)⟩
theorem ql_X10_47 : am_lM RX10 47 yX2_init := Or.inr ⟨"CandleBar", List.mem_of_getElem? (i := 143) (by decide +kernel)⟩
theorem ql_X10_48 : am_lM RX10 48 yX6_init := Or.inr ⟨"CandleBar", List.mem_of_getElem? (i := 158) (by decide +kernel)⟩
theorem ql_X10_49 : am_lM RX10 49 yX0_init := Or.inr ⟨"CandleBar", List.mem_of_getElem? (i := 206) (by decide +kernel)⟩
theorem ql_X10_62 : am_lM RX10 62 yX5_takeFrom := Or.inl (am_mem 862 (by decide +kernel) rfl)
theorem ql_X10_66 : am_lM RX10 66 yX2_takeFrom := Or.inl (am_mem 866 (by decide +kernel) rfl)
theorem ql_X10_69 : am_lM RX10 69 yX6_takeFrom := Or.inl (am_mem 870 (by decide +kernel) rfl)
theorem ql_X10_72 : am_lM RX10 72 yX0_takeFrom := Or.inl (am_mem 874 (by decide +kernel) rfl)
theorem ql_X10_75 : am_lM RX10 75 yX10_putInForce := Or.inl (am_mem 878 (by decide +kernel) rfl)
theorem ql_X10_79 : am_lM RX10 79 yX11_within := Or.inr ⟨"CandleBar", List.mem_of_getElem? (i := 459) (by decide +kernel)⟩
theorem ql_X10_83 : am_lM RX10 83 yX10_isLight := Or.inl (am_mem 455 (by decide +kernel) rfl)
theorem ql_X10_87 : am_lM RX10 87 yX2_see := Or.inl (am_mem 545 (by decide +kernel) rfl)
theorem ql_X10_91 : am_lM RX10 91 yX11_placeOf := Or.inr ⟨"CandleBar", List.mem_of_getElem? (i := 546) (by decide +kernel)⟩
theorem ql_X10_95 : am_lM RX10 95 yX10_isPair := Or.inl (am_mem 560 (by decide +kernel) rfl)
theorem ql_L_7 : am_lM RL 7 yX11_element := Or.inl (am_mem 1048 (by decide +kernel) rfl)
theorem ql_L_17 : am_lM RL 17 yX11_init := Or.inl (am_mem 85 (by decide +kernel) rfl)
theorem ql_L_20 : am_lM RL 20 yX12_init := Or.inl (am_mem 1059 (by decide +kernel) rfl)
theorem ql_L_21 : am_lM RL 21 yX11_light := Or.inl (am_mem 440 (by decide +kernel) rfl)
theorem ql_L_25 : am_lM RL 25 yX12_light := Or.inl (am_mem 1138 (by decide +kernel) rfl)
theorem ql_L_26 : am_lM RL 26 yX11_setting := Or.inl (am_mem 447 (by decide +kernel) rfl)
theorem ql_L_30 : am_lM RL 30 yX12_setting := Or.inl (am_mem 1149 (by decide +kernel) rfl)
theorem ql_L_31 : am_lM RL 31 yX11_burn := Or.inl (am_mem 460 (by decide +kernel) rfl)
theorem ql_L_34 : am_lM RL 34 yX12_burn := Or.inl (am_mem 1161 (by decide +kernel) rfl)
theorem ql_L_35 : am_lM RL 35 yX11_damp := Or.inl (am_mem 465 (by decide +kernel) rfl)
theorem ql_L_39 : am_lM RL 39 yX12_damp := Or.inl (am_mem 1171 (by decide +kernel) rfl)
theorem ql_L_40 : am_lM RL 40 yX11_of := Or.inl (am_mem 469 (by decide +kernel) rfl)
theorem ql_L_43 : am_lM RL 43 yX12_of := Or.inl (am_mem 1176 (by decide +kernel) rfl)
theorem ql_L_44 : am_lM RL 44 yX11_eye := Or.inl (am_mem 503 (by decide +kernel) rfl)
theorem ql_L_48 : am_lM RL 48 yX12_eye := Or.inl (am_mem 1193 (by decide +kernel) rfl)
theorem ql_L_49 : am_lM RL 49 yX11_seen := Or.inl (am_mem 519 (by decide +kernel) rfl)
theorem ql_L_53 : am_lM RL 53 yX12_seen := Or.inl (am_mem 1202 (by decide +kernel) rfl)
theorem ql_L_54 : am_lM RL 54 yX11_alike := Or.inl (am_mem 533 (by decide +kernel) rfl)
theorem ql_L_57 : am_lM RL 57 yX12_alike := Or.inl (am_mem 1223 (by decide +kernel) rfl)
theorem ql_L_58 : am_lM RL 58 yX11_match := Or.inl (am_mem 552 (by decide +kernel) rfl)
theorem ql_L_61 : am_lM RL 61 yX12_match := Or.inl (am_mem 1242 (by decide +kernel) rfl)
theorem ql_L_62 : am_lM RL 62 yX11_hear := Or.inl (am_mem 561 (by decide +kernel) rfl)
theorem ql_L_65 : am_lM RL 65 yX12_hear := Or.inl (am_mem 1250 (by decide +kernel) rfl)
theorem ql_L_66 : am_lM RL 66 yX11_told := Or.inl (am_mem 578 (by decide +kernel) rfl)
theorem ql_L_69 : am_lM RL 69 yX12_told := Or.inl (am_mem 1267 (by decide +kernel) rfl)
theorem ql_L_70 : am_lM RL 70 yX11_out := Or.inl (am_mem 586 (by decide +kernel) rfl)
theorem ql_L_74 : am_lM RL 74 yX12_out := Or.inl (am_mem 1280 (by decide +kernel) rfl)
theorem ql_L_75 : am_lM RL 75 yX11_chain := Or.inl (am_mem 590 (by decide +kernel) rfl)
theorem ql_L_78 : am_lM RL 78 yX12_chain := Or.inl (am_mem 1284 (by decide +kernel) rfl)
theorem ql_L_79 : am_lM RL 79 yX11_span := Or.inl (am_mem 619 (by decide +kernel) rfl)
theorem ql_L_83 : am_lM RL 83 yX12_span := Or.inl (am_mem 1296 (by decide +kernel) rfl)
theorem ql_L_84 : am_lM RL 84 yX11_laws := Or.inl (am_mem 631 (by decide +kernel) rfl)
theorem ql_L_87 : am_lM RL 87 yX12_laws := Or.inl (am_mem 1304 (by decide +kernel) rfl)
theorem ql_L_88 : am_lM RL 88 yX11_parts := Or.inl (am_mem 663 (by decide +kernel) rfl)
theorem ql_L_91 : am_lM RL 91 yX12_parts := Or.inl (am_mem 1316 (by decide +kernel) rfl)
theorem ql_L_92 : am_lM RL 92 yX11_show := Or.inl (am_mem 676 (by decide +kernel) rfl)
theorem ql_L_95 : am_lM RL 95 yX12_show := Or.inl (am_mem 1324 (by decide +kernel) rfl)
theorem ql_L_96 : am_lM RL 96 yX11_disagree := Or.inl (am_mem 680 (by decide +kernel) rfl)
theorem ql_L_100 : am_lM RL 100 yX12_disagree := Or.inl (am_mem 1328 (by decide +kernel) rfl)
theorem ql_L_101 : am_lM RL 101 yX11_mean := Or.inl (am_mem 685 (by decide +kernel) rfl)
theorem ql_L_104 : am_lM RL 104 yX12_mean := Or.inl (am_mem 1333 (by decide +kernel) rfl)
theorem ql_L_105 : am_lM RL 105 yX11_stands := Or.inl (am_mem 702 (by decide +kernel) rfl)
theorem ql_L_108 : am_lM RL 108 yX12_stands := Or.inl (am_mem 1342 (by decide +kernel) rfl)
theorem ql_L_109 : am_lM RL 109 yX11_fault := Or.inl (am_mem 707 (by decide +kernel) rfl)
theorem ql_L_112 : am_lM RL 112 yX12_fault := Or.inl (am_mem 1347 (by decide +kernel) rfl)
theorem ql_L_113 : am_lM RL 113 yX11_rule := Or.inl (am_mem 751 (by decide +kernel) rfl)
theorem ql_L_116 : am_lM RL 116 yX12_rule := Or.inl (am_mem 1384 (by decide +kernel) rfl)
theorem ql_L_117 : am_lM RL 117 yX11_right := Or.inl (am_mem 759 (by decide +kernel) rfl)
theorem ql_L_120 : am_lM RL 120 yX12_right := Or.inl (am_mem 1388 (by decide +kernel) rfl)
theorem ql_L_121 : am_lM RL 121 yX11_standard := Or.inl (am_mem 769 (by decide +kernel) rfl)
theorem ql_L_124 : am_lM RL 124 yX12_standard := Or.inl (am_mem 1408 (by decide +kernel) rfl)
theorem ql_L_125 : am_lM RL 125 yX11_worth := Or.inl (am_mem 773 (by decide +kernel) rfl)
theorem ql_L_129 : am_lM RL 129 yX12_worth := Or.inl (am_mem 1412 (by decide +kernel) rfl)
theorem ql_L_130 : am_lM RL 130 yX11_steady := Or.inl (am_mem 783 (by decide +kernel) rfl)
theorem ql_L_133 : am_lM RL 133 yX12_steady := Or.inl (am_mem 1421 (by decide +kernel) rfl)
theorem ql_L_134 : am_lM RL 134 yX11_aged := Or.inl (am_mem 791 (by decide +kernel) rfl)
theorem ql_L_137 : am_lM RL 137 yX12_aged := Or.inl (am_mem 1425 (by decide +kernel) rfl)
theorem ql_L_138 : am_lM RL 138 yX11_bill := Or.inl (am_mem 800 (by decide +kernel) rfl)
theorem ql_L_141 : am_lM RL 141 yX12_bill := Or.inl (am_mem 1429 (by decide +kernel) rfl)
theorem ql_L_142 : am_lM RL 142 yX11_paid := Or.inl (am_mem 804 (by decide +kernel) rfl)
theorem ql_L_145 : am_lM RL 145 yX12_paid := Or.inl (am_mem 1434 (by decide +kernel) rfl)
theorem ql_L_146 : am_lM RL 146 yX11_owed := Or.inl (am_mem 808 (by decide +kernel) rfl)
theorem ql_L_149 : am_lM RL 149 yX12_owed := Or.inl (am_mem 1438 (by decide +kernel) rfl)
theorem ql_L_150 : am_lM RL 150 yX11_gain := Or.inl (am_mem 812 (by decide +kernel) rfl)
theorem ql_L_154 : am_lM RL 154 yX12_gain := Or.inl (am_mem 1442 (by decide +kernel) rfl)
theorem ql_L_155 : am_lM RL 155 yX11_best := Or.inl (am_mem 830 (by decide +kernel) rfl)
theorem ql_L_158 : am_lM RL 158 yX12_best := Or.inl (am_mem 1460 (by decide +kernel) rfl)
theorem ql_L_159 : am_lM RL 159 yX11_narrows := Or.inl (am_mem 834 (by decide +kernel) rfl)
theorem ql_L_163 : am_lM RL 163 yX12_narrows := Or.inl (am_mem 1467 (by decide +kernel) rfl)
theorem ql_L_164 : am_lM RL 164 yX11_image := Or.inl (am_mem 854 (by decide +kernel) rfl)
theorem ql_L_167 : am_lM RL 167 yX12_image := Or.inl (am_mem 1479 (by decide +kernel) rfl)
theorem ql_L_168 : am_lM RL 168 yX11_restore := Or.inl (am_mem 879 (by decide +kernel) rfl)
theorem ql_L_171 : am_lM RL 171 yX12_restore := Or.inl (am_mem 1483 (by decide +kernel) rfl)
theorem ql_L_172 : am_lM RL 172 yX11_count := Or.inl (am_mem 883 (by decide +kernel) rfl)
theorem ql_L_175 : am_lM RL 175 yX12_count := Or.inl (am_mem 1487 (by decide +kernel) rfl)
theorem ql_L_176 : am_lM RL 176 yX11_keep := Or.inl (am_mem 900 (by decide +kernel) rfl)
theorem ql_L_179 : am_lM RL 179 yX12_keep := Or.inl (am_mem 1491 (by decide +kernel) rfl)
theorem ql_L_180 : am_lM RL 180 yX11_row := Or.inl (am_mem 905 (by decide +kernel) rfl)
theorem ql_L_183 : am_lM RL 183 yX12_row := Or.inl (am_mem 1495 (by decide +kernel) rfl)
theorem ql_L_184 : am_lM RL 184 yX11_put := Or.inl (am_mem 913 (by decide +kernel) rfl)
theorem ql_L_187 : am_lM RL 187 yX12_put := Or.inl (am_mem 1499 (by decide +kernel) rfl)
theorem ql_L_188 : am_lM RL 188 yL_element := Or.inl (am_mem 1043 (by decide +kernel) rfl)
theorem ql_L_193 : am_lM RL 193 yX12_element := Or.inl (am_mem 1503 (by decide +kernel) rfl)
theorem ql_L_194 : am_lM RL 194 yX12_thrown := Or.inl (am_mem 1134 (by decide +kernel) rfl)
theorem ql_L_197 : am_lM RL 197 yX11_copy := Or.inl (am_mem 921 (by decide +kernel) rfl)
theorem ql_L_200 : am_lM RL 200 yX12_copy := Or.inl (am_mem 1507 (by decide +kernel) rfl)
theorem ql_L_201 : am_lM RL 201 yX11_gives := Or.inl (am_mem 928 (by decide +kernel) rfl)
theorem ql_L_204 : am_lM RL 204 yX12_gives := Or.inl (am_mem 1511 (by decide +kernel) rfl)
theorem ql_L_205 : am_lM RL 205 yX11_toss := Or.inl (am_mem 932 (by decide +kernel) rfl)
theorem ql_L_208 : am_lM RL 208 yX12_toss := Or.inl (am_mem 1519 (by decide +kernel) rfl)
theorem ql_X12_1 : Cond.methodLink RX12 1 Lib.objectInit ∈ am_gt := am_mem 1062 (by decide +kernel) rfl
theorem ql_X12_57 : am_lM RX12 57 yX12_isIn := Or.inl (am_mem 1143 (by decide +kernel) rfl)
theorem ql_X12_61 : am_lM RX12 61 yX12_isLight := Or.inl (am_mem 1153 (by decide +kernel) rfl)
theorem ql_X12_75 : am_lM RX12 75 yX12_becomes := Or.inl (am_mem 1157 (by decide +kernel) rfl)
theorem ql_X12_81 : am_lM RX12 81 yX12_get := Or.inl (am_mem 1166 (by decide +kernel) rfl)
theorem ql_X12_87 : am_lM RX12 87 yX12_givesBy := Or.inl (am_mem 1185 (by decide +kernel) rfl)
theorem ql_X12_93 : am_lM RX12 93 yX12_givesNow := Or.inl (am_mem 1181 (by decide +kernel) rfl)
theorem ql_X12_97 : am_lM RX12 97 yX12_wanders := Or.inl (am_mem 1189 (by decide +kernel) rfl)
theorem ql_X12_100 : am_lM RX12 100 yX12_isEye := Or.inl (am_mem 1197 (by decide +kernel) rfl)
theorem ql_X12_107 : am_lM RX12 107 yX12_isDim := Or.inl (am_mem 1206 (by decide +kernel) rfl)
theorem ql_X12_110 : am_lM RX12 110 yX12_yellowOf := Or.inl (am_mem 1210 (by decide +kernel) rfl)
theorem ql_X12_113 : am_lM RX12 113 yX12_blueOf := Or.inl (am_mem 1214 (by decide +kernel) rfl)
theorem ql_X12_116 : am_lM RX12 116 yX12_seenBy := Or.inl (am_mem 1218 (by decide +kernel) rfl)
theorem ql_X12_122 : am_lM RX12 122 yX12_placeOf := Or.inl (am_mem 1239 (by decide +kernel) rfl)
theorem ql_X12_126 : am_lM RX12 126 yX12_placeBy := Or.inl (am_mem 1235 (by decide +kernel) rfl)
theorem ql_X12_130 : am_lM RX12 130 yX12_isPair := Or.inl (am_mem 1227 (by decide +kernel) rfl)
theorem ql_X12_134 : am_lM RX12 134 yX12_alikeOf := Or.inl (am_mem 1231 (by decide +kernel) rfl)
theorem ql_X12_137 : am_lM RX12 137 yX12_tells := Or.inl (am_mem 1246 (by decide +kernel) rfl)
theorem ql_X12_141 : am_lM RX12 141 yX12_isShelf := Or.inl (am_mem 1258 (by decide +kernel) rfl)
theorem ql_X12_145 : am_lM RX12 145 yX12_wrongRow := Or.inl (am_mem 1254 (by decide +kernel) rfl)
theorem ql_X12_148 : am_lM RX12 148 yX12_isTired := Or.inl (am_mem 1261 (by decide +kernel) rfl)
theorem ql_X12_153 : am_lM RX12 153 yX12_isMatch := Or.inl (am_mem 1271 (by decide +kernel) rfl)
theorem ql_X12_158 : am_lM RX12 158 yX12_say := Or.inl (am_mem 1276 (by decide +kernel) rfl)
theorem ql_X12_164 : am_lM RX12 164 yX12_goesOn := Or.inl (am_mem 1292 (by decide +kernel) rfl)
theorem ql_X12_168 : am_lM RX12 168 yX12_findChain := Or.inl (am_mem 1288 (by decide +kernel) rfl)
theorem ql_X12_173 : am_lM RX12 173 yX12_common := Or.inl (am_mem 1301 (by decide +kernel) rfl)
theorem ql_X12_177 : am_lM RX12 177 yX12_isLet := Or.inl (am_mem 1312 (by decide +kernel) rfl)
theorem ql_X12_181 : am_lM RX12 181 yX12_findLaws := Or.inl (am_mem 1308 (by decide +kernel) rfl)
theorem ql_X12_184 : am_lM RX12 184 yX12_partOf := Or.inl (am_mem 1320 (by decide +kernel) rfl)
theorem ql_X12_191 : am_lM RX12 191 yX12_meanOf := Or.inl (am_mem 1338 (by decide +kernel) rfl)
theorem ql_X12_205 : am_lM RX12 205 yX12_sign := Or.inl (am_mem 1367 (by decide +kernel) rfl)
theorem ql_X12_216 : am_lM RX12 216 yX12_readsProduct := Or.inl (am_mem 1359 (by decide +kernel) rfl)
theorem ql_X12_220 : am_lM RX12 220 yX12_takes := Or.inl (am_mem 1371 (by decide +kernel) rfl)
theorem ql_X12_223 : am_lM RX12 223 yX12_readsAtom := Or.inl (am_mem 1363 (by decide +kernel) rfl)
theorem ql_X12_229 : am_lM RX12 229 yX12_readsSum := Or.inl (am_mem 1355 (by decide +kernel) rfl)
theorem ql_X12_232 : am_lM RX12 232 yX12_isField := Or.inl (am_mem 1375 (by decide +kernel) rfl)
theorem ql_X12_235 : am_lM RX12 235 yX12_readsNumber := Or.inl (am_mem 1378 (by decide +kernel) rfl)
theorem ql_X12_238 : am_lM RX12 238 yX12_faultIn := Or.inl (am_mem 1351 (by decide +kernel) rfl)
theorem ql_X12_241 : am_lM RX12 241 yX12_product := Or.inl (am_mem 1400 (by decide +kernel) rfl)
theorem ql_X12_244 : am_lM RX12 244 yX12_atom := Or.inl (am_mem 1404 (by decide +kernel) rfl)
theorem ql_X12_247 : am_lM RX12 247 yX12_sum := Or.inl (am_mem 1396 (by decide +kernel) rfl)
theorem ql_X12_253 : am_lM RX12 253 yX12_rightOf := Or.inl (am_mem 1392 (by decide +kernel) rfl)
theorem ql_X12_258 : am_lM RX12 258 yX12_worthOf := Or.inl (am_mem 1417 (by decide +kernel) rfl)
theorem ql_X12_266 : am_lM RX12 266 yX12_bits := Or.inl (am_mem 1454 (by decide +kernel) rfl)
theorem ql_X12_269 : am_lM RX12 269 yX12_gainBy := Or.inl (am_mem 1457 (by decide +kernel) rfl)
theorem ql_X12_274 : am_lM RX12 274 yX12_isCosts := Or.inl (am_mem 1447 (by decide +kernel) rfl)
theorem ql_X12_277 : am_lM RX12 277 yX12_byLot := Or.inl (am_mem 1451 (by decide +kernel) rfl)
theorem ql_X12_280 : am_lM RX12 280 yX12_isEnough := Or.inl (am_mem 1464 (by decide +kernel) rfl)
theorem ql_X12_283 : am_lM RX12 283 yX12_findGroups := Or.inl (am_mem 1471 (by decide +kernel) rfl)
theorem ql_X12_286 : am_lM RX12 286 yX12_sizeOf := Or.inl (am_mem 1475 (by decide +kernel) rfl)
theorem ql_X12_293 : am_lM RX12 293 yX12_wrongKept := Or.inl (am_mem 1515 (by decide +kernel) rfl)
theorem qms_abs : Cond.static Lib.Math.abs.name ∈ am_gt := am_mem 501 (by decide +kernel) rfl
theorem qmc_abs : Cond.code Lib.Math.abs.name Lib.Math.abs.code 1 (some .int) ∈ am_gt := am_mem 502 (by decide +kernel) rfl
theorem qms_max : Cond.static Lib.Math.max.name ∈ am_gt := am_mem 494 (by decide +kernel) rfl
theorem qmc_max : Cond.code Lib.Math.max.name Lib.Math.max.code 2 (some .int) ∈ am_gt := am_mem 495 (by decide +kernel) rfl
theorem qms_min : Cond.static Lib.Math.min.name ∈ am_gt := am_mem 491 (by decide +kernel) rfl
theorem qmc_min : Cond.code Lib.Math.min.name Lib.Math.min.code 2 (some .int) ∈ am_gt := am_mem 492 (by decide +kernel) rfl
theorem qmi_Math : Cond.initialized "java/lang/Math" ∈ am_gt := am_mem 74 (by decide +kernel) rfl
theorem qoi_i : Cond.instanceMethod Lib.objectInit ∈ am_gt := am_mem 89 (by decide +kernel) rfl
theorem qoi_c : Cond.code Lib.objectInit ⟨#[0xb1]⟩ 1 none ∈ am_gt := am_mem 90 (by decide +kernel) rfl
theorem qk_X11_97 : Cond.constant RX11 97 (99999) ∈ am_gt := am_mem 464 (by decide +kernel) rfl
theorem qk_X11_226 : Cond.constant RX11 226 (-1000000001) ∈ am_gt := am_mem 684 (by decide +kernel) rfl
theorem qk_X11_322 : Cond.constant RX11 322 (999999) ∈ am_gt := am_mem 819 (by decide +kernel) rfl
theorem qk_X5_19 : Cond.constant RX5 19 (99999) ∈ am_gt := am_mem 481 (by decide +kernel) rfl
theorem qk_X7_24 : Cond.constant RX7 24 (-2147483648) ∈ am_gt := am_mem 577 (by decide +kernel) rfl
theorem qk_X12_84 : Cond.constant RX12 84 (99999) ∈ am_gt := am_mem 1170 (by decide +kernel) rfl
theorem qk_X12_144 : Cond.constant RX12 144 (-2147483648) ∈ am_gt := am_mem 1265 (by decide +kernel) rfl
theorem qk_X12_188 : Cond.constant RX12 188 (-1000000001) ∈ am_gt := am_mem 1332 (by decide +kernel) rfl
theorem qk_J6_265 : Cond.constant RJ6 265 (1431655765) ∈ am_gt := am_mem 696 (by decide +kernel) rfl
theorem qk_J6_266 : Cond.constant RJ6 266 (858993459) ∈ am_gt := am_mem 697 (by decide +kernel) rfl
theorem qk_J6_267 : Cond.constant RJ6 267 (252645135) ∈ am_gt := am_mem 698 (by decide +kernel) rfl
theorem qkl_X11_119 : Cond.constantLong RX11 119 (-4000000000000000001) ∈ am_gt := am_mem 523 (by decide +kernel) rfl
theorem qkl_X11_196 : Cond.constantLong RX11 196 (-4000000000000000004) ∈ am_gt := am_mem 623 (by decide +kernel) rfl
theorem qkl_X11_266 : Cond.constantLong RX11 266 (-4000000000000000003) ∈ am_gt := am_mem 777 (by decide +kernel) rfl
theorem qkl_X11_297 : Cond.constantLong RX11 297 (100) ∈ am_gt := am_mem 782 (by decide +kernel) rfl
theorem qkl_X12_65 : Cond.constantLong RX12 65 (7) ∈ am_gt := am_mem 1142 (by decide +kernel) rfl
theorem qkl_X12_67 : Cond.constantLong RX12 67 (9) ∈ am_gt := am_mem 1209 (by decide +kernel) rfl
theorem qkl_X12_69 : Cond.constantLong RX12 69 (9999) ∈ am_gt := am_mem 1146 (by decide +kernel) rfl
theorem qkl_X12_71 : Cond.constantLong RX12 71 (100) ∈ am_gt := am_mem 1147 (by decide +kernel) rfl
theorem qkl_X12_73 : Cond.constantLong RX12 73 (200) ∈ am_gt := am_mem 1148 (by decide +kernel) rfl
theorem qkl_X12_79 : Cond.constantLong RX12 79 (999) ∈ am_gt := am_mem 1165 (by decide +kernel) rfl
theorem qkl_X12_85 : Cond.constantLong RX12 85 (50) ∈ am_gt := am_mem 1175 (by decide +kernel) rfl
theorem qkl_X12_91 : Cond.constantLong RX12 91 (6) ∈ am_gt := am_mem 1180 (by decide +kernel) rfl
theorem qkl_X12_103 : Cond.constantLong RX12 103 (2) ∈ am_gt := am_mem 1200 (by decide +kernel) rfl
theorem qkl_X12_105 : Cond.constantLong RX12 105 (20) ∈ am_gt := am_mem 1201 (by decide +kernel) rfl
theorem qkl_X12_120 : Cond.constantLong RX12 120 (-4000000000000000001) ∈ am_gt := am_mem 1222 (by decide +kernel) rfl
theorem qkl_X12_151 : Cond.constantLong RX12 151 (99) ∈ am_gt := am_mem 1266 (by decide +kernel) rfl
theorem qkl_X12_156 : Cond.constantLong RX12 156 (5) ∈ am_gt := am_mem 1275 (by decide +kernel) rfl
theorem qkl_X12_171 : Cond.constantLong RX12 171 (-4000000000000000004) ∈ am_gt := am_mem 1300 (by decide +kernel) rfl
theorem qkl_X12_189 : Cond.constantLong RX12 189 (255) ∈ am_gt := am_mem 1337 (by decide +kernel) rfl
theorem qkl_X12_194 : Cond.constantLong RX12 194 (-1) ∈ am_gt := am_mem 1346 (by decide +kernel) rfl
theorem qkl_X12_209 : Cond.constantLong RX12 209 (48) ∈ am_gt := am_mem 1382 (by decide +kernel) rfl
theorem qkl_X12_211 : Cond.constantLong RX12 211 (57) ∈ am_gt := am_mem 1383 (by decide +kernel) rfl
theorem qkl_X12_256 : Cond.constantLong RX12 256 (-4000000000000000003) ∈ am_gt := am_mem 1416 (by decide +kernel) rfl
theorem qkl_X12_262 : Cond.constantLong RX12 262 (3) ∈ am_gt := am_mem 1433 (by decide +kernel) rfl
theorem qkl_X12_264 : Cond.constantLong RX12 264 (999999) ∈ am_gt := am_mem 1450 (by decide +kernel) rfl
theorem qkl_X12_272 : Cond.constantLong RX12 272 (127) ∈ am_gt := am_mem 1446 (by decide +kernel) rfl
theorem qn_X11_7 : am_lN RX11 7 10 := ⟨(RX10, TX10, 11), rfl, am_mem 91 (by decide +kernel) rfl, am_mem 92 (by decide +kernel) rfl, am_mem 62 (by decide +kernel) rfl⟩
theorem qn_X11_19 : am_lN RX11 19 9 := ⟨(RX9, TX9, 3), rfl, am_mem 281 (by decide +kernel) rfl, am_mem 373 (by decide +kernel) rfl, am_mem 71 (by decide +kernel) rfl⟩
theorem qa_X11_19 : Cond.classLink RX11 19 "CandleBar$Shelf" ∈ am_gt := am_mem 281 (by decide +kernel) rfl
theorem qn_X11_25 : am_lN RX11 25 8 := ⟨(RX8, TX8, 6), rfl, am_mem 283 (by decide +kernel) rfl, am_mem 284 (by decide +kernel) rfl, am_mem 67 (by decide +kernel) rfl⟩
theorem qn_X11_32 : am_lN RX11 32 1 := ⟨(RX1, TX1, 5), rfl, am_mem 308 (by decide +kernel) rfl, am_mem 309 (by decide +kernel) rfl, am_mem 68 (by decide +kernel) rfl⟩
theorem qn_X11_39 : am_lN RX11 39 3 := ⟨(RX3, TX3, 3), rfl, am_mem 334 (by decide +kernel) rfl, am_mem 335 (by decide +kernel) rfl, am_mem 69 (by decide +kernel) rfl⟩
theorem qn_X11_46 : am_lN RX11 46 4 := ⟨(RX4, TX4, 4), rfl, am_mem 350 (by decide +kernel) rfl, am_mem 351 (by decide +kernel) rfl, am_mem 70 (by decide +kernel) rfl⟩
theorem qn_X11_53 : am_lN RX11 53 2 := ⟨(RX2, TX2, 3), rfl, am_mem 371 (by decide +kernel) rfl, am_mem 142 (by decide +kernel) rfl, am_mem 64 (by decide +kernel) rfl⟩
theorem qa_X11_53 : Cond.classLink RX11 53 "CandleBar$Eye" ∈ am_gt := am_mem 371 (by decide +kernel) rfl
theorem qn_X9_15 : am_lN RX9 15 5 := ⟨(RX5, TX5, 6), rfl, am_mem 378 (by decide +kernel) rfl, am_mem 105 (by decide +kernel) rfl, am_mem 63 (by decide +kernel) rfl⟩
theorem qa_X9_15 : Cond.classLink RX9 15 "CandleBar$Light" ∈ am_gt := am_mem 378 (by decide +kernel) rfl
theorem qn_X9_22 : am_lN RX9 22 7 := ⟨(RX7, TX7, 3), rfl, am_mem 380 (by decide +kernel) rfl, am_mem 381 (by decide +kernel) rfl, am_mem 72 (by decide +kernel) rfl⟩
theorem qn_X10_9 : am_lN RX10 9 5 := ⟨(RX5, TX5, 6), rfl, am_mem 97 (by decide +kernel) rfl, am_mem 105 (by decide +kernel) rfl, am_mem 63 (by decide +kernel) rfl⟩
theorem qa_X10_9 : Cond.classLink RX10 9 "CandleBar$Light" ∈ am_gt := am_mem 97 (by decide +kernel) rfl
theorem qn_X10_17 : am_lN RX10 17 2 := ⟨(RX2, TX2, 3), rfl, am_mem 99 (by decide +kernel) rfl, am_mem 142 (by decide +kernel) rfl, am_mem 64 (by decide +kernel) rfl⟩
theorem qa_X10_17 : Cond.classLink RX10 17 "CandleBar$Eye" ∈ am_gt := am_mem 99 (by decide +kernel) rfl
theorem qn_X10_23 : am_lN RX10 23 6 := ⟨(RX6, TX6, 6), rfl, am_mem 101 (by decide +kernel) rfl, am_mem 157 (by decide +kernel) rfl, am_mem 65 (by decide +kernel) rfl⟩
theorem qa_X10_23 : Cond.classLink RX10 23 "CandleBar$Match" ∈ am_gt := am_mem 101 (by decide +kernel) rfl
theorem qn_X10_29 : am_lN RX10 29 0 := ⟨(RX0, TX0, 4), rfl, am_mem 103 (by decide +kernel) rfl, am_mem 205 (by decide +kernel) rfl, am_mem 66 (by decide +kernel) rfl⟩
theorem qa_X10_29 : Cond.classLink RX10 29 "CandleBar$Bill" ∈ am_gt := am_mem 103 (by decide +kernel) rfl
theorem qn_L_8 : am_lN RL 8 11 := ⟨(RX11, TX11, 9), rfl, am_mem 83 (by decide +kernel) rfl, am_mem 84 (by decide +kernel) rfl, am_mem 61 (by decide +kernel) rfl⟩
theorem qn_L_18 : am_lN RL 18 12 := ⟨(RX12, TX12, 23), rfl, am_mem 1057 (by decide +kernel) rfl, am_mem 1058 (by decide +kernel) rfl, am_mem 73 (by decide +kernel) rfl⟩
theorem qao_Light : Cond.arrayOver (.object "CandleBar$Light") ∈ lw_tbl := List.mem_of_getElem? (i := 98) (by decide +kernel)
theorem qao_Eye : Cond.arrayOver (.object "CandleBar$Eye") ∈ lw_tbl := List.mem_of_getElem? (i := 100) (by decide +kernel)
theorem qao_Match : Cond.arrayOver (.object "CandleBar$Match") ∈ lw_tbl := List.mem_of_getElem? (i := 102) (by decide +kernel)
theorem qao_Bill : Cond.arrayOver (.object "CandleBar$Bill") ∈ lw_tbl := List.mem_of_getElem? (i := 104) (by decide +kernel)
theorem qao_Shelf : Cond.arrayOver (.object "CandleBar$Shelf") ∈ lw_tbl := List.mem_of_getElem? (i := 282) (by decide +kernel)
theorem qac_int : Cond.arrayClass .int ∈ am_gt := am_mem 141 (by decide +kernel) rfl
theorem qac_boolean : Cond.arrayClass .boolean ∈ am_gt := am_mem 370 (by decide +kernel) rfl
theorem qac_byte : Cond.arrayClass .byte ∈ am_gt := am_mem 1010 (by decide +kernel) rfl
theorem qac_long : Cond.arrayClass .long ∈ am_gt := am_mem 1133 (by decide +kernel) rfl
theorem qac_char : Cond.arrayClass .char ∈ am_gt := am_mem 1524 (by decide +kernel) rfl
theorem qg_X11_323 : Cond.fieldLink RX11 323 "CandleBar" "WAYS" "[I" ∈ am_gt := am_mem 826 (by decide +kernel) rfl
theorem qg_X11_326 : Cond.fieldLink RX11 326 "CandleBar" "WAYS_WITH_A_DAY" "[I" ∈ am_gt := am_mem 828 (by decide +kernel) rfl
theorem qg_X8_98 : Cond.fieldLink RX8 98 "CandleBar$RuleReader" "LETTERS" "[C" ∈ am_gt := am_mem 749 (by decide +kernel) rfl
