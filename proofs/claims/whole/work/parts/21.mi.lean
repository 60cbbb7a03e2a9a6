theorem iuX0 : ∀ x ∈ u_ws RX0 TX0 4, x ∈ UW := List.forall_mem_cons.mpr ⟨uw_150, List.forall_mem_cons.mpr ⟨uw_152, List.forall_mem_cons.mpr ⟨uw_154, List.forall_mem_cons.mpr ⟨uw_156, fun _ h => absurd h List.not_mem_nil⟩⟩⟩⟩
theorem iuX1 : ∀ x ∈ u_ws RX1 TX1 2, x ∈ UW := List.forall_mem_cons.mpr ⟨uw_75, List.forall_mem_cons.mpr ⟨uw_77, fun _ h => absurd h List.not_mem_nil⟩⟩
theorem iuX2 : ∀ x ∈ u_ws RX2 TX2 3, x ∈ UW := List.forall_mem_cons.mpr ⟨uw_118, List.forall_mem_cons.mpr ⟨uw_120, List.forall_mem_cons.mpr ⟨uw_122, fun _ h => absurd h List.not_mem_nil⟩⟩⟩
theorem iuX3 : ∀ x ∈ u_ws RX3 TX3 1, x ∈ UW := List.forall_mem_cons.mpr ⟨uw_167, fun _ h => absurd h List.not_mem_nil⟩
theorem iuX4 : ∀ x ∈ u_ws RX4 TX4 4, x ∈ UW := List.forall_mem_cons.mpr ⟨uw_180, List.forall_mem_cons.mpr ⟨uw_182, List.forall_mem_cons.mpr ⟨uw_184, List.forall_mem_cons.mpr ⟨uw_186, fun _ h => absurd h List.not_mem_nil⟩⟩⟩⟩
theorem iuX5 : ∀ x ∈ u_ws RX5 TX5 4, x ∈ UW := List.forall_mem_cons.mpr ⟨uw_199, List.forall_mem_cons.mpr ⟨uw_201, List.forall_mem_cons.mpr ⟨uw_203, List.forall_mem_cons.mpr ⟨uw_205, fun _ h => absurd h List.not_mem_nil⟩⟩⟩⟩
theorem iuX6 : ∀ x ∈ u_ws RX6 TX6 1, x ∈ UW := List.forall_mem_cons.mpr ⟨uw_134, fun _ h => absurd h List.not_mem_nil⟩
theorem iuX7 : ∀ x ∈ u_ws RX7 TX7 1, x ∈ UW := List.forall_mem_cons.mpr ⟨uw_89, fun _ h => absurd h List.not_mem_nil⟩
theorem iuX8 : ∀ x ∈ u_ws RX8 TX8 2, x ∈ UW := List.forall_mem_cons.mpr ⟨uw_110, List.forall_mem_cons.mpr ⟨uw_112, fun _ h => absurd h List.not_mem_nil⟩⟩
theorem iuX9 : ∀ x ∈ u_ws RX9 TX9 13, x ∈ UW := List.forall_mem_cons.mpr ⟨uw_221, List.forall_mem_cons.mpr ⟨uw_223, List.forall_mem_cons.mpr ⟨uw_225, List.forall_mem_cons.mpr ⟨uw_227, List.forall_mem_cons.mpr ⟨uw_229, List.forall_mem_cons.mpr ⟨uw_231, List.forall_mem_cons.mpr ⟨uw_233, List.forall_mem_cons.mpr ⟨uw_235, List.forall_mem_cons.mpr ⟨uw_237, List.forall_mem_cons.mpr ⟨uw_239, List.forall_mem_cons.mpr ⟨uw_241, List.forall_mem_cons.mpr ⟨uw_243, List.forall_mem_cons.mpr ⟨uw_245, fun _ h => absurd h List.not_mem_nil⟩⟩⟩⟩⟩⟩⟩⟩⟩⟩⟩⟩⟩
theorem iuX10 : ∀ x ∈ u_ws RX10 TX10 21, x ∈ UW := List.forall_mem_cons.mpr ⟨uw_945, List.forall_mem_cons.mpr ⟨uw_947, List.forall_mem_cons.mpr ⟨uw_949, List.forall_mem_cons.mpr ⟨uw_951, List.forall_mem_cons.mpr ⟨uw_953, List.forall_mem_cons.mpr ⟨uw_955, List.forall_mem_cons.mpr ⟨uw_957, List.forall_mem_cons.mpr ⟨uw_959, List.forall_mem_cons.mpr ⟨uw_961, List.forall_mem_cons.mpr ⟨uw_963, List.forall_mem_cons.mpr ⟨uw_965, List.forall_mem_cons.mpr ⟨uw_967, List.forall_mem_cons.mpr ⟨uw_969, List.forall_mem_cons.mpr ⟨uw_971, List.forall_mem_cons.mpr ⟨uw_973, List.forall_mem_cons.mpr ⟨uw_975, List.forall_mem_cons.mpr ⟨uw_977, List.forall_mem_cons.mpr ⟨uw_979, List.forall_mem_cons.mpr ⟨uw_981, List.forall_mem_cons.mpr ⟨uw_983, List.forall_mem_cons.mpr ⟨uw_985, fun _ h => absurd h List.not_mem_nil⟩⟩⟩⟩⟩⟩⟩⟩⟩⟩⟩⟩⟩⟩⟩⟩⟩⟩⟩⟩⟩
abbrev mX0_isSolved : MI := (yX0_isSolved, cX0_isSolved, 1, (some .boolean), { frames := 0, cells := 0, slots := 0, locals := 0 }, [])
theorem vX0_isSolved : VW mX0_isSolved 0 := ⟨uw_793, uw_794, uw_45, uw_795, ⟨by decide, by decide, by decide +kernel⟩, rfl⟩
abbrev mX0_solve : MI := (yX0_solve, cX0_solve, 5, none, { frames := 3, cells := 0, slots := 0, locals := 74 }, [])
theorem vX0_solve : VW mX0_solve 3 := ⟨uw_331, uw_332, uw_45, uw_333, ⟨by decide, by decide, by decide +kernel⟩, rfl⟩
abbrev mX0_reducedNumerator : MI := (yX0_reducedNumerator, cX0_reducedNumerator, 4, (some .long), { frames := 1, cells := 0, slots := 0, locals := 30 }, [])
theorem vX0_reducedNumerator : VW mX0_reducedNumerator 1 := ⟨uw_798, uw_799, uw_45, uw_800, ⟨by decide, by decide, by decide +kernel⟩, rfl⟩
abbrev mX0_reducedDenominator : MI := (yX0_reducedDenominator, cX0_reducedDenominator, 4, (some .long), { frames := 1, cells := 0, slots := 0, locals := 30 }, [])
theorem vX0_reducedDenominator : VW mX0_reducedDenominator 1 := ⟨uw_812, uw_813, uw_45, uw_814, ⟨by decide, by decide, by decide +kernel⟩, rfl⟩
abbrev mX0_fillEquations : MI := (yX0_fillEquations, cX0_fillEquations, 6, none, { frames := 2, cells := 0, slots := 0, locals := 46 }, [])
theorem vX0_fillEquations : VW mX0_fillEquations 2 := ⟨uw_336, uw_0, uw_45, uw_337, ⟨by decide, by decide, by decide +kernel⟩, rfl⟩
abbrev mX0_fillColumn : MI := (yX0_fillColumn, cX0_fillColumn, 9, none, { frames := 2, cells := 0, slots := 0, locals := 46 }, [])
theorem vX0_fillColumn : VW mX0_fillColumn 4 := ⟨uw_388, uw_4, uw_45, uw_389, ⟨by decide, by decide, by decide +kernel⟩, rfl⟩
abbrev mX0_determinant : MI := (yX0_determinant, cX0_determinant, 4, (some .long), { frames := 1, cells := 0, slots := 0, locals := 28 }, [])
theorem vX0_determinant : VW mX0_determinant 1 := ⟨uw_369, uw_2, uw_45, uw_370, ⟨by decide, by decide, by decide +kernel⟩, rfl⟩
abbrev mX0_expand : MI := (yX0_expand, cX0_expand, 9, (some .long), { frames := 0, cells := 0, slots := 0, locals := 0 }, [])
theorem vX0_expand : VW mX0_expand 2 := ⟨uw_380, uw_3, uw_45, uw_381, ⟨by decide, by decide, by decide +kernel⟩, rfl⟩
abbrev mX0_commonDivisor : MI := (yX0_commonDivisor, cX0_commonDivisor, 11, (some .long), { frames := 0, cells := 0, slots := 0, locals := 0 }, [])
theorem vX0_commonDivisor : VS mX0_commonDivisor 2 := ⟨uw_802, uw_45, uw_803, ⟨by decide, by decide, by decide +kernel⟩, rfl⟩
abbrev mX1_isFull : MI := (yX1_isFull, cX1_isFull, 1, (some .boolean), { frames := 0, cells := 0, slots := 0, locals := 0 }, [])
theorem vX1_isFull : VW mX1_isFull 0 := ⟨uw_548, uw_549, uw_39, uw_550, ⟨by decide, by decide, by decide +kernel⟩, rfl⟩
abbrev mX1_add : MI := (yX1_add, cX1_add, 2, (some .int), { frames := 0, cells := 0, slots := 0, locals := 0 }, [])
theorem vX1_add : VW mX1_add 1 := ⟨uw_568, uw_569, uw_39, uw_570, ⟨by decide, by decide, by decide +kernel⟩, rfl⟩
abbrev mX1_empty : MI := (yX1_empty, cX1_empty, 2, (some .int), { frames := 0, cells := 0, slots := 0, locals := 0 }, [])
theorem vX1_empty : VW mX1_empty 0 := ⟨uw_253, uw_254, uw_39, uw_255, ⟨by decide, by decide, by decide +kernel⟩, rfl⟩
abbrev mX1_firstError : MI := (yX1_firstError, cX1_firstError, 2, (some .int), { frames := 3, cells := 0, slots := 0, locals := 63 }, [])
theorem vX1_firstError : VW mX1_firstError 0 := ⟨uw_261, uw_262, uw_39, uw_263, ⟨by decide, by decide, by decide +kernel⟩, rfl⟩
abbrev mX1_isAllowed : MI := (yX1_isAllowed, cX1_isAllowed, 3, (some .boolean), { frames := 2, cells := 0, slots := 0, locals := 41 }, [])
theorem vX1_isAllowed : VS mX1_isAllowed 2 := ⟨uw_265, uw_39, uw_266, ⟨by decide, by decide, by decide +kernel⟩, rfl⟩
abbrev mX1_isAllowedInCell : MI := (yX1_isAllowedInCell, cX1_isAllowedInCell, 2, (some .boolean), { frames := 1, cells := 0, slots := 0, locals := 20 }, [])
theorem vX1_isAllowedInCell : VS mX1_isAllowedInCell 2 := ⟨uw_274, uw_39, uw_275, ⟨by decide, by decide, by decide +kernel⟩, rfl⟩
abbrev mX1_isDigit : MI := (yX1_isDigit, cX1_isDigit, 1, (some .boolean), { frames := 0, cells := 0, slots := 0, locals := 0 }, [])
theorem vX1_isDigit : VS mX1_isDigit 1 := ⟨uw_271, uw_39, uw_272, ⟨by decide, by decide, by decide +kernel⟩, rfl⟩
abbrev mX1_isCellDigit : MI := (yX1_isCellDigit, cX1_isCellDigit, 1, (some .boolean), { frames := 0, cells := 0, slots := 0, locals := 0 }, [])
theorem vX1_isCellDigit : VS mX1_isCellDigit 1 := ⟨uw_268, uw_39, uw_269, ⟨by decide, by decide, by decide +kernel⟩, rfl⟩
abbrev mX1_readInto : MI := (yX1_readInto, cX1_readInto, 3, none, { frames := 2, cells := 0, slots := 0, locals := 48 }, [])
theorem vX1_readInto : VW mX1_readInto 1 := ⟨uw_580, uw_581, uw_39, uw_582, ⟨by decide, by decide, by decide +kernel⟩, rfl⟩
abbrev mX1_number : MI := (yX1_number, cX1_number, 5, (some .int), { frames := 0, cells := 0, slots := 0, locals := 0 }, [])
theorem vX1_number : VW mX1_number 2 := ⟨uw_590, uw_11, uw_39, uw_591, ⟨by decide, by decide, by decide +kernel⟩, rfl⟩
abbrev mX2_size : MI := (yX2_size, cX2_size, 1, (some .int), { frames := 0, cells := 0, slots := 0, locals := 0 }, [])
theorem vX2_size : VW mX2_size 0 := ⟨uw_751, uw_752, uw_41, uw_753, ⟨by decide, by decide, by decide +kernel⟩, rfl⟩
abbrev mX2_remember : MI := (yX2_remember, cX2_remember, 2, none, { frames := 2, cells := 0, slots := 0, locals := 82 }, [])
theorem vX2_remember : VW mX2_remember 1 := ⟨uw_297, uw_298, uw_41, uw_299, ⟨by decide, by decide, by decide +kernel⟩, rfl⟩
abbrev mX2_takeBack : MI := (yX2_takeBack, cX2_takeBack, 2, none, { frames := 2, cells := 0, slots := 0, locals := 82 }, [])
theorem vX2_takeBack : VW mX2_takeBack 1 := ⟨uw_756, uw_757, uw_41, uw_758, ⟨by decide, by decide, by decide +kernel⟩, rfl⟩
abbrev mX2_forget : MI := (yX2_forget, cX2_forget, 1, none, { frames := 0, cells := 0, slots := 0, locals := 0 }, [])
theorem vX2_forget : VW mX2_forget 0 := ⟨uw_610, uw_611, uw_41, uw_612, ⟨by decide, by decide, by decide +kernel⟩, rfl⟩
abbrev mX3_trace : MI := (yX3_trace, cX3_trace, 4, none, { frames := 2, cells := 0, slots := 0, locals := 44 }, [])
theorem vX3_trace : VW mX3_trace 1 := ⟨uw_402, uw_403, uw_46, uw_404, ⟨by decide, by decide, by decide +kernel⟩, rfl⟩
abbrev mX3_addLink : MI := (yX3_addLink, cX3_addLink, 4, none, { frames := 1, cells := 0, slots := 0, locals := 21 }, [])
theorem vX3_addLink : VW mX3_addLink 3 := ⟨uw_412, uw_5, uw_46, uw_413, ⟨by decide, by decide, by decide +kernel⟩, rfl⟩
abbrev mX3_leads : MI := (yX3_leads, cX3_leads, 3, (some .boolean), { frames := 0, cells := 0, slots := 0, locals := 0 }, [])
theorem vX3_leads : VW mX3_leads 2 := ⟨uw_417, uw_6, uw_46, uw_418, ⟨by decide, by decide, by decide +kernel⟩, rfl⟩
abbrev mX3_returnsTo : MI := (yX3_returnsTo, cX3_returnsTo, 2, (some .boolean), { frames := 1, cells := 0, slots := 0, locals := 22 }, [])
theorem vX3_returnsTo : VW mX3_returnsTo 1 := ⟨uw_424, uw_425, uw_46, uw_426, ⟨by decide, by decide, by decide +kernel⟩, rfl⟩
abbrev mX3_number : MI := (yX3_number, cX3_number, 4, (some .int), { frames := 2, cells := 0, slots := 0, locals := 44 }, [])
theorem vX3_number : VW mX3_number 1 := ⟨uw_420, uw_421, uw_46, uw_422, ⟨by decide, by decide, by decide +kernel⟩, rfl⟩
abbrev mX3_sharesLoopWithEarlier : MI := (yX3_sharesLoopWithEarlier, cX3_sharesLoopWithEarlier, 3, (some .boolean), { frames := 1, cells := 0, slots := 0, locals := 22 }, [])
theorem vX3_sharesLoopWithEarlier : VW mX3_sharesLoopWithEarlier 1 := ⟨uw_429, uw_7, uw_46, uw_430, ⟨by decide, by decide, by decide +kernel⟩, rfl⟩
abbrev mX4_store : MI := (yX4_store, cX4_store, 3, (some .int), { frames := 1, cells := 0, slots := 0, locals := 21 }, [])
theorem vX4_store : VW mX4_store 2 := ⟨uw_873, uw_874, uw_47, uw_875, ⟨by decide, by decide, by decide +kernel⟩, rfl⟩
abbrev mX4_agree : MI := (yX4_agree, cX4_agree, 4, (some .boolean), { frames := 0, cells := 0, slots := 0, locals := 0 }, [])
theorem vX4_agree : VW mX4_agree 2 := ⟨uw_885, uw_886, uw_47, uw_887, ⟨by decide, by decide, by decide +kernel⟩, rfl⟩
abbrev mX5_compute : MI := (yX5_compute, cX5_compute, 3, none, { frames := 4, cells := 0, slots := 0, locals := 98 }, [])
theorem vX5_compute : VW mX5_compute 2 := ⟨uw_327, uw_328, uw_48, uw_329, ⟨by decide, by decide, by decide +kernel⟩, rfl⟩
abbrev mX5_extend : MI := (yX5_extend, cX5_extend, 4, none, { frames := 0, cells := 0, slots := 0, locals := 0 }, [])
theorem vX5_extend : VW mX5_extend 3 := ⟨uw_862, uw_863, uw_48, uw_864, ⟨by decide, by decide, by decide +kernel⟩, rfl⟩
abbrev mX5_exist : MI := (yX5_exist, cX5_exist, 1, (some .boolean), { frames := 0, cells := 0, slots := 0, locals := 0 }, [])
theorem vX5_exist : VW mX5_exist 0 := ⟨uw_394, uw_395, uw_48, uw_396, ⟨by decide, by decide, by decide +kernel⟩, rfl⟩
abbrev mX5_recoveryPerMille : MI := (yX5_recoveryPerMille, cX5_recoveryPerMille, 2, (some .int), { frames := 1, cells := 0, slots := 0, locals := 21 }, [])
theorem vX5_recoveryPerMille : VW mX5_recoveryPerMille 1 := ⟨uw_455, uw_456, uw_48, uw_457, ⟨by decide, by decide, by decide +kernel⟩, rfl⟩
abbrev mX5_gradePerMille : MI := (yX5_gradePerMille, cX5_gradePerMille, 8, (some .int), { frames := 1, cells := 0, slots := 0, locals := 26 }, [])
theorem vX5_gradePerMille : VW mX5_gradePerMille 1 := ⟨uw_835, uw_836, uw_48, uw_837, ⟨by decide, by decide, by decide +kernel⟩, rfl⟩
abbrev mX5_millionths : MI := (yX5_millionths, cX5_millionths, 7, (some .long), { frames := 0, cells := 0, slots := 0, locals := 0 }, [])
theorem vX5_millionths : VS mX5_millionths 3 := ⟨uw_839, uw_48, uw_840, ⟨by decide, by decide, by decide +kernel⟩, rfl⟩
abbrev mX6_advance : MI := (yX6_advance, cX6_advance, 2, none, { frames := 3, cells := 0, slots := 0, locals := 69 }, [])
theorem vX6_advance : VW mX6_advance 1 := ⟨uw_719, uw_720, uw_44, uw_721, ⟨by decide, by decide, by decide +kernel⟩, rfl⟩
abbrev mX6_moveComponent : MI := (yX6_moveComponent, cX6_moveComponent, 6, none, { frames := 2, cells := 0, slots := 0, locals := 44 }, [])
theorem vX6_moveComponent : VW mX6_moveComponent 2 := ⟨uw_724, uw_13, uw_44, uw_725, ⟨by decide, by decide, by decide +kernel⟩, rfl⟩
abbrev mX7_count : MI := (yX7_count, cX7_count, 1, (some .int), { frames := 0, cells := 0, slots := 0, locals := 0 }, [])
theorem vX7_count : VW mX7_count 0 := ⟨uw_281, uw_282, uw_40, uw_283, ⟨by decide, by decide, by decide +kernel⟩, rfl⟩
abbrev mX7_has : MI := (yX7_has, cX7_has, 2, (some .boolean), { frames := 0, cells := 0, slots := 0, locals := 0 }, [])
theorem vX7_has : VW mX7_has 1 := ⟨uw_356, uw_357, uw_40, uw_358, ⟨by decide, by decide, by decide +kernel⟩, rfl⟩
abbrev mX7_percent : MI := (yX7_percent, cX7_percent, 3, (some .int), { frames := 0, cells := 0, slots := 0, locals := 0 }, [])
theorem vX7_percent : VW mX7_percent 2 := ⟨uw_364, uw_365, uw_40, uw_366, ⟨by decide, by decide, by decide +kernel⟩, rfl⟩
abbrev mX7_putPercent : MI := (yX7_putPercent, cX7_putPercent, 4, none, { frames := 0, cells := 0, slots := 0, locals := 0 }, [])
theorem vX7_putPercent : VW mX7_putPercent 3 := ⟨uw_449, uw_450, uw_40, uw_451, ⟨by decide, by decide, by decide +kernel⟩, rfl⟩
abbrev mX7_carried : MI := (yX7_carried, cX7_carried, 5, (some .int), { frames := 1, cells := 0, slots := 0, locals := 22 }, [])
theorem vX7_carried : VW mX7_carried 3 := ⟨uw_360, uw_361, uw_40, uw_362, ⟨by decide, by decide, by decide +kernel⟩, rfl⟩
abbrev mX7_route : MI := (yX7_route, cX7_route, 3, (some .int), { frames := 0, cells := 0, slots := 0, locals := 0 }, [])
theorem vX7_route : VW mX7_route 2 := ⟨uw_348, uw_349, uw_40, uw_350, ⟨by decide, by decide, by decide +kernel⟩, rfl⟩
abbrev mX7_putRoute : MI := (yX7_putRoute, cX7_putRoute, 4, none, { frames := 0, cells := 0, slots := 0, locals := 0 }, [])
theorem vX7_putRoute : VW mX7_putRoute 3 := ⟨uw_602, uw_603, uw_40, uw_604, ⟨by decide, by decide, by decide +kernel⟩, rfl⟩
abbrev mX7_target : MI := (yX7_target, cX7_target, 3, (some .int), { frames := 1, cells := 0, slots := 0, locals := 22 }, [])
theorem vX7_target : VW mX7_target 2 := ⟨uw_344, uw_345, uw_40, uw_346, ⟨by decide, by decide, by decide +kernel⟩, rfl⟩
abbrev mX7_fedCell : MI := (yX7_fedCell, cX7_fedCell, 1, (some .int), { frames := 0, cells := 0, slots := 0, locals := 0 }, [])
theorem vX7_fedCell : VW mX7_fedCell 0 := ⟨uw_289, uw_290, uw_40, uw_291, ⟨by decide, by decide, by decide +kernel⟩, rfl⟩
abbrev mX7_feedTarget : MI := (yX7_feedTarget, cX7_feedTarget, 1, (some .int), { frames := 1, cells := 0, slots := 0, locals := 22 }, [])
theorem vX7_feedTarget : VW mX7_feedTarget 0 := ⟨uw_383, uw_384, uw_40, uw_385, ⟨by decide, by decide, by decide +kernel⟩, rfl⟩
abbrev mX7_present : MI := (yX7_present, cX7_present, 3, (some .int), { frames := 0, cells := 0, slots := 0, locals := 0 }, [])
theorem vX7_present : VW mX7_present 1 := ⟨uw_353, uw_1, uw_40, uw_354, ⟨by decide, by decide, by decide +kernel⟩, rfl⟩
abbrev mX7_feed : MI := (yX7_feed, cX7_feed, 2, (some .int), { frames := 0, cells := 0, slots := 0, locals := 0 }, [])
theorem vX7_feed : VW mX7_feed 1 := ⟨uw_459, uw_460, uw_40, uw_461, ⟨by decide, by decide, by decide +kernel⟩, rfl⟩
abbrev mX7_putFeed : MI := (yX7_putFeed, cX7_putFeed, 4, none, { frames := 0, cells := 0, slots := 0, locals := 0 }, [])
theorem vX7_putFeed : VW mX7_putFeed 3 := ⟨uw_593, uw_594, uw_40, uw_595, ⟨by decide, by decide, by decide +kernel⟩, rfl⟩
abbrev mX7_held : MI := (yX7_held, cX7_held, 3, (some .int), { frames := 0, cells := 0, slots := 0, locals := 0 }, [])
theorem vX7_held : VW mX7_held 2 := ⟨uw_315, uw_316, uw_40, uw_317, ⟨by decide, by decide, by decide +kernel⟩, rfl⟩
abbrev mX7_putHeld : MI := (yX7_putHeld, cX7_putHeld, 4, none, { frames := 0, cells := 0, slots := 0, locals := 0 }, [])
theorem vX7_putHeld : VW mX7_putHeld 3 := ⟨uw_606, uw_607, uw_40, uw_608, ⟨by decide, by decide, by decide +kernel⟩, rfl⟩
abbrev mX7_collected : MI := (yX7_collected, cX7_collected, 3, (some .int), { frames := 0, cells := 0, slots := 0, locals := 0 }, [])
theorem vX7_collected : VW mX7_collected 2 := ⟨uw_740, uw_741, uw_40, uw_742, ⟨by decide, by decide, by decide +kernel⟩, rfl⟩
abbrev mX7_collect : MI := (yX7_collect, cX7_collect, 4, none, { frames := 0, cells := 0, slots := 0, locals := 0 }, [])
theorem vX7_collect : VW mX7_collect 3 := ⟨uw_736, uw_737, uw_40, uw_738, ⟨by decide, by decide, by decide +kernel⟩, rfl⟩
abbrev mX7_pushCell : MI := (yX7_pushCell, cX7_pushCell, 6, none, { frames := 1, cells := 0, slots := 0, locals := 23 }, [])
theorem vX7_pushCell : VW mX7_pushCell 4 := ⟨uw_597, uw_598, uw_40, uw_599, ⟨by decide, by decide, by decide +kernel⟩, rfl⟩
abbrev mX7_popCell : MI := (yX7_popCell, cX7_popCell, 1, none, { frames := 0, cells := 0, slots := 0, locals := 0 }, [])
theorem vX7_popCell : VW mX7_popCell 0 := ⟨uw_685, uw_686, uw_40, uw_687, ⟨by decide, by decide, by decide +kernel⟩, rfl⟩
abbrev mX7_dropCells : MI := (yX7_dropCells, cX7_dropCells, 1, none, { frames := 0, cells := 0, slots := 0, locals := 0 }, [])
theorem vX7_dropCells : VW mX7_dropCells 0 := ⟨uw_584, uw_585, uw_40, uw_586, ⟨by decide, by decide, by decide +kernel⟩, rfl⟩
abbrev mX7_sumOfContents : MI := (yX7_sumOfContents, cX7_sumOfContents, 3, (some .int), { frames := 1, cells := 0, slots := 0, locals := 22 }, [])
theorem vX7_sumOfContents : VW mX7_sumOfContents 0 := ⟨uw_311, uw_312, uw_40, uw_313, ⟨by decide, by decide, by decide +kernel⟩, rfl⟩
abbrev mX7_emptyAll : MI := (yX7_emptyAll, cX7_emptyAll, 2, none, { frames := 0, cells := 0, slots := 0, locals := 0 }, [])
theorem vX7_emptyAll : VW mX7_emptyAll 0 := ⟨uw_319, uw_320, uw_40, uw_321, ⟨by decide, by decide, by decide +kernel⟩, rfl⟩
abbrev mX7_copyFrom : MI := (yX7_copyFrom, cX7_copyFrom, 2, none, { frames := 1, cells := 0, slots := 0, locals := 60 }, [])
theorem vX7_copyFrom : VW mX7_copyFrom 1 := ⟨uw_444, uw_445, uw_40, uw_446, ⟨by decide, by decide, by decide +kernel⟩, rfl⟩
abbrev mX8_put : MI := (yX8_put, cX8_put, 3, none, { frames := 1, cells := 0, slots := 0, locals := 60 }, [])
theorem vX8_put : VW mX8_put 2 := ⟨uw_301, uw_302, uw_42, uw_303, ⟨by decide, by decide, by decide +kernel⟩, rfl⟩
abbrev mX8_fetch : MI := (yX8_fetch, cX8_fetch, 3, none, { frames := 1, cells := 0, slots := 0, locals := 60 }, [])
theorem vX8_fetch : VW mX8_fetch 2 := ⟨uw_760, uw_761, uw_42, uw_762, ⟨by decide, by decide, by decide +kernel⟩, rfl⟩
abbrev mX9_append : MI := (yX9_append, cX9_append, 2, (some .int), { frames := 7, cells := 2, slots := 12, locals := 112 }, [])
theorem vX9_append : VW mX9_append 1 := ⟨uw_473, uw_474, uw_38, uw_475, ⟨by decide, by decide, by decide +kernel⟩, rfl⟩
abbrev mX9_clearText : MI := (yX9_clearText, cX9_clearText, 1, (some .int), { frames := 1, cells := 0, slots := 0, locals := 21 }, [])
theorem vX9_clearText : VW mX9_clearText 0 := ⟨uw_249, uw_250, uw_38, uw_251, ⟨by decide, by decide, by decide +kernel⟩, rfl⟩
abbrev mX9_errorPosition : MI := (yX9_errorPosition, cX9_errorPosition, 1, (some .int), { frames := 4, cells := 0, slots := 0, locals := 84 }, [])
theorem vX9_errorPosition : VW mX9_errorPosition 0 := ⟨uw_257, uw_258, uw_38, uw_259, ⟨by decide, by decide, by decide +kernel⟩, rfl⟩
abbrev mX9_load : MI := (yX9_load, cX9_load, 2, (some .int), { frames := 6, cells := 1, slots := 6, locals := 90 }, [])
theorem vX9_load : VW mX9_load 0 := ⟨uw_575, uw_576, uw_38, uw_577, ⟨by decide, by decide, by decide +kernel⟩, rfl⟩
abbrev mX9_cellCount : MI := (yX9_cellCount, cX9_cellCount, 1, (some .int), { frames := 1, cells := 0, slots := 0, locals := 20 }, [])
theorem vX9_cellCount : VW mX9_cellCount 0 := ⟨uw_277, uw_278, uw_38, uw_279, ⟨by decide, by decide, by decide +kernel⟩, rfl⟩
abbrev mX9_recovery : MI := (yX9_recovery, cX9_recovery, 3, (some .int), { frames := 7, cells := 2, slots := 12, locals := 111 }, [])
theorem vX9_recovery : VW mX9_recovery 2 := ⟨uw_618, uw_619, uw_38, uw_620, ⟨by decide, by decide, by decide +kernel⟩, rfl⟩
abbrev mX9_destination : MI := (yX9_destination, cX9_destination, 3, (some .int), { frames := 7, cells := 2, slots := 12, locals := 111 }, [])
theorem vX9_destination : VW mX9_destination 2 := ⟨uw_650, uw_651, uw_38, uw_652, ⟨by decide, by decide, by decide +kernel⟩, rfl⟩
abbrev mX9_feedCell : MI := (yX9_feedCell, cX9_feedCell, 1, (some .int), { frames := 1, cells := 0, slots := 0, locals := 20 }, [])
theorem vX9_feedCell : VW mX9_feedCell 0 := ⟨uw_285, uw_286, uw_38, uw_287, ⟨by decide, by decide, by decide +kernel⟩, rfl⟩
abbrev mX9_feedAmount : MI := (yX9_feedAmount, cX9_feedAmount, 2, (some .int), { frames := 7, cells := 1, slots := 6, locals := 110 }, [])
theorem vX9_feedAmount : VW mX9_feedAmount 1 := ⟨uw_658, uw_659, uw_38, uw_660, ⟨by decide, by decide, by decide +kernel⟩, rfl⟩
abbrev mX9_addCell : MI := (yX9_addCell, cX9_addCell, 5, (some .int), { frames := 7, cells := 5, slots := 30, locals := 112 }, [])
theorem vX9_addCell : VW mX9_addCell 4 := ⟨uw_666, uw_667, uw_38, uw_668, ⟨by decide, by decide, by decide +kernel⟩, rfl⟩
abbrev mX9_removeLastCell : MI := (yX9_removeLastCell, cX9_removeLastCell, 1, (some .int), { frames := 6, cells := 1, slots := 6, locals := 103 }, [])
theorem vX9_removeLastCell : VW mX9_removeLastCell 0 := ⟨uw_680, uw_681, uw_38, uw_682, ⟨by decide, by decide, by decide +kernel⟩, rfl⟩
abbrev mX9_setRecovery : MI := (yX9_setRecovery, cX9_setRecovery, 5, (some .int), { frames := 7, cells := 3, slots := 18, locals := 112 }, [])
theorem vX9_setRecovery : VW mX9_setRecovery 3 := ⟨uw_692, uw_693, uw_38, uw_694, ⟨by decide, by decide, by decide +kernel⟩, rfl⟩
abbrev mX9_setDestination : MI := (yX9_setDestination, cX9_setDestination, 5, (some .int), { frames := 7, cells := 3, slots := 18, locals := 111 }, [])
theorem vX9_setDestination : VW mX9_setDestination 3 := ⟨uw_699, uw_700, uw_38, uw_701, ⟨by decide, by decide, by decide +kernel⟩, rfl⟩
abbrev mX9_setFeed : MI := (yX9_setFeed, cX9_setFeed, 5, (some .int), { frames := 7, cells := 3, slots := 18, locals := 112 }, [])
theorem vX9_setFeed : VW mX9_setFeed 3 := ⟨uw_707, uw_708, uw_38, uw_709, ⟨by decide, by decide, by decide +kernel⟩, rfl⟩
abbrev mX9_step : MI := (yX9_step, cX9_step, 3, (some .int), { frames := 7, cells := 1, slots := 6, locals := 112 }, [])
theorem vX9_step : VW mX9_step 1 := ⟨uw_715, uw_716, uw_38, uw_717, ⟨by decide, by decide, by decide +kernel⟩, rfl⟩
abbrev mX9_drain : MI := (yX9_drain, cX9_drain, 2, (some .int), { frames := 3, cells := 0, slots := 0, locals := 103 }, [])
theorem vX9_drain : VW mX9_drain 0 := ⟨uw_293, uw_294, uw_38, uw_295, ⟨by decide, by decide, by decide +kernel⟩, rfl⟩
abbrev mX9_undo : MI := (yX9_undo, cX9_undo, 1, (some .int), { frames := 6, cells := 1, slots := 6, locals := 103 }, [])
theorem vX9_undo : VW mX9_undo 0 := ⟨uw_747, uw_748, uw_38, uw_749, ⟨by decide, by decide, by decide +kernel⟩, rfl⟩
abbrev mX9_content : MI := (yX9_content, cX9_content, 3, (some .int), { frames := 7, cells := 2, slots := 12, locals := 111 }, [])
theorem vX9_content : VW mX9_content 2 := ⟨uw_767, uw_768, uw_38, uw_769, ⟨by decide, by decide, by decide +kernel⟩, rfl⟩
abbrev mX9_amount : MI := (yX9_amount, cX9_amount, 3, (some .int), { frames := 7, cells := 2, slots := 12, locals := 110 }, [])
theorem vX9_amount : VW mX9_amount 2 := ⟨uw_775, uw_776, uw_38, uw_777, ⟨by decide, by decide, by decide +kernel⟩, rfl⟩
abbrev mX9_hasSteadyState : MI := (yX9_hasSteadyState, cX9_hasSteadyState, 1, (some .boolean), { frames := 5, cells := 0, slots := 0, locals := 120 }, [])
theorem vX9_hasSteadyState : VW mX9_hasSteadyState 0 := ⟨uw_323, uw_324, uw_38, uw_325, ⟨by decide, by decide, by decide +kernel⟩, rfl⟩
abbrev mX9_flowNumerator : MI := (yX9_flowNumerator, cX9_flowNumerator, 3, (some .long), { frames := 8, cells := 3, slots := 18, locals := 132 }, [])
theorem vX9_flowNumerator : VW mX9_flowNumerator 2 := ⟨uw_783, uw_784, uw_38, uw_785, ⟨by decide, by decide, by decide +kernel⟩, rfl⟩
abbrev mX9_flowDenominator : MI := (yX9_flowDenominator, cX9_flowDenominator, 3, (some .long), { frames := 8, cells := 3, slots := 18, locals := 132 }, [])
theorem vX9_flowDenominator : VW mX9_flowDenominator 2 := ⟨uw_808, uw_809, uw_38, uw_810, ⟨by decide, by decide, by decide +kernel⟩, rfl⟩
abbrev mX9_totalRecovery : MI := (yX9_totalRecovery, cX9_totalRecovery, 1, (some .int), { frames := 7, cells := 1, slots := 6, locals := 140 }, [])
theorem vX9_totalRecovery : VW mX9_totalRecovery 0 := ⟨uw_819, uw_820, uw_38, uw_821, ⟨by decide, by decide, by decide +kernel⟩, rfl⟩
abbrev mX9_grade : MI := (yX9_grade, cX9_grade, 1, (some .int), { frames := 7, cells := 1, slots := 6, locals := 140 }, [])
theorem vX9_grade : VW mX9_grade 0 := ⟨uw_831, uw_832, uw_38, uw_833, ⟨by decide, by decide, by decide +kernel⟩, rfl⟩
abbrev mX9_isInLoop : MI := (yX9_isInLoop, cX9_isInLoop, 2, (some .boolean), { frames := 7, cells := 1, slots := 6, locals := 111 }, [])
theorem vX9_isInLoop : VW mX9_isInLoop 1 := ⟨uw_846, uw_847, uw_38, uw_848, ⟨by decide, by decide, by decide +kernel⟩, rfl⟩
abbrev mX9_loopCount : MI := (yX9_loopCount, cX9_loopCount, 1, (some .int), { frames := 3, cells := 0, slots := 0, locals := 67 }, [])
theorem vX9_loopCount : VW mX9_loopCount 0 := ⟨uw_398, uw_399, uw_38, uw_400, ⟨by decide, by decide, by decide +kernel⟩, rfl⟩
abbrev mX9_bestImprovement : MI := (yX9_bestImprovement, cX9_bestImprovement, 1, (some .int), { frames := 6, cells := 0, slots := 0, locals := 145 }, [])
theorem vX9_bestImprovement : VW mX9_bestImprovement 0 := ⟨uw_432, uw_433, uw_38, uw_434, ⟨by decide, by decide, by decide +kernel⟩, rfl⟩
abbrev mX9_bestShutdown : MI := (yX9_bestShutdown, cX9_bestShutdown, 1, (some .int), { frames := 6, cells := 0, slots := 0, locals := 145 }, [])
theorem vX9_bestShutdown : VW mX9_bestShutdown 0 := ⟨uw_464, uw_465, uw_38, uw_466, ⟨by decide, by decide, by decide +kernel⟩, rfl⟩
abbrev mX9_recoveryFor : MI := (yX9_recoveryFor, cX9_recoveryFor, 4, (some .int), { frames := 7, cells := 2, slots := 12, locals := 142 }, [])
theorem vX9_recoveryFor : VW mX9_recoveryFor 2 := ⟨uw_854, uw_855, uw_38, uw_856, ⟨by decide, by decide, by decide +kernel⟩, rfl⟩
abbrev mX9_measure : MI := (yX9_measure, cX9_measure, 3, (some .int), { frames := 7, cells := 2, slots := 12, locals := 112 }, [])
theorem vX9_measure : VW mX9_measure 2 := ⟨uw_869, uw_870, uw_38, uw_871, ⟨by decide, by decide, by decide +kernel⟩, rfl⟩
abbrev mX9_possibleRecoveries : MI := (yX9_possibleRecoveries, cX9_possibleRecoveries, 5, (some .int), { frames := 7, cells := 2, slots := 12, locals := 142 }, [])
theorem vX9_possibleRecoveries : VW mX9_possibleRecoveries 2 := ⟨uw_881, uw_882, uw_38, uw_883, ⟨by decide, by decide, by decide +kernel⟩, rfl⟩
abbrev mX9_disturb : MI := (yX9_disturb, cX9_disturb, 7, (some .int), { frames := 7, cells := 1, slots := 6, locals := 112 }, [])
theorem vX9_disturb : VW mX9_disturb 2 := ⟨uw_892, uw_893, uw_38, uw_894, ⟨by decide, by decide, by decide +kernel⟩, rfl⟩
abbrev mX9_save : MI := (yX9_save, cX9_save, 2, (some .int), { frames := 7, cells := 1, slots := 6, locals := 110 }, [])
theorem vX9_save : VW mX9_save 1 := ⟨uw_905, uw_906, uw_38, uw_907, ⟨by decide, by decide, by decide +kernel⟩, rfl⟩
abbrev mX9_restore : MI := (yX9_restore, cX9_restore, 2, (some .int), { frames := 7, cells := 2, slots := 12, locals := 110 }, [])
theorem vX9_restore : VW mX9_restore 1 := ⟨uw_913, uw_914, uw_38, uw_915, ⟨by decide, by decide, by decide +kernel⟩, rfl⟩
abbrev mX9_isProduct : MI := (yX9_isProduct, cX9_isProduct, 1, (some .boolean), { frames := 0, cells := 0, slots := 0, locals := 0 }, [])
theorem vX9_isProduct : VS mX9_isProduct 1 := ⟨uw_391, uw_38, uw_392, ⟨by decide, by decide, by decide +kernel⟩, rfl⟩
abbrev mX9_requireOneOfTwo : MI := (yX9_requireOneOfTwo, cX9_requireOneOfTwo, 1, none, { frames := 6, cells := 1, slots := 6, locals := 90 }, [])
theorem vX9_requireOneOfTwo : VS mX9_requireOneOfTwo 1 := ⟨uw_643, uw_38, uw_644, ⟨by decide, by decide, by decide +kernel⟩, rfl⟩
abbrev mX9_requireRange : MI := (yX9_requireRange, cX9_requireRange, 3, none, { frames := 6, cells := 1, slots := 6, locals := 90 }, [])
theorem vX9_requireRange : VS mX9_requireRange 3 := ⟨uw_477, uw_38, uw_478, ⟨by decide, by decide, by decide +kernel⟩, rfl⟩
abbrev mX9_requireDestination : MI := (yX9_requireDestination, cX9_requireDestination, 1, none, { frames := 6, cells := 1, slots := 6, locals := 90 }, [])
theorem vX9_requireDestination : VS mX9_requireDestination 1 := ⟨uw_670, uw_38, uw_671, ⟨by decide, by decide, by decide +kernel⟩, rfl⟩
abbrev mX9_requireCell : MI := (yX9_requireCell, cX9_requireCell, 2, none, { frames := 6, cells := 1, slots := 6, locals := 90 }, [])
theorem vX9_requireCell : VW mX9_requireCell 1 := ⟨uw_623, uw_12, uw_38, uw_624, ⟨by decide, by decide, by decide +kernel⟩, rfl⟩
abbrev mX9_requireSteadyState : MI := (yX9_requireSteadyState, cX9_requireSteadyState, 1, none, { frames := 6, cells := 1, slots := 6, locals := 120 }, [])
theorem vX9_requireSteadyState : VW mX9_requireSteadyState 0 := ⟨uw_824, uw_15, uw_38, uw_825, ⟨by decide, by decide, by decide +kernel⟩, rfl⟩
abbrev mX9_solveFlow : MI := (yX9_solveFlow, cX9_solveFlow, 3, none, { frames := 7, cells := 3, slots := 18, locals := 110 }, [])
theorem vX9_solveFlow : VW mX9_solveFlow 2 := ⟨uw_788, uw_14, uw_38, uw_789, ⟨by decide, by decide, by decide +kernel⟩, rfl⟩
abbrev mX9_bestChange : MI := (yX9_bestChange, cX9_bestChange, 6, (some .int), { frames := 5, cells := 0, slots := 0, locals := 120 }, [])
theorem vX9_bestChange : VW mX9_bestChange 1 := ⟨uw_437, uw_8, uw_38, uw_438, ⟨by decide, by decide, by decide +kernel⟩, rfl⟩
abbrev mX9_changeTrial : MI := (yX9_changeTrial, cX9_changeTrial, 3, none, { frames := 2, cells := 0, slots := 0, locals := 81 }, [])
theorem vX9_changeTrial : VW mX9_changeTrial 2 := ⟨uw_441, uw_9, uw_38, uw_442, ⟨by decide, by decide, by decide +kernel⟩, rfl⟩
abbrev mX9_prepareUnknown : MI := (yX9_prepareUnknown, cX9_prepareUnknown, 3, none, { frames := 5, cells := 0, slots := 0, locals := 120 }, [])
theorem vX9_prepareUnknown : VW mX9_prepareUnknown 2 := ⟨uw_859, uw_16, uw_38, uw_860, ⟨by decide, by decide, by decide +kernel⟩, rfl⟩
abbrev mX9_disturbTrial : MI := (yX9_disturbTrial, cX9_disturbTrial, 3, none, { frames := 1, cells := 0, slots := 0, locals := 23 }, [])
theorem vX9_disturbTrial : VW mX9_disturbTrial 1 := ⟨uw_899, uw_17, uw_38, uw_900, ⟨by decide, by decide, by decide +kernel⟩, rfl⟩
abbrev mX10_thrown : MI := (yX10_thrown, cX10_thrown, 1, (some .int), { frames := 0, cells := 0, slots := 0, locals := 0 }, [])
theorem vX10_thrown : VW mX10_thrown 0 := ⟨uw_989, uw_990, uw_49, uw_991, ⟨by decide, by decide, by decide +kernel⟩, rfl⟩
abbrev mX10_refused : MI := (yX10_refused, cX10_refused, 2, (some .boolean), { frames := 0, cells := 0, slots := 0, locals := 0 }, [])
theorem vX10_refused : VW mX10_refused 1 := ⟨uw_1002, uw_18, uw_49, uw_1003, ⟨by decide, by decide, by decide +kernel⟩, rfl⟩
abbrev mX10_in : MI := (yX10_in, cX10_in, 6, (some .boolean), { frames := 0, cells := 0, slots := 0, locals := 0 }, [])
theorem vX10_in : VS mX10_in 3 := ⟨uw_998, uw_49, uw_999, ⟨by decide, by decide, by decide +kernel⟩, rfl⟩
abbrev mX10_isBit : MI := (yX10_isBit, cX10_isBit, 1, (some .boolean), { frames := 1, cells := 0, slots := 0, locals := 25 }, [])
theorem vX10_isBit : VS mX10_isBit 1 := ⟨uw_1058, uw_49, uw_1059, ⟨by decide, by decide, by decide +kernel⟩, rfl⟩
abbrev mX10_isGoal : MI := (yX10_isGoal, cX10_isGoal, 1, (some .boolean), { frames := 1, cells := 0, slots := 0, locals := 25 }, [])
theorem vX10_isGoal : VS mX10_isGoal 1 := ⟨uw_1025, uw_49, uw_1026, ⟨by decide, by decide, by decide +kernel⟩, rfl⟩
abbrev mX10_isCell : MI := (yX10_isCell, cX10_isCell, 2, (some .boolean), { frames := 1, cells := 0, slots := 0, locals := 25 }, [])
theorem vX10_isCell : VW mX10_isCell 1 := ⟨uw_1055, uw_24, uw_49, uw_1056, ⟨by decide, by decide, by decide +kernel⟩, rfl⟩
abbrev mX10_copy : MI := (yX10_copy, cX10_copy, 3, none, { frames := 0, cells := 0, slots := 0, locals := 0 }, [])
theorem vX10_copy : VS mX10_copy 2 := ⟨uw_1043, uw_49, uw_1044, ⟨by decide, by decide, by decide +kernel⟩, rfl⟩
abbrev mX10_note : MI := (yX10_note, cX10_note, 2, none, { frames := 0, cells := 0, slots := 0, locals := 0 }, [])
theorem vX10_note : VW mX10_note 0 := ⟨uw_1079, uw_25, uw_49, uw_1080, ⟨by decide, by decide, by decide +kernel⟩, rfl⟩
abbrev mX10_append : MI := (yX10_append, cX10_append, 2, (some .int), { frames := 1, cells := 0, slots := 0, locals := 25 }, [])
theorem vX10_append : VW mX10_append 1 := ⟨uw_993, uw_994, uw_49, uw_995, ⟨by decide, by decide, by decide +kernel⟩, rfl⟩
abbrev mX10_clearText : MI := (yX10_clearText, cX10_clearText, 2, (some .int), { frames := 0, cells := 0, slots := 0, locals := 0 }, [])
theorem vX10_clearText : VW mX10_clearText 0 := ⟨uw_1005, uw_1006, uw_49, uw_1007, ⟨by decide, by decide, by decide +kernel⟩, rfl⟩
abbrev mX10_readLetter : MI := (yX10_readLetter, cX10_readLetter, 3, (some .boolean), { frames := 0, cells := 0, slots := 0, locals := 0 }, [])
theorem vX10_readLetter : VW mX10_readLetter 1 := ⟨uw_1018, uw_20, uw_49, uw_1019, ⟨by decide, by decide, by decide +kernel⟩, rfl⟩
abbrev mX10_readNumber : MI := (yX10_readNumber, cX10_readNumber, 6, (some .boolean), { frames := 1, cells := 0, slots := 0, locals := 25 }, [])
theorem vX10_readNumber : VW mX10_readNumber 2 := ⟨uw_1032, uw_22, uw_49, uw_1033, ⟨by decide, by decide, by decide +kernel⟩, rfl⟩
abbrev mX10_readGoal : MI := (yX10_readGoal, cX10_readGoal, 4, (some .boolean), { frames := 2, cells := 0, slots := 0, locals := 45 }, [])
theorem vX10_readGoal : VW mX10_readGoal 2 := ⟨uw_1022, uw_21, uw_49, uw_1023, ⟨by decide, by decide, by decide +kernel⟩, rfl⟩
abbrev mX10_readCell : MI := (yX10_readCell, cX10_readCell, 3, (some .boolean), { frames := 3, cells := 0, slots := 0, locals := 68 }, [])
theorem vX10_readCell : VW mX10_readCell 0 := ⟨uw_1036, uw_23, uw_49, uw_1037, ⟨by decide, by decide, by decide +kernel⟩, rfl⟩
abbrev mX10_readText : MI := (yX10_readText, cX10_readText, 2, (some .int), { frames := 4, cells := 0, slots := 0, locals := 90 }, [])
theorem vX10_readText : VW mX10_readText 0 := ⟨uw_1014, uw_19, uw_49, uw_1015, ⟨by decide, by decide, by decide +kernel⟩, rfl⟩
abbrev mX10_errorPosition : MI := (yX10_errorPosition, cX10_errorPosition, 1, (some .int), { frames := 5, cells := 0, slots := 0, locals := 111 }, [])
theorem vX10_errorPosition : VW mX10_errorPosition 0 := ⟨uw_1009, uw_1010, uw_49, uw_1011, ⟨by decide, by decide, by decide +kernel⟩, rfl⟩
abbrev mX10_load : MI := (yX10_load, cX10_load, 1, (some .int), { frames := 5, cells := 0, slots := 0, locals := 111 }, [])
theorem vX10_load : VW mX10_load 0 := ⟨uw_1039, uw_1040, uw_49, uw_1041, ⟨by decide, by decide, by decide +kernel⟩, rfl⟩
abbrev mX10_cellCount : MI := (yX10_cellCount, cX10_cellCount, 1, (some .int), { frames := 0, cells := 0, slots := 0, locals := 0 }, [])
theorem vX10_cellCount : VW mX10_cellCount 0 := ⟨uw_1046, uw_1047, uw_49, uw_1048, ⟨by decide, by decide, by decide +kernel⟩, rfl⟩
abbrev mX10_recovery : MI := (yX10_recovery, cX10_recovery, 3, (some .int), { frames := 2, cells := 0, slots := 0, locals := 46 }, [])
theorem vX10_recovery : VW mX10_recovery 2 := ⟨uw_1050, uw_1051, uw_49, uw_1052, ⟨by decide, by decide, by decide +kernel⟩, rfl⟩
abbrev mX10_destination : MI := (yX10_destination, cX10_destination, 3, (some .int), { frames := 2, cells := 0, slots := 0, locals := 46 }, [])
theorem vX10_destination : VW mX10_destination 2 := ⟨uw_1061, uw_1062, uw_49, uw_1063, ⟨by decide, by decide, by decide +kernel⟩, rfl⟩
abbrev mX10_feedCell : MI := (yX10_feedCell, cX10_feedCell, 1, (some .int), { frames := 0, cells := 0, slots := 0, locals := 0 }, [])
theorem vX10_feedCell : VW mX10_feedCell 0 := ⟨uw_1065, uw_1066, uw_49, uw_1067, ⟨by decide, by decide, by decide +kernel⟩, rfl⟩
abbrev mX10_feedAmount : MI := (yX10_feedAmount, cX10_feedAmount, 2, (some .int), { frames := 2, cells := 0, slots := 0, locals := 45 }, [])
theorem vX10_feedAmount : VW mX10_feedAmount 1 := ⟨uw_1069, uw_1070, uw_49, uw_1071, ⟨by decide, by decide, by decide +kernel⟩, rfl⟩
abbrev mX10_addCell : MI := (yX10_addCell, cX10_addCell, 7, (some .int), { frames := 2, cells := 0, slots := 0, locals := 45 }, [])
theorem vX10_addCell : VW mX10_addCell 4 := ⟨uw_1073, uw_1074, uw_49, uw_1075, ⟨by decide, by decide, by decide +kernel⟩, rfl⟩
abbrev mX10_removeLastCell : MI := (yX10_removeLastCell, cX10_removeLastCell, 3, (some .int), { frames := 1, cells := 0, slots := 0, locals := 21 }, [])
theorem vX10_removeLastCell : VW mX10_removeLastCell 0 := ⟨uw_1082, uw_1083, uw_49, uw_1084, ⟨by decide, by decide, by decide +kernel⟩, rfl⟩
abbrev mX10_setRecovery : MI := (yX10_setRecovery, cX10_setRecovery, 5, (some .int), { frames := 2, cells := 0, slots := 0, locals := 46 }, [])
theorem vX10_setRecovery : VW mX10_setRecovery 3 := ⟨uw_1086, uw_1087, uw_49, uw_1088, ⟨by decide, by decide, by decide +kernel⟩, rfl⟩
abbrev mX10_setDestination : MI := (yX10_setDestination, cX10_setDestination, 5, (some .int), { frames := 2, cells := 0, slots := 0, locals := 46 }, [])
theorem vX10_setDestination : VW mX10_setDestination 3 := ⟨uw_1090, uw_1091, uw_49, uw_1092, ⟨by decide, by decide, by decide +kernel⟩, rfl⟩
abbrev mX10_setFeed : MI := (yX10_setFeed, cX10_setFeed, 5, (some .int), { frames := 1, cells := 0, slots := 0, locals := 25 }, [])
theorem vX10_setFeed : VW mX10_setFeed 3 := ⟨uw_1094, uw_1095, uw_49, uw_1096, ⟨by decide, by decide, by decide +kernel⟩, rfl⟩
abbrev mX10_goalOf : MI := (yX10_goalOf, cX10_goalOf, 2, (some .int), { frames := 0, cells := 0, slots := 0, locals := 0 }, [])
theorem vX10_goalOf : VS mX10_goalOf 2 := ⟨uw_1107, uw_49, uw_1108, ⟨by decide, by decide, by decide +kernel⟩, rfl⟩
abbrev mX10_bring : MI := (yX10_bring, cX10_bring, 4, none, { frames := 0, cells := 0, slots := 0, locals := 0 }, [])
theorem vX10_bring : VS mX10_bring 4 := ⟨uw_1110, uw_49, uw_1111, ⟨by decide, by decide, by decide +kernel⟩, rfl⟩
abbrev mX10_goStep : MI := (yX10_goStep, cX10_goStep, 7, none, { frames := 1, cells := 0, slots := 0, locals := 23 }, [])
theorem vX10_goStep : VW mX10_goStep 1 := ⟨uw_1104, uw_26, uw_49, uw_1105, ⟨by decide, by decide, by decide +kernel⟩, rfl⟩
abbrev mX10_step : MI := (yX10_step, cX10_step, 3, (some .int), { frames := 2, cells := 0, slots := 0, locals := 49 }, [])
theorem vX10_step : VW mX10_step 1 := ⟨uw_1099, uw_1100, uw_49, uw_1101, ⟨by decide, by decide, by decide +kernel⟩, rfl⟩
abbrev mX10_drain : MI := (yX10_drain, cX10_drain, 3, (some .int), { frames := 1, cells := 0, slots := 0, locals := 21 }, [])
theorem vX10_drain : VW mX10_drain 0 := ⟨uw_1113, uw_1114, uw_49, uw_1115, ⟨by decide, by decide, by decide +kernel⟩, rfl⟩
abbrev mX10_undo : MI := (yX10_undo, cX10_undo, 2, (some .int), { frames := 1, cells := 0, slots := 0, locals := 21 }, [])
theorem vX10_undo : VW mX10_undo 0 := ⟨uw_1117, uw_1118, uw_49, uw_1119, ⟨by decide, by decide, by decide +kernel⟩, rfl⟩
abbrev mX10_content : MI := (yX10_content, cX10_content, 3, (some .int), { frames := 2, cells := 0, slots := 0, locals := 46 }, [])
theorem vX10_content : VW mX10_content 2 := ⟨uw_1121, uw_1122, uw_49, uw_1123, ⟨by decide, by decide, by decide +kernel⟩, rfl⟩
abbrev mX10_amount : MI := (yX10_amount, cX10_amount, 3, (some .int), { frames := 2, cells := 0, slots := 0, locals := 45 }, [])
theorem vX10_amount : VW mX10_amount 2 := ⟨uw_1125, uw_1126, uw_49, uw_1127, ⟨by decide, by decide, by decide +kernel⟩, rfl⟩
abbrev mX10_share : MI := (yX10_share, cX10_share, 5, (some .int), { frames := 0, cells := 0, slots := 0, locals := 0 }, [])
theorem vX10_share : VS mX10_share 4 := ⟨uw_1139, uw_49, uw_1140, ⟨by decide, by decide, by decide +kernel⟩, rfl⟩
abbrev mX10_part : MI := (yX10_part, cX10_part, 6, (some .int), { frames := 1, cells := 0, slots := 0, locals := 24 }, [])
theorem vX10_part : VS mX10_part 4 := ⟨uw_1158, uw_49, uw_1159, ⟨by decide, by decide, by decide +kernel⟩, rfl⟩
abbrev mX10_isSteady : MI := (yX10_isSteady, cX10_isSteady, 8, (some .boolean), { frames := 1, cells := 0, slots := 0, locals := 24 }, [])
theorem vX10_isSteady : VS mX10_isSteady 2 := ⟨uw_1136, uw_49, uw_1137, ⟨by decide, by decide, by decide +kernel⟩, rfl⟩
abbrev mX10_isSteadyAll : MI := (yX10_isSteadyAll, cX10_isSteadyAll, 1, (some .boolean), { frames := 2, cells := 0, slots := 0, locals := 51 }, [])
theorem vX10_isSteadyAll : VS mX10_isSteadyAll 1 := ⟨uw_1133, uw_49, uw_1134, ⟨by decide, by decide, by decide +kernel⟩, rfl⟩
abbrev mX10_determinant : MI := (yX10_determinant, cX10_determinant, 11, (some .long), { frames := 0, cells := 0, slots := 0, locals := 0 }, [])
theorem vX10_determinant : VW mX10_determinant 2 := ⟨uw_1162, uw_30, uw_49, uw_1163, ⟨by decide, by decide, by decide +kernel⟩, rfl⟩
abbrev mX10_layMatrix : MI := (yX10_layMatrix, cX10_layMatrix, 5, none, { frames := 2, cells := 0, slots := 0, locals := 49 }, [])
theorem vX10_layMatrix : VW mX10_layMatrix 2 := ⟨uw_1155, uw_29, uw_49, uw_1156, ⟨by decide, by decide, by decide +kernel⟩, rfl⟩
abbrev mX10_divisor : MI := (yX10_divisor, cX10_divisor, 10, (some .long), { frames := 0, cells := 0, slots := 0, locals := 0 }, [])
theorem vX10_divisor : VS mX10_divisor 2 := ⟨uw_1165, uw_49, uw_1166, ⟨by decide, by decide, by decide +kernel⟩, rfl⟩
abbrev mX10_findFlow : MI := (yX10_findFlow, cX10_findFlow, 7, none, { frames := 3, cells := 0, slots := 0, locals := 73 }, [])
theorem vX10_findFlow : VW mX10_findFlow 3 := ⟨uw_1151, uw_28, uw_49, uw_1152, ⟨by decide, by decide, by decide +kernel⟩, rfl⟩
abbrev mX10_cut : MI := (yX10_cut, cX10_cut, 10, (some .long), { frames := 0, cells := 0, slots := 0, locals := 0 }, [])
theorem vX10_cut : VS mX10_cut 3 := ⟨uw_1180, uw_49, uw_1181, ⟨by decide, by decide, by decide +kernel⟩, rfl⟩
abbrev mX10_recoveryOf : MI := (yX10_recoveryOf, cX10_recoveryOf, 3, (some .int), { frames := 4, cells := 0, slots := 0, locals := 99 }, [])
theorem vX10_recoveryOf : VW mX10_recoveryOf 1 := ⟨uw_1177, uw_31, uw_49, uw_1178, ⟨by decide, by decide, by decide +kernel⟩, rfl⟩
abbrev mX10_gradeOf : MI := (yX10_gradeOf, cX10_gradeOf, 6, (some .int), { frames := 4, cells := 0, slots := 0, locals := 99 }, [])
theorem vX10_gradeOf : VW mX10_gradeOf 1 := ⟨uw_1189, uw_32, uw_49, uw_1190, ⟨by decide, by decide, by decide +kernel⟩, rfl⟩
abbrev mX10_hasSteadyState : MI := (yX10_hasSteadyState, cX10_hasSteadyState, 1, (some .boolean), { frames := 3, cells := 0, slots := 0, locals := 71 }, [])
theorem vX10_hasSteadyState : VW mX10_hasSteadyState 0 := ⟨uw_1129, uw_1130, uw_49, uw_1131, ⟨by decide, by decide, by decide +kernel⟩, rfl⟩
abbrev mX10_noFlow : MI := (yX10_noFlow, cX10_noFlow, 4, (some .boolean), { frames := 2, cells := 0, slots := 0, locals := 51 }, [])
theorem vX10_noFlow : VW mX10_noFlow 2 := ⟨uw_1147, uw_27, uw_49, uw_1148, ⟨by decide, by decide, by decide +kernel⟩, rfl⟩
abbrev mX10_flowNumerator : MI := (yX10_flowNumerator, cX10_flowNumerator, 3, (some .long), { frames := 4, cells := 0, slots := 0, locals := 99 }, [])
theorem vX10_flowNumerator : VW mX10_flowNumerator 2 := ⟨uw_1142, uw_1143, uw_49, uw_1144, ⟨by decide, by decide, by decide +kernel⟩, rfl⟩
abbrev mX10_flowDenominator : MI := (yX10_flowDenominator, cX10_flowDenominator, 3, (some .long), { frames := 4, cells := 0, slots := 0, locals := 99 }, [])
theorem vX10_flowDenominator : VW mX10_flowDenominator 2 := ⟨uw_1168, uw_1169, uw_49, uw_1170, ⟨by decide, by decide, by decide +kernel⟩, rfl⟩
abbrev mX10_totalRecovery : MI := (yX10_totalRecovery, cX10_totalRecovery, 1, (some .int), { frames := 5, cells := 0, slots := 0, locals := 121 }, [])
theorem vX10_totalRecovery : VW mX10_totalRecovery 0 := ⟨uw_1172, uw_1173, uw_49, uw_1174, ⟨by decide, by decide, by decide +kernel⟩, rfl⟩
abbrev mX10_grade : MI := (yX10_grade, cX10_grade, 1, (some .int), { frames := 5, cells := 0, slots := 0, locals := 124 }, [])
theorem vX10_grade : VW mX10_grade 0 := ⟨uw_1184, uw_1185, uw_49, uw_1186, ⟨by decide, by decide, by decide +kernel⟩, rfl⟩
abbrev mX10_reached : MI := (yX10_reached, cX10_reached, 9, (some .int), { frames := 1, cells := 0, slots := 0, locals := 21 }, [])
theorem vX10_reached : VW mX10_reached 1 := ⟨uw_1202, uw_34, uw_49, uw_1203, ⟨by decide, by decide, by decide +kernel⟩, rfl⟩
abbrev mX10_isLooped : MI := (yX10_isLooped, cX10_isLooped, 2, (some .boolean), { frames := 2, cells := 0, slots := 0, locals := 49 }, [])
theorem vX10_isLooped : VW mX10_isLooped 1 := ⟨uw_1198, uw_33, uw_49, uw_1199, ⟨by decide, by decide, by decide +kernel⟩, rfl⟩
abbrev mX10_isInLoop : MI := (yX10_isInLoop, cX10_isInLoop, 2, (some .boolean), { frames := 3, cells := 0, slots := 0, locals := 70 }, [])
theorem vX10_isInLoop : VW mX10_isInLoop 1 := ⟨uw_1193, uw_1194, uw_49, uw_1195, ⟨by decide, by decide, by decide +kernel⟩, rfl⟩
abbrev mX10_loopCount : MI := (yX10_loopCount, cX10_loopCount, 5, (some .int), { frames := 3, cells := 0, slots := 0, locals := 70 }, [])
theorem vX10_loopCount : VW mX10_loopCount 0 := ⟨uw_1205, uw_1206, uw_49, uw_1207, ⟨by decide, by decide, by decide +kernel⟩, rfl⟩
abbrev mX10_best : MI := (yX10_best, cX10_best, 7, (some .int), { frames := 5, cells := 0, slots := 0, locals := 121 }, [])
theorem vX10_best : VW mX10_best 1 := ⟨uw_1214, uw_35, uw_49, uw_1215, ⟨by decide, by decide, by decide +kernel⟩, rfl⟩
abbrev mX10_bestImprovement : MI := (yX10_bestImprovement, cX10_bestImprovement, 1, (some .int), { frames := 6, cells := 0, slots := 0, locals := 147 }, [])
theorem vX10_bestImprovement : VW mX10_bestImprovement 0 := ⟨uw_1209, uw_1210, uw_49, uw_1211, ⟨by decide, by decide, by decide +kernel⟩, rfl⟩
abbrev mX10_bestShutdown : MI := (yX10_bestShutdown, cX10_bestShutdown, 1, (some .int), { frames := 6, cells := 0, slots := 0, locals := 147 }, [])
theorem vX10_bestShutdown : VW mX10_bestShutdown 0 := ⟨uw_1217, uw_1218, uw_49, uw_1219, ⟨by decide, by decide, by decide +kernel⟩, rfl⟩
abbrev mX10_recoveryFor : MI := (yX10_recoveryFor, cX10_recoveryFor, 4, (some .int), { frames := 5, cells := 0, slots := 0, locals := 121 }, [])
theorem vX10_recoveryFor : VW mX10_recoveryFor 2 := ⟨uw_1221, uw_1222, uw_49, uw_1223, ⟨by decide, by decide, by decide +kernel⟩, rfl⟩
abbrev mX10_measure : MI := (yX10_measure, cX10_measure, 4, (some .int), { frames := 2, cells := 0, slots := 0, locals := 45 }, [])
theorem vX10_measure : VW mX10_measure 2 := ⟨uw_1225, uw_1226, uw_49, uw_1227, ⟨by decide, by decide, by decide +kernel⟩, rfl⟩
abbrev mX10_isMeasured : MI := (yX10_isMeasured, cX10_isMeasured, 3, (some .boolean), { frames := 5, cells := 0, slots := 0, locals := 124 }, [])
theorem vX10_isMeasured : VW mX10_isMeasured 0 := ⟨uw_1234, uw_36, uw_49, uw_1235, ⟨by decide, by decide, by decide +kernel⟩, rfl⟩
abbrev mX10_possibleRecoveries : MI := (yX10_possibleRecoveries, cX10_possibleRecoveries, 5, (some .int), { frames := 6, cells := 0, slots := 0, locals := 146 }, [])
theorem vX10_possibleRecoveries : VW mX10_possibleRecoveries 2 := ⟨uw_1229, uw_1230, uw_49, uw_1231, ⟨by decide, by decide, by decide +kernel⟩, rfl⟩
abbrev mX10_disturb : MI := (yX10_disturb, cX10_disturb, 8, (some .int), { frames := 2, cells := 0, slots := 0, locals := 49 }, [])
theorem vX10_disturb : VW mX10_disturb 2 := ⟨uw_1237, uw_1238, uw_49, uw_1239, ⟨by decide, by decide, by decide +kernel⟩, rfl⟩
abbrev mX10_save : MI := (yX10_save, cX10_save, 3, (some .int), { frames := 2, cells := 0, slots := 0, locals := 45 }, [])
theorem vX10_save : VW mX10_save 1 := ⟨uw_1243, uw_1244, uw_49, uw_1245, ⟨by decide, by decide, by decide +kernel⟩, rfl⟩
abbrev mX10_restore : MI := (yX10_restore, cX10_restore, 3, (some .int), { frames := 2, cells := 0, slots := 0, locals := 45 }, [])
theorem vX10_restore : VW mX10_restore 1 := ⟨uw_1247, uw_1248, uw_49, uw_1249, ⟨by decide, by decide, by decide +kernel⟩, rfl⟩
abbrev mJ6_bitCount_0f7a4 : MI := (yJ6_bitCount_0f7a4, cJ6_bitCount_0f7a4, 1, (some .int), { frames := 0, cells := 0, slots := 0, locals := 0 }, [])
theorem vJ6_bitCount_0f7a4 : VS mJ6_bitCount_0f7a4 1 := ⟨uw_373, uw_58, uw_374, ⟨by decide, by decide, by decide +kernel⟩, rfl⟩
abbrev mJ9_max_7cf53 : MI := (yJ9_max_7cf53, cJ9_max_7cf53, 2, (some .int), { frames := 0, cells := 0, slots := 0, locals := 0 }, [])
theorem vJ9_max_7cf53 : VS mJ9_max_7cf53 2 := ⟨uw_106, uw_43, uw_107, ⟨by decide, by decide, by decide +kernel⟩, rfl⟩
abbrev mJ9_min_7cf53 : MI := (yJ9_min_7cf53, cJ9_min_7cf53, 2, (some .int), { frames := 0, cells := 0, slots := 0, locals := 0 }, [])
theorem vJ9_min_7cf53 : VS mJ9_min_7cf53 2 := ⟨uw_308, uw_43, uw_309, ⟨by decide, by decide, by decide +kernel⟩, rfl⟩
abbrev mJ7_fill_d0a16 : MI := (yJ7_fill_d0a16, cJ7_fill_d0a16, 5, none, { frames := 0, cells := 0, slots := 0, locals := 0 }, [])
theorem vJ7_fill_d0a16 : VS mJ7_fill_d0a16 2 := ⟨uw_339, uw_57, uw_340, ⟨by decide, by decide, by decide +kernel⟩, rfl⟩
abbrev mJ7_fill_53178 : MI := (yJ7_fill_53178, cJ7_fill_53178, 4, none, { frames := 0, cells := 0, slots := 0, locals := 0 }, [])
theorem vJ7_fill_53178 : VS mJ7_fill_53178 2 := ⟨uw_406, uw_57, uw_407, ⟨by decide, by decide, by decide +kernel⟩, rfl⟩
theorem okT_IS : okT 99 EIS := ⟨by decide +kernel, by decide +kernel, by decide +kernel, by decide +kernel, by decide +kernel⟩
theorem okT_IA : okT 283 EIA := ⟨by decide +kernel, by decide +kernel, by decide +kernel, by decide +kernel, by decide +kernel⟩
theorem okT_IO : okT 202 EIO := ⟨by decide +kernel, by decide +kernel, by decide +kernel, by decide +kernel, by decide +kernel⟩
def bI (p : Prop) [Decidable p] : Int32 := if p then 1 else 0
theorem bI_t {p : Prop} [Decidable p] (h : p) : bI p = 1 := if_pos h
theorem bI_f {p : Prop} [Decidable p] (h : ¬ p) : bI p = 0 := if_neg h
theorem bI_0 {p : Prop} [Decidable p] (h : bI p = 0) : ¬ p := fun z => absurd ((bI_t z).symm.trans h) (by decide)
theorem bI_1 {p : Prop} [Decidable p] (h : ¬ bI p = 0) : p := by by_cases z : p; exact z; exact absurd (bI_f z) h
theorem bI_z {p : Prop} [Decidable p] : narrow .boolean (.int (bI p)) = .int (bI p) := by by_cases z : p; rw [bI_t z]; rfl; rw [bI_f z]; rfl
theorem fa_lit (n : Nat) : (OfNat.ofNat n : Int32) = nI n := rfl
theorem fa_litL (n : Nat) : (OfNat.ofNat n : Int64) = lN n := rfl
