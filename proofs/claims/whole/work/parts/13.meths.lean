/-! ===== METHODS: numbers, call facts, fields ===== -/
noncomputable abbrev M_X0_kindOf : MD := (yX0_kindOf, cX0_kindOf, 1, (some .int), wsX0_kindOf, 0, 0, 0, 0)
theorem hd_X0_kindOf : (yX0_kindOf).cls ≠ "java/lang/invoke/MethodHandle" ∧ (yX0_kindOf).cls ≠ "java/lang/invoke/VarHandle" ∧ (parseMethodDescriptor (yX0_kindOf).desc).map (fun d => d.parameters.length) = some 1 := by decide +kernel
noncomputable abbrev M_X0_numberOf : MD := (yX0_numberOf, cX0_numberOf, 1, (some .int), wsX0_numberOf, 0, 0, 0, 0)
theorem hd_X0_numberOf : (yX0_numberOf).cls ≠ "java/lang/invoke/MethodHandle" ∧ (yX0_numberOf).cls ≠ "java/lang/invoke/VarHandle" ∧ (parseMethodDescriptor (yX0_numberOf).desc).map (fun d => d.parameters.length) = some 1 := by decide +kernel
noncomputable abbrev M_X0_scoreOf : MD := (yX0_scoreOf, cX0_scoreOf, 1, (some .int), wsX0_scoreOf, 1, 20, 0, 0)
theorem hd_X0_scoreOf : (yX0_scoreOf).cls ≠ "java/lang/invoke/MethodHandle" ∧ (yX0_scoreOf).cls ≠ "java/lang/invoke/VarHandle" ∧ (parseMethodDescriptor (yX0_scoreOf).desc).map (fun d => d.parameters.length) = some 1 := by decide +kernel
noncomputable abbrev M_X0_isOfKind : MD := (yX0_isOfKind, cX0_isOfKind, 3, (some .boolean), wsX0_isOfKind, 1, 20, 0, 0)
theorem hd_X0_isOfKind : (yX0_isOfKind).cls ≠ "java/lang/invoke/MethodHandle" ∧ (yX0_isOfKind).cls ≠ "java/lang/invoke/VarHandle" ∧ (parseMethodDescriptor (yX0_isOfKind).desc).map (fun d => d.parameters.length) = some 2 := by decide +kernel
noncomputable abbrev M_X0_kindAbove : MD := (yX0_kindAbove, cX0_kindAbove, 1, (some .int), wsX0_kindAbove, 0, 0, 0, 0)
theorem hd_X0_kindAbove : (yX0_kindAbove).cls ≠ "java/lang/invoke/MethodHandle" ∧ (yX0_kindAbove).cls ≠ "java/lang/invoke/VarHandle" ∧ (parseMethodDescriptor (yX0_kindAbove).desc).map (fun d => d.parameters.length) = some 1 := by decide +kernel
noncomputable abbrev M_X0_numberBeside : MD := (yX0_numberBeside, cX0_numberBeside, 4, (some .int), wsX0_numberBeside, 1, 22, 0, 0)
theorem hd_X0_numberBeside : (yX0_numberBeside).cls ≠ "java/lang/invoke/MethodHandle" ∧ (yX0_numberBeside).cls ≠ "java/lang/invoke/VarHandle" ∧ (parseMethodDescriptor (yX0_numberBeside).desc).map (fun d => d.parameters.length) = some 2 := by decide +kernel
noncomputable abbrev M_X1_init : MD := (yX1_init, cX1_init, 2, none, wsX1_init, 3, 68, 4, 1008)
theorem hd_X1_init : (yX1_init).cls ≠ "java/lang/invoke/MethodHandle" ∧ (yX1_init).cls ≠ "java/lang/invoke/VarHandle" ∧ (parseMethodDescriptor (yX1_init).desc).map (fun d => d.parameters.length) = some 0 := by decide +kernel
noncomputable abbrev M_X1_addBesides : MD := (yX1_addBesides, cX1_addBesides, 4, none, wsX1_addBesides, 2, 45, 0, 0)
theorem hd_X1_addBesides : (yX1_addBesides).cls ≠ "java/lang/invoke/MethodHandle" ∧ (yX1_addBesides).cls ≠ "java/lang/invoke/VarHandle" ∧ (parseMethodDescriptor (yX1_addBesides).desc).map (fun d => d.parameters.length) = some 2 := by decide +kernel
noncomputable abbrev M_X1_add : MD := (yX1_add, cX1_add, 6, none, wsX1_add, 0, 0, 0, 0)
theorem hd_X1_add : (yX1_add).cls ≠ "java/lang/invoke/MethodHandle" ∧ (yX1_add).cls ≠ "java/lang/invoke/VarHandle" ∧ (parseMethodDescriptor (yX1_add).desc).map (fun d => d.parameters.length) = some 4 := by decide +kernel
noncomputable abbrev M_X1_fillWeights : MD := (yX1_fillWeights, cX1_fillWeights, 8, none, wsX1_fillWeights, 0, 0, 0, 0)
theorem hd_X1_fillWeights : (yX1_fillWeights).cls ≠ "java/lang/invoke/MethodHandle" ∧ (yX1_fillWeights).cls ≠ "java/lang/invoke/VarHandle" ∧ (parseMethodDescriptor (yX1_fillWeights).desc).map (fun d => d.parameters.length) = some 3 := by decide +kernel
noncomputable abbrev M_X2_init : MD := (yX2_init, cX2_init, 2, none, wsX2_init, 1, 20, 6, 731)
theorem hd_X2_init : (yX2_init).cls ≠ "java/lang/invoke/MethodHandle" ∧ (yX2_init).cls ≠ "java/lang/invoke/VarHandle" ∧ (parseMethodDescriptor (yX2_init).desc).map (fun d => d.parameters.length) = some 1 := by decide +kernel
noncomputable abbrev M_X2_forget : MD := (yX2_forget, cX2_forget, 1, none, wsX2_forget, 0, 0, 0, 0)
theorem hd_X2_forget : (yX2_forget).cls ≠ "java/lang/invoke/MethodHandle" ∧ (yX2_forget).cls ≠ "java/lang/invoke/VarHandle" ∧ (parseMethodDescriptor (yX2_forget).desc).map (fun d => d.parameters.length) = some 0 := by decide +kernel
noncomputable abbrev M_X2_countBy : MD := (yX2_countBy, cX2_countBy, 3, (some .int), wsX2_countBy, 4, 93, 0, 0)
theorem hd_X2_countBy : (yX2_countBy).cls ≠ "java/lang/invoke/MethodHandle" ∧ (yX2_countBy).cls ≠ "java/lang/invoke/VarHandle" ∧ (parseMethodDescriptor (yX2_countBy).desc).map (fun d => d.parameters.length) = some 2 := by decide +kernel
noncomputable abbrev M_X2_countOfAll : MD := (yX2_countOfAll, cX2_countOfAll, 2, (some .int), wsX2_countOfAll, 4, 93, 0, 0)
theorem hd_X2_countOfAll : (yX2_countOfAll).cls ≠ "java/lang/invoke/MethodHandle" ∧ (yX2_countOfAll).cls ≠ "java/lang/invoke/VarHandle" ∧ (parseMethodDescriptor (yX2_countOfAll).desc).map (fun d => d.parameters.length) = some 1 := by decide +kernel
noncomputable abbrev M_X2_learn : MD := (yX2_learn, cX2_learn, 3, none, wsX2_learn, 3, 71, 0, 0)
theorem hd_X2_learn : (yX2_learn).cls ≠ "java/lang/invoke/MethodHandle" ∧ (yX2_learn).cls ≠ "java/lang/invoke/VarHandle" ∧ (parseMethodDescriptor (yX2_learn).desc).map (fun d => d.parameters.length) = some 0 := by decide +kernel
noncomputable abbrev M_X2_countFrom : MD := (yX2_countFrom, cX2_countFrom, 5, (some .int), wsX2_countFrom, 2, 47, 0, 0)
theorem hd_X2_countFrom : (yX2_countFrom).cls ≠ "java/lang/invoke/MethodHandle" ∧ (yX2_countFrom).cls ≠ "java/lang/invoke/VarHandle" ∧ (parseMethodDescriptor (yX2_countFrom).desc).map (fun d => d.parameters.length) = some 2 := by decide +kernel
noncomputable abbrev M_X2_countThrough : MD := (yX2_countThrough, cX2_countThrough, 5, (some .int), wsX2_countThrough, 1, 23, 0, 0)
theorem hd_X2_countThrough : (yX2_countThrough).cls ≠ "java/lang/invoke/MethodHandle" ∧ (yX2_countThrough).cls ≠ "java/lang/invoke/VarHandle" ∧ (parseMethodDescriptor (yX2_countThrough).desc).map (fun d => d.parameters.length) = some 3 := by decide +kernel
noncomputable abbrev M_X2_find : MD := (yX2_find, cX2_find, 5, (some .boolean), wsX2_find, 5, 114, 0, 0)
theorem hd_X2_find : (yX2_find).cls ≠ "java/lang/invoke/MethodHandle" ∧ (yX2_find).cls ≠ "java/lang/invoke/VarHandle" ∧ (parseMethodDescriptor (yX2_find).desc).map (fun d => d.parameters.length) = some 2 := by decide +kernel
noncomputable abbrev M_X2_fillRow : MD := (yX2_fillRow, cX2_fillRow, 8, none, wsX2_fillRow, 2, 47, 0, 0)
theorem hd_X2_fillRow : (yX2_fillRow).cls ≠ "java/lang/invoke/MethodHandle" ∧ (yX2_fillRow).cls ≠ "java/lang/invoke/VarHandle" ∧ (parseMethodDescriptor (yX2_fillRow).desc).map (fun d => d.parameters.length) = some 2 := by decide +kernel
noncomputable abbrev M_X3_init : MD := (yX3_init, cX3_init, 1, none, wsX3_init, 2, 41, 3, 14)
theorem hd_X3_init : (yX3_init).cls ≠ "java/lang/invoke/MethodHandle" ∧ (yX3_init).cls ≠ "java/lang/invoke/VarHandle" ∧ (parseMethodDescriptor (yX3_init).desc).map (fun d => d.parameters.length) = some 0 := by decide +kernel
noncomputable abbrev M_X3_become : MD := (yX3_become, cX3_become, 2, none, wsX3_become, 1, 21, 0, 0)
theorem hd_X3_become : (yX3_become).cls ≠ "java/lang/invoke/MethodHandle" ∧ (yX3_become).cls ≠ "java/lang/invoke/VarHandle" ∧ (parseMethodDescriptor (yX3_become).desc).map (fun d => d.parameters.length) = some 1 := by decide +kernel
noncomputable abbrev M_X3_begin : MD := (yX3_begin, cX3_begin, 1, none, wsX3_begin, 1, 21, 0, 0)
theorem hd_X3_begin : (yX3_begin).cls ≠ "java/lang/invoke/MethodHandle" ∧ (yX3_begin).cls ≠ "java/lang/invoke/VarHandle" ∧ (parseMethodDescriptor (yX3_begin).desc).map (fun d => d.parameters.length) = some 0 := by decide +kernel
noncomputable abbrev M_X3_beginVisit : MD := (yX3_beginVisit, cX3_beginVisit, 2, none, wsX3_beginVisit, 0, 0, 0, 0)
theorem hd_X3_beginVisit : (yX3_beginVisit).cls ≠ "java/lang/invoke/MethodHandle" ∧ (yX3_beginVisit).cls ≠ "java/lang/invoke/VarHandle" ∧ (parseMethodDescriptor (yX3_beginVisit).desc).map (fun d => d.parameters.length) = some 1 := by decide +kernel
noncomputable abbrev M_X3_restOfThrower : MD := (yX3_restOfThrower, cX3_restOfThrower, 1, (some .int), wsX3_restOfThrower, 0, 0, 0, 0)
theorem hd_X3_restOfThrower : (yX3_restOfThrower).cls ≠ "java/lang/invoke/MethodHandle" ∧ (yX3_restOfThrower).cls ≠ "java/lang/invoke/VarHandle" ∧ (parseMethodDescriptor (yX3_restOfThrower).desc).map (fun d => d.parameters.length) = some 0 := by decide +kernel
noncomputable abbrev M_X3_legsOfBoth : MD := (yX3_legsOfBoth, cX3_legsOfBoth, 1, (some .int), wsX3_legsOfBoth, 0, 0, 0, 0)
theorem hd_X3_legsOfBoth : (yX3_legsOfBoth).cls ≠ "java/lang/invoke/MethodHandle" ∧ (yX3_legsOfBoth).cls ≠ "java/lang/invoke/VarHandle" ∧ (parseMethodDescriptor (yX3_legsOfBoth).desc).map (fun d => d.parameters.length) = some 0 := by decide +kernel
noncomputable abbrev M_X3_hasRestOfOne : MD := (yX3_hasRestOfOne, cX3_hasRestOfOne, 1, (some .boolean), wsX3_hasRestOfOne, 0, 0, 0, 0)
theorem hd_X3_hasRestOfOne : (yX3_hasRestOfOne).cls ≠ "java/lang/invoke/MethodHandle" ∧ (yX3_hasRestOfOne).cls ≠ "java/lang/invoke/VarHandle" ∧ (parseMethodDescriptor (yX3_hasRestOfOne).desc).map (fun d => d.parameters.length) = some 0 := by decide +kernel
noncomputable abbrev M_X3_land : MD := (yX3_land, cX3_land, 4, (some .int), wsX3_land, 2, 41, 0, 0)
theorem hd_X3_land : (yX3_land).cls ≠ "java/lang/invoke/MethodHandle" ∧ (yX3_land).cls ≠ "java/lang/invoke/VarHandle" ∧ (parseMethodDescriptor (yX3_land).desc).map (fun d => d.parameters.length) = some 1 := by decide +kernel
noncomputable abbrev M_X3_draw : MD := (yX3_draw, cX3_draw, 1, (some .int), wsX3_draw, 0, 0, 0, 0)
theorem hd_X3_draw : (yX3_draw).cls ≠ "java/lang/invoke/MethodHandle" ∧ (yX3_draw).cls ≠ "java/lang/invoke/VarHandle" ∧ (parseMethodDescriptor (yX3_draw).desc).map (fun d => d.parameters.length) = some 0 := by decide +kernel
noncomputable abbrev M_X4_init : MD := (yX4_init, cX4_init, 4, none, wsX4_init, 2, 48, 15, 3153)
theorem hd_X4_init : (yX4_init).cls ≠ "java/lang/invoke/MethodHandle" ∧ (yX4_init).cls ≠ "java/lang/invoke/VarHandle" ∧ (parseMethodDescriptor (yX4_init).desc).map (fun d => d.parameters.length) = some 2 := by decide +kernel
noncomputable abbrev M_X4_become : MD := (yX4_become, cX4_become, 3, (some .boolean), wsX4_become, 2, 48, 0, 0)
theorem hd_X4_become : (yX4_become).cls ≠ "java/lang/invoke/MethodHandle" ∧ (yX4_become).cls ≠ "java/lang/invoke/VarHandle" ∧ (parseMethodDescriptor (yX4_become).desc).map (fun d => d.parameters.length) = some 2 := by decide +kernel
noncomputable abbrev M_X4_fillOdds : MD := (yX4_fillOdds, cX4_fillOdds, 2, none, wsX4_fillOdds, 1, 27, 0, 0)
theorem hd_X4_fillOdds : (yX4_fillOdds).cls ≠ "java/lang/invoke/MethodHandle" ∧ (yX4_fillOdds).cls ≠ "java/lang/invoke/VarHandle" ∧ (parseMethodDescriptor (yX4_fillOdds).desc).map (fun d => d.parameters.length) = some 0 := by decide +kernel
noncomputable abbrev M_X4_forget : MD := (yX4_forget, cX4_forget, 1, none, wsX4_forget, 1, 20, 0, 0)
theorem hd_X4_forget : (yX4_forget).cls ≠ "java/lang/invoke/MethodHandle" ∧ (yX4_forget).cls ≠ "java/lang/invoke/VarHandle" ∧ (parseMethodDescriptor (yX4_forget).desc).map (fun d => d.parameters.length) = some 0 := by decide +kernel
noncomputable abbrev M_X4_dartsAt : MD := (yX4_dartsAt, cX4_dartsAt, 2, (some .double), wsX4_dartsAt, 3, 77, 0, 0)
theorem hd_X4_dartsAt : (yX4_dartsAt).cls ≠ "java/lang/invoke/MethodHandle" ∧ (yX4_dartsAt).cls ≠ "java/lang/invoke/VarHandle" ∧ (parseMethodDescriptor (yX4_dartsAt).desc).map (fun d => d.parameters.length) = some 1 := by decide +kernel
noncomputable abbrev M_X4_aimAt : MD := (yX4_aimAt, cX4_aimAt, 2, (some .int), wsX4_aimAt, 3, 77, 0, 0)
theorem hd_X4_aimAt : (yX4_aimAt).cls ≠ "java/lang/invoke/MethodHandle" ∧ (yX4_aimAt).cls ≠ "java/lang/invoke/VarHandle" ∧ (parseMethodDescriptor (yX4_aimAt).desc).map (fun d => d.parameters.length) = some 1 := by decide +kernel
noncomputable abbrev M_X4_learnDarts : MD := (yX4_learnDarts, cX4_learnDarts, 3, none, wsX4_learnDarts, 2, 55, 0, 0)
theorem hd_X4_learnDarts : (yX4_learnDarts).cls ≠ "java/lang/invoke/MethodHandle" ∧ (yX4_learnDarts).cls ≠ "java/lang/invoke/VarHandle" ∧ (parseMethodDescriptor (yX4_learnDarts).desc).map (fun d => d.parameters.length) = some 1 := by decide +kernel
noncomputable abbrev M_X4_chooseAim : MD := (yX4_chooseAim, cX4_chooseAim, 8, none, wsX4_chooseAim, 1, 28, 0, 0)
theorem hd_X4_chooseAim : (yX4_chooseAim).cls ≠ "java/lang/invoke/MethodHandle" ∧ (yX4_chooseAim).cls ≠ "java/lang/invoke/VarHandle" ∧ (parseMethodDescriptor (yX4_chooseAim).desc).map (fun d => d.parameters.length) = some 1 := by decide +kernel
noncomputable abbrev M_X4_dartsBy : MD := (yX4_dartsBy, cX4_dartsBy, 9, (some .double), wsX4_dartsBy, 0, 0, 0, 0)
theorem hd_X4_dartsBy : (yX4_dartsBy).cls ≠ "java/lang/invoke/MethodHandle" ∧ (yX4_dartsBy).cls ≠ "java/lang/invoke/VarHandle" ∧ (parseMethodDescriptor (yX4_dartsBy).desc).map (fun d => d.parameters.length) = some 1 := by decide +kernel
noncomputable abbrev M_X4_chanceAt : MD := (yX4_chanceAt, cX4_chanceAt, 3, (some .double), wsX4_chanceAt, 3, 78, 0, 0)
theorem hd_X4_chanceAt : (yX4_chanceAt).cls ≠ "java/lang/invoke/MethodHandle" ∧ (yX4_chanceAt).cls ≠ "java/lang/invoke/VarHandle" ∧ (parseMethodDescriptor (yX4_chanceAt).desc).map (fun d => d.parameters.length) = some 2 := by decide +kernel
noncomputable abbrev M_X4_chanceAimAt : MD := (yX4_chanceAimAt, cX4_chanceAimAt, 3, (some .int), wsX4_chanceAimAt, 3, 78, 0, 0)
theorem hd_X4_chanceAimAt : (yX4_chanceAimAt).cls ≠ "java/lang/invoke/MethodHandle" ∧ (yX4_chanceAimAt).cls ≠ "java/lang/invoke/VarHandle" ∧ (parseMethodDescriptor (yX4_chanceAimAt).desc).map (fun d => d.parameters.length) = some 2 := by decide +kernel
noncomputable abbrev M_X4_learnChances : MD := (yX4_learnChances, cX4_learnChances, 4, none, wsX4_learnChances, 2, 55, 0, 0)
theorem hd_X4_learnChances : (yX4_learnChances).cls ≠ "java/lang/invoke/MethodHandle" ∧ (yX4_learnChances).cls ≠ "java/lang/invoke/VarHandle" ∧ (parseMethodDescriptor (yX4_learnChances).desc).map (fun d => d.parameters.length) = some 1 := by decide +kernel
noncomputable abbrev M_X4_chooseChance : MD := (yX4_chooseChance, cX4_chooseChance, 9, none, wsX4_chooseChance, 1, 27, 0, 0)
theorem hd_X4_chooseChance : (yX4_chooseChance).cls ≠ "java/lang/invoke/MethodHandle" ∧ (yX4_chooseChance).cls ≠ "java/lang/invoke/VarHandle" ∧ (parseMethodDescriptor (yX4_chooseChance).desc).map (fun d => d.parameters.length) = some 2 := by decide +kernel
noncomputable abbrev M_X4_chanceBy : MD := (yX4_chanceBy, cX4_chanceBy, 8, (some .double), wsX4_chanceBy, 0, 0, 0, 0)
theorem hd_X4_chanceBy : (yX4_chanceBy).cls ≠ "java/lang/invoke/MethodHandle" ∧ (yX4_chanceBy).cls ≠ "java/lang/invoke/VarHandle" ∧ (parseMethodDescriptor (yX4_chanceBy).desc).map (fun d => d.parameters.length) = some 2 := by decide +kernel
noncomputable abbrev M_X4_fallenUpon : MD := (yX4_fallenUpon, cX4_fallenUpon, 6, (some .int), wsX4_fallenUpon, 0, 0, 0, 0)
theorem hd_X4_fallenUpon : (yX4_fallenUpon).cls ≠ "java/lang/invoke/MethodHandle" ∧ (yX4_fallenUpon).cls ≠ "java/lang/invoke/VarHandle" ∧ (parseMethodDescriptor (yX4_fallenUpon).desc).map (fun d => d.parameters.length) = some 2 := by decide +kernel
noncomputable abbrev M_X5_init : MD := (yX5_init, cX5_init, 1, none, wsX5_init, 1, 20, 1, 12)
theorem hd_X5_init : (yX5_init).cls ≠ "java/lang/invoke/MethodHandle" ∧ (yX5_init).cls ≠ "java/lang/invoke/VarHandle" ∧ (parseMethodDescriptor (yX5_init).desc).map (fun d => d.parameters.length) = some 0 := by decide +kernel
noncomputable abbrev M_X5_spellRow : MD := (yX5_spellRow, cX5_spellRow, 4, none, wsX5_spellRow, 3, 64, 0, 0)
theorem hd_X5_spellRow : (yX5_spellRow).cls ≠ "java/lang/invoke/MethodHandle" ∧ (yX5_spellRow).cls ≠ "java/lang/invoke/VarHandle" ∧ (parseMethodDescriptor (yX5_spellRow).desc).map (fun d => d.parameters.length) = some 2 := by decide +kernel
noncomputable abbrev M_X5_spellSpot : MD := (yX5_spellSpot, cX5_spellSpot, 2, none, wsX5_spellSpot, 2, 43, 0, 0)
theorem hd_X5_spellSpot : (yX5_spellSpot).cls ≠ "java/lang/invoke/MethodHandle" ∧ (yX5_spellSpot).cls ≠ "java/lang/invoke/VarHandle" ∧ (parseMethodDescriptor (yX5_spellSpot).desc).map (fun d => d.parameters.length) = some 1 := by decide +kernel
noncomputable abbrev M_X5_putPair : MD := (yX5_putPair, cX5_putPair, 3, none, wsX5_putPair, 1, 21, 0, 0)
theorem hd_X5_putPair : (yX5_putPair).cls ≠ "java/lang/invoke/MethodHandle" ∧ (yX5_putPair).cls ≠ "java/lang/invoke/VarHandle" ∧ (parseMethodDescriptor (yX5_putPair).desc).map (fun d => d.parameters.length) = some 2 := by decide +kernel
noncomputable abbrev M_X5_putNumber : MD := (yX5_putNumber, cX5_putNumber, 3, none, wsX5_putNumber, 1, 21, 0, 0)
theorem hd_X5_putNumber : (yX5_putNumber).cls ≠ "java/lang/invoke/MethodHandle" ∧ (yX5_putNumber).cls ≠ "java/lang/invoke/VarHandle" ∧ (parseMethodDescriptor (yX5_putNumber).desc).map (fun d => d.parameters.length) = some 2 := by decide +kernel
noncomputable abbrev M_X5_put : MD := (yX5_put, cX5_put, 2, none, wsX5_put, 0, 0, 0, 0)
theorem hd_X5_put : (yX5_put).cls ≠ "java/lang/invoke/MethodHandle" ∧ (yX5_put).cls ≠ "java/lang/invoke/VarHandle" ∧ (parseMethodDescriptor (yX5_put).desc).map (fun d => d.parameters.length) = some 1 := by decide +kernel
noncomputable abbrev M_X6_init : MD := (yX6_init, cX6_init, 1, none, wsX6_init, 1, 20, 0, 0)
theorem hd_X6_init : (yX6_init).cls ≠ "java/lang/invoke/MethodHandle" ∧ (yX6_init).cls ≠ "java/lang/invoke/VarHandle" ∧ (parseMethodDescriptor (yX6_init).desc).map (fun d => d.parameters.length) = some 0 := by decide +kernel
noncomputable abbrev M_X6_become : MD := (yX6_become, cX6_become, 2, none, wsX6_become, 0, 0, 0, 0)
theorem hd_X6_become : (yX6_become).cls ≠ "java/lang/invoke/MethodHandle" ∧ (yX6_become).cls ≠ "java/lang/invoke/VarHandle" ∧ (parseMethodDescriptor (yX6_become).desc).map (fun d => d.parameters.length) = some 1 := by decide +kernel
noncomputable abbrev M_X6_tell : MD := (yX6_tell, cX6_tell, 2, (some .int), wsX6_tell, 0, 0, 0, 0)
theorem hd_X6_tell : (yX6_tell).cls ≠ "java/lang/invoke/MethodHandle" ∧ (yX6_tell).cls ≠ "java/lang/invoke/VarHandle" ∧ (parseMethodDescriptor (yX6_tell).desc).map (fun d => d.parameters.length) = some 1 := by decide +kernel
noncomputable abbrev M_X7_init : MD := (yX7_init, cX7_init, 4, none, wsX7_init, 1, 20, 14, 3448)
theorem hd_X7_init : (yX7_init).cls ≠ "java/lang/invoke/MethodHandle" ∧ (yX7_init).cls ≠ "java/lang/invoke/VarHandle" ∧ (parseMethodDescriptor (yX7_init).desc).map (fun d => d.parameters.length) = some 3 := by decide +kernel
noncomputable abbrev M_X7_forget : MD := (yX7_forget, cX7_forget, 1, none, wsX7_forget, 1, 23, 0, 0)
theorem hd_X7_forget : (yX7_forget).cls ≠ "java/lang/invoke/MethodHandle" ∧ (yX7_forget).cls ≠ "java/lang/invoke/VarHandle" ∧ (parseMethodDescriptor (yX7_forget).desc).map (fun d => d.parameters.length) = some 0 := by decide +kernel
noncomputable abbrev M_X7_wonBy : MD := (yX7_wonBy, cX7_wonBy, 4, (some .double), wsX7_wonBy, 5, 129, 0, 0)
theorem hd_X7_wonBy : (yX7_wonBy).cls ≠ "java/lang/invoke/MethodHandle" ∧ (yX7_wonBy).cls ≠ "java/lang/invoke/VarHandle" ∧ (parseMethodDescriptor (yX7_wonBy).desc).map (fun d => d.parameters.length) = some 3 := by decide +kernel
noncomputable abbrev M_X7_aimOf : MD := (yX7_aimOf, cX7_aimOf, 4, (some .int), wsX7_aimOf, 5, 129, 0, 0)
theorem hd_X7_aimOf : (yX7_aimOf).cls ≠ "java/lang/invoke/MethodHandle" ∧ (yX7_aimOf).cls ≠ "java/lang/invoke/VarHandle" ∧ (parseMethodDescriptor (yX7_aimOf).desc).map (fun d => d.parameters.length) = some 3 := by decide +kernel
noncomputable abbrev M_X7_isStill : MD := (yX7_isStill, cX7_isStill, 3, (some .boolean), wsX7_isStill, 5, 129, 0, 0)
theorem hd_X7_isStill : (yX7_isStill).cls ≠ "java/lang/invoke/MethodHandle" ∧ (yX7_isStill).cls ≠ "java/lang/invoke/VarHandle" ∧ (parseMethodDescriptor (yX7_isStill).desc).map (fun d => d.parameters.length) = some 2 := by decide +kernel
noncomputable abbrev M_X7_learn : MD := (yX7_learn, cX7_learn, 6, none, wsX7_learn, 4, 104, 0, 0)
theorem hd_X7_learn : (yX7_learn).cls ≠ "java/lang/invoke/MethodHandle" ∧ (yX7_learn).cls ≠ "java/lang/invoke/VarHandle" ∧ (parseMethodDescriptor (yX7_learn).desc).map (fun d => d.parameters.length) = some 2 := by decide +kernel
noncomputable abbrev M_X7_sweep : MD := (yX7_sweep, cX7_sweep, 13, none, wsX7_sweep, 3, 72, 0, 0)
theorem hd_X7_sweep : (yX7_sweep).cls ≠ "java/lang/invoke/MethodHandle" ∧ (yX7_sweep).cls ≠ "java/lang/invoke/VarHandle" ∧ (parseMethodDescriptor (yX7_sweep).desc).map (fun d => d.parameters.length) = some 2 := by decide +kernel
noncomputable abbrev M_X7_weigh : MD := (yX7_weigh, cX7_weigh, 7, none, wsX7_weigh, 2, 46, 0, 0)
theorem hd_X7_weigh : (yX7_weigh).cls ≠ "java/lang/invoke/MethodHandle" ∧ (yX7_weigh).cls ≠ "java/lang/invoke/VarHandle" ∧ (parseMethodDescriptor (yX7_weigh).desc).map (fun d => d.parameters.length) = some 3 := by decide +kernel
noncomputable abbrev M_X7_weighAim : MD := (yX7_weighAim, cX7_weighAim, 14, none, wsX7_weighAim, 0, 0, 0, 0)
theorem hd_X7_weighAim : (yX7_weighAim).cls ≠ "java/lang/invoke/MethodHandle" ∧ (yX7_weighAim).cls ≠ "java/lang/invoke/VarHandle" ∧ (parseMethodDescriptor (yX7_weighAim).desc).map (fun d => d.parameters.length) = some 4 := by decide +kernel
noncomputable abbrev M_X7_valueOf : MD := (yX7_valueOf, cX7_valueOf, 5, (some .double), wsX7_valueOf, 0, 0, 0, 0)
theorem hd_X7_valueOf : (yX7_valueOf).cls ≠ "java/lang/invoke/MethodHandle" ∧ (yX7_valueOf).cls ≠ "java/lang/invoke/VarHandle" ∧ (parseMethodDescriptor (yX7_valueOf).desc).map (fun d => d.parameters.length) = some 3 := by decide +kernel
noncomputable abbrev M_X7_bestAim : MD := (yX7_bestAim, cX7_bestAim, 10, (some .int), wsX7_bestAim, 1, 24, 0, 0)
theorem hd_X7_bestAim : (yX7_bestAim).cls ≠ "java/lang/invoke/MethodHandle" ∧ (yX7_bestAim).cls ≠ "java/lang/invoke/VarHandle" ∧ (parseMethodDescriptor (yX7_bestAim).desc).map (fun d => d.parameters.length) = some 2 := by decide +kernel
noncomputable abbrev M_X8_init : MD := (yX8_init, cX8_init, 1, none, wsX8_init, 1, 20, 1, 20)
theorem hd_X8_init : (yX8_init).cls ≠ "java/lang/invoke/MethodHandle" ∧ (yX8_init).cls ≠ "java/lang/invoke/VarHandle" ∧ (parseMethodDescriptor (yX8_init).desc).map (fun d => d.parameters.length) = some 0 := by decide +kernel
noncomputable abbrev M_X8_isMissing : MD := (yX8_isMissing, cX8_isMissing, 1, (some .boolean), wsX8_isMissing, 0, 0, 0, 0)
theorem hd_X8_isMissing : (yX8_isMissing).cls ≠ "java/lang/invoke/MethodHandle" ∧ (yX8_isMissing).cls ≠ "java/lang/invoke/VarHandle" ∧ (parseMethodDescriptor (yX8_isMissing).desc).map (fun d => d.parameters.length) = some 0 := by decide +kernel
noncomputable abbrev M_X8_make : MD := (yX8_make, cX8_make, 3, none, wsX8_make, 1, 23, 0, 0)
theorem hd_X8_make : (yX8_make).cls ≠ "java/lang/invoke/MethodHandle" ∧ (yX8_make).cls ≠ "java/lang/invoke/VarHandle" ∧ (parseMethodDescriptor (yX8_make).desc).map (fun d => d.parameters.length) = some 2 := by decide +kernel
noncomputable abbrev M_X8_become : MD := (yX8_become, cX8_become, 2, none, wsX8_become, 1, 40, 0, 0)
theorem hd_X8_become : (yX8_become).cls ≠ "java/lang/invoke/MethodHandle" ∧ (yX8_become).cls ≠ "java/lang/invoke/VarHandle" ∧ (parseMethodDescriptor (yX8_become).desc).map (fun d => d.parameters.length) = some 1 := by decide +kernel
noncomputable abbrev M_X8_gather : MD := (yX8_gather, cX8_gather, 5, (some .int), wsX8_gather, 0, 0, 0, 0)
theorem hd_X8_gather : (yX8_gather).cls ≠ "java/lang/invoke/MethodHandle" ∧ (yX8_gather).cls ≠ "java/lang/invoke/VarHandle" ∧ (parseMethodDescriptor (yX8_gather).desc).map (fun d => d.parameters.length) = some 2 := by decide +kernel
noncomputable abbrev M_X9_init : MD := (yX9_init, cX9_init, 2, none, wsX9_init, 3, 63, 2, 126)
theorem hd_X9_init : (yX9_init).cls ≠ "java/lang/invoke/MethodHandle" ∧ (yX9_init).cls ≠ "java/lang/invoke/VarHandle" ∧ (parseMethodDescriptor (yX9_init).desc).map (fun d => d.parameters.length) = some 0 := by decide +kernel
noncomputable abbrev M_X9_become : MD := (yX9_become, cX9_become, 2, (some .boolean), wsX9_become, 3, 63, 0, 0)
theorem hd_X9_become : (yX9_become).cls ≠ "java/lang/invoke/MethodHandle" ∧ (yX9_become).cls ≠ "java/lang/invoke/VarHandle" ∧ (parseMethodDescriptor (yX9_become).desc).map (fun d => d.parameters.length) = some 1 := by decide +kernel
noncomputable abbrev M_X9_markEnding : MD := (yX9_markEnding, cX9_markEnding, 2, none, wsX9_markEnding, 2, 42, 0, 0)
theorem hd_X9_markEnding : (yX9_markEnding).cls ≠ "java/lang/invoke/MethodHandle" ∧ (yX9_markEnding).cls ≠ "java/lang/invoke/VarHandle" ∧ (parseMethodDescriptor (yX9_markEnding).desc).map (fun d => d.parameters.length) = some 0 := by decide +kernel
noncomputable abbrev M_X9_leastRest : MD := (yX9_leastRest, cX9_leastRest, 1, (some .int), wsX9_leastRest, 0, 0, 0, 0)
theorem hd_X9_leastRest : (yX9_leastRest).cls ≠ "java/lang/invoke/MethodHandle" ∧ (yX9_leastRest).cls ≠ "java/lang/invoke/VarHandle" ∧ (parseMethodDescriptor (yX9_leastRest).desc).map (fun d => d.parameters.length) = some 0 := by decide +kernel
noncomputable abbrev M_X9_restBehind : MD := (yX9_restBehind, cX9_restBehind, 4, (some .int), wsX9_restBehind, 0, 0, 0, 0)
theorem hd_X9_restBehind : (yX9_restBehind).cls ≠ "java/lang/invoke/MethodHandle" ∧ (yX9_restBehind).cls ≠ "java/lang/invoke/VarHandle" ∧ (parseMethodDescriptor (yX9_restBehind).desc).map (fun d => d.parameters.length) = some 2 := by decide +kernel
noncomputable abbrev M_X9_restsBehind : MD := (yX9_restsBehind, cX9_restsBehind, 4, none, wsX9_restsBehind, 1, 23, 0, 0)
theorem hd_X9_restsBehind : (yX9_restsBehind).cls ≠ "java/lang/invoke/MethodHandle" ∧ (yX9_restsBehind).cls ≠ "java/lang/invoke/VarHandle" ∧ (parseMethodDescriptor (yX9_restsBehind).desc).map (fun d => d.parameters.length) = some 2 := by decide +kernel
noncomputable abbrev M_X9_verdict : MD := (yX9_verdict, cX9_verdict, 6, (some .int), wsX9_verdict, 1, 23, 0, 0)
theorem hd_X9_verdict : (yX9_verdict).cls ≠ "java/lang/invoke/MethodHandle" ∧ (yX9_verdict).cls ≠ "java/lang/invoke/VarHandle" ∧ (parseMethodDescriptor (yX9_verdict).desc).map (fun d => d.parameters.length) = some 3 := by decide +kernel
noncomputable abbrev M_X10_init : MD := (yX10_init, cX10_init, 1, none, wsX10_init, 1, 20, 2, 72)
theorem hd_X10_init : (yX10_init).cls ≠ "java/lang/invoke/MethodHandle" ∧ (yX10_init).cls ≠ "java/lang/invoke/VarHandle" ∧ (parseMethodDescriptor (yX10_init).desc).map (fun d => d.parameters.length) = some 0 := by decide +kernel
noncomputable abbrev M_X10_append : MD := (yX10_append, cX10_append, 2, (some .boolean), wsX10_append, 0, 0, 0, 0)
theorem hd_X10_append : (yX10_append).cls ≠ "java/lang/invoke/MethodHandle" ∧ (yX10_append).cls ≠ "java/lang/invoke/VarHandle" ∧ (parseMethodDescriptor (yX10_append).desc).map (fun d => d.parameters.length) = some 1 := by decide +kernel
noncomputable abbrev M_X10_read : MD := (yX10_read, cX10_read, 2, (some .int), wsX10_read, 4, 88, 0, 0)
theorem hd_X10_read : (yX10_read).cls ≠ "java/lang/invoke/MethodHandle" ∧ (yX10_read).cls ≠ "java/lang/invoke/VarHandle" ∧ (parseMethodDescriptor (yX10_read).desc).map (fun d => d.parameters.length) = some 0 := by decide +kernel
noncomputable abbrev M_X10_faultOfPath : MD := (yX10_faultOfPath, cX10_faultOfPath, 3, (some .int), wsX10_faultOfPath, 3, 66, 0, 0)
theorem hd_X10_faultOfPath : (yX10_faultOfPath).cls ≠ "java/lang/invoke/MethodHandle" ∧ (yX10_faultOfPath).cls ≠ "java/lang/invoke/VarHandle" ∧ (parseMethodDescriptor (yX10_faultOfPath).desc).map (fun d => d.parameters.length) = some 0 := by decide +kernel
noncomputable abbrev M_X10_faultOfSpot : MD := (yX10_faultOfSpot, cX10_faultOfSpot, 1, (some .int), wsX10_faultOfSpot, 2, 46, 0, 0)
theorem hd_X10_faultOfSpot : (yX10_faultOfSpot).cls ≠ "java/lang/invoke/MethodHandle" ∧ (yX10_faultOfSpot).cls ≠ "java/lang/invoke/VarHandle" ∧ (parseMethodDescriptor (yX10_faultOfSpot).desc).map (fun d => d.parameters.length) = some 0 := by decide +kernel
noncomputable abbrev M_X10_faultOfPair : MD := (yX10_faultOfPair, cX10_faultOfPair, 3, (some .int), wsX10_faultOfPair, 1, 22, 0, 0)
theorem hd_X10_faultOfPair : (yX10_faultOfPair).cls ≠ "java/lang/invoke/MethodHandle" ∧ (yX10_faultOfPair).cls ≠ "java/lang/invoke/VarHandle" ∧ (parseMethodDescriptor (yX10_faultOfPair).desc).map (fun d => d.parameters.length) = some 2 := by decide +kernel
noncomputable abbrev M_X10_faultOfNumber : MD := (yX10_faultOfNumber, cX10_faultOfNumber, 5, (some .int), wsX10_faultOfNumber, 1, 22, 0, 0)
theorem hd_X10_faultOfNumber : (yX10_faultOfNumber).cls ≠ "java/lang/invoke/MethodHandle" ∧ (yX10_faultOfNumber).cls ≠ "java/lang/invoke/VarHandle" ∧ (parseMethodDescriptor (yX10_faultOfNumber).desc).map (fun d => d.parameters.length) = some 1 := by decide +kernel
noncomputable abbrev M_X10_isFigure : MD := (yX10_isFigure, cX10_isFigure, 1, (some .boolean), wsX10_isFigure, 0, 0, 0, 0)
theorem hd_X10_isFigure : (yX10_isFigure).cls ≠ "java/lang/invoke/MethodHandle" ∧ (yX10_isFigure).cls ≠ "java/lang/invoke/VarHandle" ∧ (parseMethodDescriptor (yX10_isFigure).desc).map (fun d => d.parameters.length) = some 1 := by decide +kernel
noncomputable abbrev M_X10_take : MD := (yX10_take, cX10_take, 3, (some .int), wsX10_take, 0, 0, 0, 0)
theorem hd_X10_take : (yX10_take).cls ≠ "java/lang/invoke/MethodHandle" ∧ (yX10_take).cls ≠ "java/lang/invoke/VarHandle" ∧ (parseMethodDescriptor (yX10_take).desc).map (fun d => d.parameters.length) = some 2 := by decide +kernel
noncomputable abbrev M_X11_init : MD := (yX11_init, cX11_init, 4, none, wsX11_init, 4, 89, 86, 11919)
theorem hd_X11_init : (yX11_init).cls ≠ "java/lang/invoke/MethodHandle" ∧ (yX11_init).cls ≠ "java/lang/invoke/VarHandle" ∧ (parseMethodDescriptor (yX11_init).desc).map (fun d => d.parameters.length) = some 0 := by decide +kernel
noncomputable abbrev M_X11_spot : MD := (yX11_spot, cX11_spot, 3, (some .int), wsX11_spot, 2, 45, 0, 0)
theorem hd_X11_spot : (yX11_spot).cls ≠ "java/lang/invoke/MethodHandle" ∧ (yX11_spot).cls ≠ "java/lang/invoke/VarHandle" ∧ (parseMethodDescriptor (yX11_spot).desc).map (fun d => d.parameters.length) = some 2 := by decide +kernel
noncomputable abbrev M_X11_under : MD := (yX11_under, cX11_under, 3, (some .int), wsX11_under, 2, 42, 0, 0)
theorem hd_X11_under : (yX11_under).cls ≠ "java/lang/invoke/MethodHandle" ∧ (yX11_under).cls ≠ "java/lang/invoke/VarHandle" ∧ (parseMethodDescriptor (yX11_under).desc).map (fun d => d.parameters.length) = some 2 := by decide +kernel
noncomputable abbrev M_X11_hand : MD := (yX11_hand, cX11_hand, 6, (some .int), wsX11_hand, 5, 107, 0, 0)
theorem hd_X11_hand : (yX11_hand).cls ≠ "java/lang/invoke/MethodHandle" ∧ (yX11_hand).cls ≠ "java/lang/invoke/VarHandle" ∧ (parseMethodDescriptor (yX11_hand).desc).map (fun d => d.parameters.length) = some 3 := by decide +kernel
noncomputable abbrev M_X11_fall : MD := (yX11_fall, cX11_fall, 6, (some .int), wsX11_fall, 1, 20, 0, 0)
theorem hd_X11_fall : (yX11_fall).cls ≠ "java/lang/invoke/MethodHandle" ∧ (yX11_fall).cls ≠ "java/lang/invoke/VarHandle" ∧ (parseMethodDescriptor (yX11_fall).desc).map (fun d => d.parameters.length) = some 4 := by decide +kernel
noncomputable abbrev M_X11_out : MD := (yX11_out, cX11_out, 3, (some .int), wsX11_out, 5, 107, 0, 0)
theorem hd_X11_out : (yX11_out).cls ≠ "java/lang/invoke/MethodHandle" ∧ (yX11_out).cls ≠ "java/lang/invoke/VarHandle" ∧ (parseMethodDescriptor (yX11_out).desc).map (fun d => d.parameters.length) = some 1 := by decide +kernel
noncomputable abbrev M_X11_falls : MD := (yX11_falls, cX11_falls, 3, (some .int), wsX11_falls, 1, 23, 0, 0)
theorem hd_X11_falls : (yX11_falls).cls ≠ "java/lang/invoke/MethodHandle" ∧ (yX11_falls).cls ≠ "java/lang/invoke/VarHandle" ∧ (parseMethodDescriptor (yX11_falls).desc).map (fun d => d.parameters.length) = some 2 := by decide +kernel
noncomputable abbrev M_X11_darts : MD := (yX11_darts, cX11_darts, 3, (some .long), wsX11_darts, 4, 98, 0, 0)
theorem hd_X11_darts : (yX11_darts).cls ≠ "java/lang/invoke/MethodHandle" ∧ (yX11_darts).cls ≠ "java/lang/invoke/VarHandle" ∧ (parseMethodDescriptor (yX11_darts).desc).map (fun d => d.parameters.length) = some 2 := by decide +kernel
noncomputable abbrev M_X11_dartsCut : MD := (yX11_dartsCut, cX11_dartsCut, 3, (some .int), wsX11_dartsCut, 4, 98, 0, 0)
theorem hd_X11_dartsCut : (yX11_dartsCut).cls ≠ "java/lang/invoke/MethodHandle" ∧ (yX11_dartsCut).cls ≠ "java/lang/invoke/VarHandle" ∧ (parseMethodDescriptor (yX11_dartsCut).desc).map (fun d => d.parameters.length) = some 2 := by decide +kernel
noncomputable abbrev M_X11_thousandths : MD := (yX11_thousandths, cX11_thousandths, 3, (some .int), wsX11_thousandths, 4, 98, 0, 0)
theorem hd_X11_thousandths : (yX11_thousandths).cls ≠ "java/lang/invoke/MethodHandle" ∧ (yX11_thousandths).cls ≠ "java/lang/invoke/VarHandle" ∧ (parseMethodDescriptor (yX11_thousandths).desc).map (fun d => d.parameters.length) = some 2 := by decide +kernel
noncomputable abbrev M_X11_aim : MD := (yX11_aim, cX11_aim, 3, (some .int), wsX11_aim, 4, 98, 0, 0)
theorem hd_X11_aim : (yX11_aim).cls ≠ "java/lang/invoke/MethodHandle" ∧ (yX11_aim).cls ≠ "java/lang/invoke/VarHandle" ∧ (parseMethodDescriptor (yX11_aim).desc).map (fun d => d.parameters.length) = some 2 := by decide +kernel
noncomputable abbrev M_X11_chance : MD := (yX11_chance, cX11_chance, 4, (some .long), wsX11_chance, 4, 100, 0, 0)
theorem hd_X11_chance : (yX11_chance).cls ≠ "java/lang/invoke/MethodHandle" ∧ (yX11_chance).cls ≠ "java/lang/invoke/VarHandle" ∧ (parseMethodDescriptor (yX11_chance).desc).map (fun d => d.parameters.length) = some 3 := by decide +kernel
noncomputable abbrev M_X11_chanceAim : MD := (yX11_chanceAim, cX11_chanceAim, 4, (some .int), wsX11_chanceAim, 4, 100, 0, 0)
theorem hd_X11_chanceAim : (yX11_chanceAim).cls ≠ "java/lang/invoke/MethodHandle" ∧ (yX11_chanceAim).cls ≠ "java/lang/invoke/VarHandle" ∧ (parseMethodDescriptor (yX11_chanceAim).desc).map (fun d => d.parameters.length) = some 3 := by decide +kernel
noncomputable abbrev M_X11_race : MD := (yX11_race, cX11_race, 4, (some .long), wsX11_race, 6, 152, 0, 0)
theorem hd_X11_race : (yX11_race).cls ≠ "java/lang/invoke/MethodHandle" ∧ (yX11_race).cls ≠ "java/lang/invoke/VarHandle" ∧ (parseMethodDescriptor (yX11_race).desc).map (fun d => d.parameters.length) = some 3 := by decide +kernel
noncomputable abbrev M_X11_raceAim : MD := (yX11_raceAim, cX11_raceAim, 4, (some .int), wsX11_raceAim, 6, 152, 0, 0)
theorem hd_X11_raceAim : (yX11_raceAim).cls ≠ "java/lang/invoke/MethodHandle" ∧ (yX11_raceAim).cls ≠ "java/lang/invoke/VarHandle" ∧ (parseMethodDescriptor (yX11_raceAim).desc).map (fun d => d.parameters.length) = some 3 := by decide +kernel
noncomputable abbrev M_X11_settled : MD := (yX11_settled, cX11_settled, 3, (some .int), wsX11_settled, 6, 151, 0, 0)
theorem hd_X11_settled : (yX11_settled).cls ≠ "java/lang/invoke/MethodHandle" ∧ (yX11_settled).cls ≠ "java/lang/invoke/VarHandle" ∧ (parseMethodDescriptor (yX11_settled).desc).map (fun d => d.parameters.length) = some 2 := by decide +kernel
noncomputable abbrev M_X11_percent : MD := (yX11_percent, cX11_percent, 4, (some .int), wsX11_percent, 6, 152, 0, 0)
theorem hd_X11_percent : (yX11_percent).cls ≠ "java/lang/invoke/MethodHandle" ∧ (yX11_percent).cls ≠ "java/lang/invoke/VarHandle" ∧ (parseMethodDescriptor (yX11_percent).desc).map (fun d => d.parameters.length) = some 2 := by decide +kernel
noncomputable abbrev M_X11_ways : MD := (yX11_ways, cX11_ways, 3, (some .int), wsX11_ways, 5, 115, 0, 0)
theorem hd_X11_ways : (yX11_ways).cls ≠ "java/lang/invoke/MethodHandle" ∧ (yX11_ways).cls ≠ "java/lang/invoke/VarHandle" ∧ (parseMethodDescriptor (yX11_ways).desc).map (fun d => d.parameters.length) = some 2 := by decide +kernel
noncomputable abbrev M_X11_way : MD := (yX11_way, cX11_way, 4, (some .int), wsX11_way, 6, 138, 0, 0)
theorem hd_X11_way : (yX11_way).cls ≠ "java/lang/invoke/MethodHandle" ∧ (yX11_way).cls ≠ "java/lang/invoke/VarHandle" ∧ (parseMethodDescriptor (yX11_way).desc).map (fun d => d.parameters.length) = some 3 := by decide +kernel
noncomputable abbrev M_X11_spell : MD := (yX11_spell, cX11_spell, 3, (some .int), wsX11_spell, 6, 138, 0, 0)
theorem hd_X11_spell : (yX11_spell).cls ≠ "java/lang/invoke/MethodHandle" ∧ (yX11_spell).cls ≠ "java/lang/invoke/VarHandle" ∧ (parseMethodDescriptor (yX11_spell).desc).map (fun d => d.parameters.length) = some 2 := by decide +kernel
noncomputable abbrev M_X11_start : MD := (yX11_start, cX11_start, 3, (some .int), wsX11_start, 2, 41, 0, 0)
theorem hd_X11_start : (yX11_start).cls ≠ "java/lang/invoke/MethodHandle" ∧ (yX11_start).cls ≠ "java/lang/invoke/VarHandle" ∧ (parseMethodDescriptor (yX11_start).desc).map (fun d => d.parameters.length) = some 1 := by decide +kernel
noncomputable abbrev M_X11_thrown : MD := (yX11_thrown, cX11_thrown, 2, (some .int), wsX11_thrown, 4, 85, 0, 0)
theorem hd_X11_thrown : (yX11_thrown).cls ≠ "java/lang/invoke/MethodHandle" ∧ (yX11_thrown).cls ≠ "java/lang/invoke/VarHandle" ∧ (parseMethodDescriptor (yX11_thrown).desc).map (fun d => d.parameters.length) = some 1 := by decide +kernel
noncomputable abbrev M_X11_throwsAt : MD := (yX11_throwsAt, cX11_throwsAt, 2, (some .int), wsX11_throwsAt, 5, 107, 0, 0)
theorem hd_X11_throwsAt : (yX11_throwsAt).cls ≠ "java/lang/invoke/MethodHandle" ∧ (yX11_throwsAt).cls ≠ "java/lang/invoke/VarHandle" ∧ (parseMethodDescriptor (yX11_throwsAt).desc).map (fun d => d.parameters.length) = some 1 := by decide +kernel
noncomputable abbrev M_X11_minds : MD := (yX11_minds, cX11_minds, 4, (some .int), wsX11_minds, 5, 107, 0, 0)
theorem hd_X11_minds : (yX11_minds).cls ≠ "java/lang/invoke/MethodHandle" ∧ (yX11_minds).cls ≠ "java/lang/invoke/VarHandle" ∧ (parseMethodDescriptor (yX11_minds).desc).map (fun d => d.parameters.length) = some 1 := by decide +kernel
noncomputable abbrev M_X11_seed : MD := (yX11_seed, cX11_seed, 3, (some .int), wsX11_seed, 0, 0, 0, 0)
theorem hd_X11_seed : (yX11_seed).cls ≠ "java/lang/invoke/MethodHandle" ∧ (yX11_seed).cls ≠ "java/lang/invoke/VarHandle" ∧ (parseMethodDescriptor (yX11_seed).desc).map (fun d => d.parameters.length) = some 1 := by decide +kernel
noncomputable abbrev M_X11_average : MD := (yX11_average, cX11_average, 3, (some .int), wsX11_average, 2, 49, 0, 0)
theorem hd_X11_average : (yX11_average).cls ≠ "java/lang/invoke/MethodHandle" ∧ (yX11_average).cls ≠ "java/lang/invoke/VarHandle" ∧ (parseMethodDescriptor (yX11_average).desc).map (fun d => d.parameters.length) = some 1 := by decide +kernel
noncomputable abbrev M_X11_told : MD := (yX11_told, cX11_told, 2, (some .int), wsX11_told, 1, 21, 0, 0)
theorem hd_X11_told : (yX11_told).cls ≠ "java/lang/invoke/MethodHandle" ∧ (yX11_told).cls ≠ "java/lang/invoke/VarHandle" ∧ (parseMethodDescriptor (yX11_told).desc).map (fun d => d.parameters.length) = some 1 := by decide +kernel
noncomputable abbrev M_X11_feed : MD := (yX11_feed, cX11_feed, 2, (some .int), wsX11_feed, 1, 21, 0, 0)
theorem hd_X11_feed : (yX11_feed).cls ≠ "java/lang/invoke/MethodHandle" ∧ (yX11_feed).cls ≠ "java/lang/invoke/VarHandle" ∧ (parseMethodDescriptor (yX11_feed).desc).map (fun d => d.parameters.length) = some 1 := by decide +kernel
noncomputable abbrev M_X11_clear : MD := (yX11_clear, cX11_clear, 2, (some .int), wsX11_clear, 0, 0, 0, 0)
theorem hd_X11_clear : (yX11_clear).cls ≠ "java/lang/invoke/MethodHandle" ∧ (yX11_clear).cls ≠ "java/lang/invoke/VarHandle" ∧ (parseMethodDescriptor (yX11_clear).desc).map (fun d => d.parameters.length) = some 0 := by decide +kernel
noncomputable abbrev M_X11_judge : MD := (yX11_judge, cX11_judge, 3, (some .int), wsX11_judge, 5, 109, 0, 0)
theorem hd_X11_judge : (yX11_judge).cls ≠ "java/lang/invoke/MethodHandle" ∧ (yX11_judge).cls ≠ "java/lang/invoke/VarHandle" ∧ (parseMethodDescriptor (yX11_judge).desc).map (fun d => d.parameters.length) = some 1 := by decide +kernel
noncomputable abbrev M_X11_play : MD := (yX11_play, cX11_play, 4, (some .int), wsX11_play, 5, 109, 0, 0)
theorem hd_X11_play : (yX11_play).cls ≠ "java/lang/invoke/MethodHandle" ∧ (yX11_play).cls ≠ "java/lang/invoke/VarHandle" ∧ (parseMethodDescriptor (yX11_play).desc).map (fun d => d.parameters.length) = some 0 := by decide +kernel
noncomputable abbrev M_X11_paper : MD := (yX11_paper, cX11_paper, 2, (some .int), wsX11_paper, 0, 0, 0, 0)
theorem hd_X11_paper : (yX11_paper).cls ≠ "java/lang/invoke/MethodHandle" ∧ (yX11_paper).cls ≠ "java/lang/invoke/VarHandle" ∧ (parseMethodDescriptor (yX11_paper).desc).map (fun d => d.parameters.length) = some 1 := by decide +kernel
noncomputable abbrev M_X11_rack : MD := (yX11_rack, cX11_rack, 4, (some .int), wsX11_rack, 2, 45, 0, 0)
theorem hd_X11_rack : (yX11_rack).cls ≠ "java/lang/invoke/MethodHandle" ∧ (yX11_rack).cls ≠ "java/lang/invoke/VarHandle" ∧ (parseMethodDescriptor (yX11_rack).desc).map (fun d => d.parameters.length) = some 3 := by decide +kernel
noncomputable abbrev M_X11_lays : MD := (yX11_lays, cX11_lays, 5, (some .int), wsX11_lays, 2, 42, 0, 0)
theorem hd_X11_lays : (yX11_lays).cls ≠ "java/lang/invoke/MethodHandle" ∧ (yX11_lays).cls ≠ "java/lang/invoke/VarHandle" ∧ (parseMethodDescriptor (yX11_lays).desc).map (fun d => d.parameters.length) = some 3 := by decide +kernel
noncomputable abbrev M_X11_laid : MD := (yX11_laid, cX11_laid, 4, (some .int), wsX11_laid, 1, 20, 0, 0)
theorem hd_X11_laid : (yX11_laid).cls ≠ "java/lang/invoke/MethodHandle" ∧ (yX11_laid).cls ≠ "java/lang/invoke/VarHandle" ∧ (parseMethodDescriptor (yX11_laid).desc).map (fun d => d.parameters.length) = some 2 := by decide +kernel
noncomputable abbrev M_X11_like : MD := (yX11_like, cX11_like, 3, (some .int), wsX11_like, 2, 61, 0, 0)
theorem hd_X11_like : (yX11_like).cls ≠ "java/lang/invoke/MethodHandle" ∧ (yX11_like).cls ≠ "java/lang/invoke/VarHandle" ∧ (parseMethodDescriptor (yX11_like).desc).map (fun d => d.parameters.length) = some 2 := by decide +kernel
noncomputable abbrev M_X11_judged : MD := (yX11_judged, cX11_judged, 5, (some .int), wsX11_judged, 2, 48, 0, 0)
theorem hd_X11_judged : (yX11_judged).cls ≠ "java/lang/invoke/MethodHandle" ∧ (yX11_judged).cls ≠ "java/lang/invoke/VarHandle" ∧ (parseMethodDescriptor (yX11_judged).desc).map (fun d => d.parameters.length) = some 3 := by decide +kernel
noncomputable abbrev M_X11_image : MD := (yX11_image, cX11_image, 1, (some .int), wsX11_image, 2, 42, 0, 0)
theorem hd_X11_image : (yX11_image).cls ≠ "java/lang/invoke/MethodHandle" ∧ (yX11_image).cls ≠ "java/lang/invoke/VarHandle" ∧ (parseMethodDescriptor (yX11_image).desc).map (fun d => d.parameters.length) = some 0 := by decide +kernel
noncomputable abbrev M_X11_undo : MD := (yX11_undo, cX11_undo, 1, (some .int), wsX11_undo, 5, 107, 0, 0)
theorem hd_X11_undo : (yX11_undo).cls ≠ "java/lang/invoke/MethodHandle" ∧ (yX11_undo).cls ≠ "java/lang/invoke/VarHandle" ∧ (parseMethodDescriptor (yX11_undo).desc).map (fun d => d.parameters.length) = some 0 := by decide +kernel
noncomputable abbrev M_X11_isSpot : MD := (yX11_isSpot, cX11_isSpot, 1, (some .boolean), wsX11_isSpot, 0, 0, 0, 0)
theorem hd_X11_isSpot : (yX11_isSpot).cls ≠ "java/lang/invoke/MethodHandle" ∧ (yX11_isSpot).cls ≠ "java/lang/invoke/VarHandle" ∧ (parseMethodDescriptor (yX11_isSpot).desc).map (fun d => d.parameters.length) = some 1 := by decide +kernel
noncomputable abbrev M_X11_isAim : MD := (yX11_isAim, cX11_isAim, 1, (some .boolean), wsX11_isAim, 0, 0, 0, 0)
theorem hd_X11_isAim : (yX11_isAim).cls ≠ "java/lang/invoke/MethodHandle" ∧ (yX11_isAim).cls ≠ "java/lang/invoke/VarHandle" ∧ (parseMethodDescriptor (yX11_isAim).desc).map (fun d => d.parameters.length) = some 1 := by decide +kernel
noncomputable abbrev M_X11_isKind : MD := (yX11_isKind, cX11_isKind, 1, (some .boolean), wsX11_isKind, 0, 0, 0, 0)
theorem hd_X11_isKind : (yX11_isKind).cls ≠ "java/lang/invoke/MethodHandle" ∧ (yX11_isKind).cls ≠ "java/lang/invoke/VarHandle" ∧ (parseMethodDescriptor (yX11_isKind).desc).map (fun d => d.parameters.length) = some 1 := by decide +kernel
noncomputable abbrev M_X11_isPlayer : MD := (yX11_isPlayer, cX11_isPlayer, 1, (some .boolean), wsX11_isPlayer, 0, 0, 0, 0)
theorem hd_X11_isPlayer : (yX11_isPlayer).cls ≠ "java/lang/invoke/MethodHandle" ∧ (yX11_isPlayer).cls ≠ "java/lang/invoke/VarHandle" ∧ (parseMethodDescriptor (yX11_isPlayer).desc).map (fun d => d.parameters.length) = some 1 := by decide +kernel
noncomputable abbrev M_X11_isRack : MD := (yX11_isRack, cX11_isRack, 1, (some .boolean), wsX11_isRack, 0, 0, 0, 0)
theorem hd_X11_isRack : (yX11_isRack).cls ≠ "java/lang/invoke/MethodHandle" ∧ (yX11_isRack).cls ≠ "java/lang/invoke/VarHandle" ∧ (parseMethodDescriptor (yX11_isRack).desc).map (fun d => d.parameters.length) = some 1 := by decide +kernel
noncomputable abbrev M_X11_isRestUpTo : MD := (yX11_isRestUpTo, cX11_isRestUpTo, 3, (some .boolean), wsX11_isRestUpTo, 1, 20, 0, 0)
theorem hd_X11_isRestUpTo : (yX11_isRestUpTo).cls ≠ "java/lang/invoke/MethodHandle" ∧ (yX11_isRestUpTo).cls ≠ "java/lang/invoke/VarHandle" ∧ (parseMethodDescriptor (yX11_isRestUpTo).desc).map (fun d => d.parameters.length) = some 2 := by decide +kernel
noncomputable abbrev M_X11_isDartsRest : MD := (yX11_isDartsRest, cX11_isDartsRest, 2, (some .boolean), wsX11_isDartsRest, 2, 42, 0, 0)
theorem hd_X11_isDartsRest : (yX11_isDartsRest).cls ≠ "java/lang/invoke/MethodHandle" ∧ (yX11_isDartsRest).cls ≠ "java/lang/invoke/VarHandle" ∧ (parseMethodDescriptor (yX11_isDartsRest).desc).map (fun d => d.parameters.length) = some 1 := by decide +kernel
noncomputable abbrev M_X11_isRace : MD := (yX11_isRace, cX11_isRace, 3, (some .boolean), wsX11_isRace, 2, 42, 0, 0)
theorem hd_X11_isRace : (yX11_isRace).cls ≠ "java/lang/invoke/MethodHandle" ∧ (yX11_isRace).cls ≠ "java/lang/invoke/VarHandle" ∧ (parseMethodDescriptor (yX11_isRace).desc).map (fun d => d.parameters.length) = some 2 := by decide +kernel
noncomputable abbrev M_X11_renewMinds : MD := (yX11_renewMinds, cX11_renewMinds, 4, none, wsX11_renewMinds, 4, 84, 0, 0)
theorem hd_X11_renewMinds : (yX11_renewMinds).cls ≠ "java/lang/invoke/MethodHandle" ∧ (yX11_renewMinds).cls ≠ "java/lang/invoke/VarHandle" ∧ (parseMethodDescriptor (yX11_renewMinds).desc).map (fun d => d.parameters.length) = some 0 := by decide +kernel
noncomputable abbrev M_X11_throwUpon : MD := (yX11_throwUpon, cX11_throwUpon, 2, (some .int), wsX11_throwUpon, 3, 64, 0, 0)
theorem hd_X11_throwUpon : (yX11_throwUpon).cls ≠ "java/lang/invoke/MethodHandle" ∧ (yX11_throwUpon).cls ≠ "java/lang/invoke/VarHandle" ∧ (parseMethodDescriptor (yX11_throwUpon).desc).map (fun d => d.parameters.length) = some 1 := by decide +kernel
noncomputable abbrev M_X11_throwByDraw : MD := (yX11_throwByDraw, cX11_throwByDraw, 3, (some .int), wsX11_throwByDraw, 4, 85, 0, 0)
theorem hd_X11_throwByDraw : (yX11_throwByDraw).cls ≠ "java/lang/invoke/MethodHandle" ∧ (yX11_throwByDraw).cls ≠ "java/lang/invoke/VarHandle" ∧ (parseMethodDescriptor (yX11_throwByDraw).desc).map (fun d => d.parameters.length) = some 1 := by decide +kernel
noncomputable abbrev M_X11_bitsOfDouble : MD := (yX11_bitsOfDouble, cX11_bitsOfDouble, 4, (some .long), wsX11_bitsOfDouble, 1, 28, 0, 0)
theorem hd_X11_bitsOfDouble : (yX11_bitsOfDouble).cls ≠ "java/lang/invoke/MethodHandle" ∧ (yX11_bitsOfDouble).cls ≠ "java/lang/invoke/VarHandle" ∧ (parseMethodDescriptor (yX11_bitsOfDouble).desc).map (fun d => d.parameters.length) = some 1 := by decide +kernel
noncomputable abbrev M_X11_bitsOfFloat : MD := (yX11_bitsOfFloat, cX11_bitsOfFloat, 2, (some .int), wsX11_bitsOfFloat, 1, 28, 0, 0)
theorem hd_X11_bitsOfFloat : (yX11_bitsOfFloat).cls ≠ "java/lang/invoke/MethodHandle" ∧ (yX11_bitsOfFloat).cls ≠ "java/lang/invoke/VarHandle" ∧ (parseMethodDescriptor (yX11_bitsOfFloat).desc).map (fun d => d.parameters.length) = some 1 := by decide +kernel
noncomputable abbrev M_X11_bitsOfSize : MD := (yX11_bitsOfSize, cX11_bitsOfSize, 9, (some .long), wsX11_bitsOfSize, 0, 0, 0, 0)
theorem hd_X11_bitsOfSize : (yX11_bitsOfSize).cls ≠ "java/lang/invoke/MethodHandle" ∧ (yX11_bitsOfSize).cls ≠ "java/lang/invoke/VarHandle" ∧ (parseMethodDescriptor (yX11_bitsOfSize).desc).map (fun d => d.parameters.length) = some 3 := by decide +kernel
noncomputable abbrev M_X12_init : MD := (yX12_init, cX12_init, 1, none, wsX12_init, 1, 20, 30, 7141)
theorem hd_X12_init : (yX12_init).cls ≠ "java/lang/invoke/MethodHandle" ∧ (yX12_init).cls ≠ "java/lang/invoke/VarHandle" ∧ (parseMethodDescriptor (yX12_init).desc).map (fun d => d.parameters.length) = some 0 := by decide +kernel
noncomputable abbrev M_X12_in : MD := (yX12_in, cX12_in, 6, (some .boolean), wsX12_in, 0, 0, 0, 0)
theorem hd_X12_in : (yX12_in).cls ≠ "java/lang/invoke/MethodHandle" ∧ (yX12_in).cls ≠ "java/lang/invoke/VarHandle" ∧ (parseMethodDescriptor (yX12_in).desc).map (fun d => d.parameters.length) = some 3 := by decide +kernel
noncomputable abbrev M_X12_scoreOf : MD := (yX12_scoreOf, cX12_scoreOf, 1, (some .int), wsX12_scoreOf, 0, 0, 0, 0)
theorem hd_X12_scoreOf : (yX12_scoreOf).cls ≠ "java/lang/invoke/MethodHandle" ∧ (yX12_scoreOf).cls ≠ "java/lang/invoke/VarHandle" ∧ (parseMethodDescriptor (yX12_scoreOf).desc).map (fun d => d.parameters.length) = some 1 := by decide +kernel
noncomputable abbrev M_X12_kindOf : MD := (yX12_kindOf, cX12_kindOf, 1, (some .int), wsX12_kindOf, 0, 0, 0, 0)
theorem hd_X12_kindOf : (yX12_kindOf).cls ≠ "java/lang/invoke/MethodHandle" ∧ (yX12_kindOf).cls ≠ "java/lang/invoke/VarHandle" ∧ (parseMethodDescriptor (yX12_kindOf).desc).map (fun d => d.parameters.length) = some 1 := by decide +kernel
noncomputable abbrev M_X12_isUnder : MD := (yX12_isUnder, cX12_isUnder, 3, (some .boolean), wsX12_isUnder, 1, 20, 0, 0)
theorem hd_X12_isUnder : (yX12_isUnder).cls ≠ "java/lang/invoke/MethodHandle" ∧ (yX12_isUnder).cls ≠ "java/lang/invoke/VarHandle" ∧ (parseMethodDescriptor (yX12_isUnder).desc).map (fun d => d.parameters.length) = some 2 := by decide +kernel
noncomputable abbrev M_X12_numberOf : MD := (yX12_numberOf, cX12_numberOf, 1, (some .int), wsX12_numberOf, 1, 25, 0, 0)
theorem hd_X12_numberOf : (yX12_numberOf).cls ≠ "java/lang/invoke/MethodHandle" ∧ (yX12_numberOf).cls ≠ "java/lang/invoke/VarHandle" ∧ (parseMethodDescriptor (yX12_numberOf).desc).map (fun d => d.parameters.length) = some 1 := by decide +kernel
noncomputable abbrev M_X12_besides : MD := (yX12_besides, cX12_besides, 5, (some .int), wsX12_besides, 0, 0, 0, 0)
theorem hd_X12_besides : (yX12_besides).cls ≠ "java/lang/invoke/MethodHandle" ∧ (yX12_besides).cls ≠ "java/lang/invoke/VarHandle" ∧ (parseMethodDescriptor (yX12_besides).desc).map (fun d => d.parameters.length) = some 2 := by decide +kernel
noncomputable abbrev M_X12_spot : MD := (yX12_spot, cX12_spot, 3, (some .int), wsX12_spot, 2, 45, 0, 0)
theorem hd_X12_spot : (yX12_spot).cls ≠ "java/lang/invoke/MethodHandle" ∧ (yX12_spot).cls ≠ "java/lang/invoke/VarHandle" ∧ (parseMethodDescriptor (yX12_spot).desc).map (fun d => d.parameters.length) = some 2 := by decide +kernel
noncomputable abbrev M_X12_under : MD := (yX12_under, cX12_under, 3, (some .int), wsX12_under, 2, 42, 0, 0)
theorem hd_X12_under : (yX12_under).cls ≠ "java/lang/invoke/MethodHandle" ∧ (yX12_under).cls ≠ "java/lang/invoke/VarHandle" ∧ (parseMethodDescriptor (yX12_under).desc).map (fun d => d.parameters.length) = some 2 := by decide +kernel
noncomputable abbrev M_X12_putFall : MD := (yX12_putFall, cX12_putFall, 3, none, wsX12_putFall, 0, 0, 0, 0)
theorem hd_X12_putFall : (yX12_putFall).cls ≠ "java/lang/invoke/MethodHandle" ∧ (yX12_putFall).cls ≠ "java/lang/invoke/VarHandle" ∧ (parseMethodDescriptor (yX12_putFall).desc).map (fun d => d.parameters.length) = some 2 := by decide +kernel
noncomputable abbrev M_X12_layFalls : MD := (yX12_layFalls, cX12_layFalls, 7, none, wsX12_layFalls, 2, 45, 0, 0)
theorem hd_X12_layFalls : (yX12_layFalls).cls ≠ "java/lang/invoke/MethodHandle" ∧ (yX12_layFalls).cls ≠ "java/lang/invoke/VarHandle" ∧ (parseMethodDescriptor (yX12_layFalls).desc).map (fun d => d.parameters.length) = some 2 := by decide +kernel
noncomputable abbrev M_X12_isPlayer : MD := (yX12_isPlayer, cX12_isPlayer, 1, (some .boolean), wsX12_isPlayer, 1, 25, 0, 0)
theorem hd_X12_isPlayer : (yX12_isPlayer).cls ≠ "java/lang/invoke/MethodHandle" ∧ (yX12_isPlayer).cls ≠ "java/lang/invoke/VarHandle" ∧ (parseMethodDescriptor (yX12_isPlayer).desc).map (fun d => d.parameters.length) = some 1 := by decide +kernel
noncomputable abbrev M_X12_hand : MD := (yX12_hand, cX12_hand, 5, (some .int), wsX12_hand, 2, 45, 0, 0)
theorem hd_X12_hand : (yX12_hand).cls ≠ "java/lang/invoke/MethodHandle" ∧ (yX12_hand).cls ≠ "java/lang/invoke/VarHandle" ∧ (parseMethodDescriptor (yX12_hand).desc).map (fun d => d.parameters.length) = some 3 := by decide +kernel
noncomputable abbrev M_X12_fall : MD := (yX12_fall, cX12_fall, 5, (some .int), wsX12_fall, 3, 71, 0, 0)
theorem hd_X12_fall : (yX12_fall).cls ≠ "java/lang/invoke/MethodHandle" ∧ (yX12_fall).cls ≠ "java/lang/invoke/VarHandle" ∧ (parseMethodDescriptor (yX12_fall).desc).map (fun d => d.parameters.length) = some 4 := by decide +kernel
noncomputable abbrev M_X12_out : MD := (yX12_out, cX12_out, 3, (some .int), wsX12_out, 1, 25, 0, 0)
theorem hd_X12_out : (yX12_out).cls ≠ "java/lang/invoke/MethodHandle" ∧ (yX12_out).cls ≠ "java/lang/invoke/VarHandle" ∧ (parseMethodDescriptor (yX12_out).desc).map (fun d => d.parameters.length) = some 1 := by decide +kernel
noncomputable abbrev M_X12_leastRest : MD := (yX12_leastRest, cX12_leastRest, 1, (some .int), wsX12_leastRest, 0, 0, 0, 0)
theorem hd_X12_leastRest : (yX12_leastRest).cls ≠ "java/lang/invoke/MethodHandle" ∧ (yX12_leastRest).cls ≠ "java/lang/invoke/VarHandle" ∧ (parseMethodDescriptor (yX12_leastRest).desc).map (fun d => d.parameters.length) = some 0 := by decide +kernel
noncomputable abbrev M_X12_nextRest : MD := (yX12_nextRest, cX12_nextRest, 6, (some .int), wsX12_nextRest, 2, 42, 0, 0)
theorem hd_X12_nextRest : (yX12_nextRest).cls ≠ "java/lang/invoke/MethodHandle" ∧ (yX12_nextRest).cls ≠ "java/lang/invoke/VarHandle" ∧ (parseMethodDescriptor (yX12_nextRest).desc).map (fun d => d.parameters.length) = some 2 := by decide +kernel
noncomputable abbrev M_X12_falls : MD := (yX12_falls, cX12_falls, 3, (some .int), wsX12_falls, 3, 67, 0, 0)
theorem hd_X12_falls : (yX12_falls).cls ≠ "java/lang/invoke/MethodHandle" ∧ (yX12_falls).cls ≠ "java/lang/invoke/VarHandle" ∧ (parseMethodDescriptor (yX12_falls).desc).map (fun d => d.parameters.length) = some 2 := by decide +kernel
noncomputable abbrev M_X12_isLaid : MD := (yX12_isLaid, cX12_isLaid, 3, (some .boolean), wsX12_isLaid, 0, 0, 0, 0)
theorem hd_X12_isLaid : (yX12_isLaid).cls ≠ "java/lang/invoke/MethodHandle" ∧ (yX12_isLaid).cls ≠ "java/lang/invoke/VarHandle" ∧ (parseMethodDescriptor (yX12_isLaid).desc).map (fun d => d.parameters.length) = some 1 := by decide +kernel
noncomputable abbrev M_X12_dartsValue : MD := (yX12_dartsValue, cX12_dartsValue, 10, (some .double), wsX12_dartsValue, 3, 67, 0, 0)
theorem hd_X12_dartsValue : (yX12_dartsValue).cls ≠ "java/lang/invoke/MethodHandle" ∧ (yX12_dartsValue).cls ≠ "java/lang/invoke/VarHandle" ∧ (parseMethodDescriptor (yX12_dartsValue).desc).map (fun d => d.parameters.length) = some 2 := by decide +kernel
noncomputable abbrev M_X12_keepFalls : MD := (yX12_keepFalls, cX12_keepFalls, 4, none, wsX12_keepFalls, 3, 71, 0, 0)
theorem hd_X12_keepFalls : (yX12_keepFalls).cls ≠ "java/lang/invoke/MethodHandle" ∧ (yX12_keepFalls).cls ≠ "java/lang/invoke/VarHandle" ∧ (parseMethodDescriptor (yX12_keepFalls).desc).map (fun d => d.parameters.length) = some 1 := by decide +kernel
noncomputable abbrev M_X12_takeFalls : MD := (yX12_takeFalls, cX12_takeFalls, 3, none, wsX12_takeFalls, 0, 0, 0, 0)
theorem hd_X12_takeFalls : (yX12_takeFalls).cls ≠ "java/lang/invoke/MethodHandle" ∧ (yX12_takeFalls).cls ≠ "java/lang/invoke/VarHandle" ∧ (parseMethodDescriptor (yX12_takeFalls).desc).map (fun d => d.parameters.length) = some 1 := by decide +kernel
noncomputable abbrev M_X12_layDarts : MD := (yX12_layDarts, cX12_layDarts, 10, none, wsX12_layDarts, 4, 96, 0, 0)
theorem hd_X12_layDarts : (yX12_layDarts).cls ≠ "java/lang/invoke/MethodHandle" ∧ (yX12_layDarts).cls ≠ "java/lang/invoke/VarHandle" ∧ (parseMethodDescriptor (yX12_layDarts).desc).map (fun d => d.parameters.length) = some 1 := by decide +kernel
noncomputable abbrev M_X12_isRest : MD := (yX12_isRest, cX12_isRest, 3, (some .boolean), wsX12_isRest, 1, 25, 0, 0)
theorem hd_X12_isRest : (yX12_isRest).cls ≠ "java/lang/invoke/MethodHandle" ∧ (yX12_isRest).cls ≠ "java/lang/invoke/VarHandle" ∧ (parseMethodDescriptor (yX12_isRest).desc).map (fun d => d.parameters.length) = some 2 := by decide +kernel
noncomputable abbrev M_X12_dartsAt : MD := (yX12_dartsAt, cX12_dartsAt, 3, (some .double), wsX12_dartsAt, 5, 125, 0, 0)
theorem hd_X12_dartsAt : (yX12_dartsAt).cls ≠ "java/lang/invoke/MethodHandle" ∧ (yX12_dartsAt).cls ≠ "java/lang/invoke/VarHandle" ∧ (parseMethodDescriptor (yX12_dartsAt).desc).map (fun d => d.parameters.length) = some 2 := by decide +kernel
noncomputable abbrev M_X12_mayAsk : MD := (yX12_mayAsk, cX12_mayAsk, 3, (some .boolean), wsX12_mayAsk, 2, 47, 0, 0)
theorem hd_X12_mayAsk : (yX12_mayAsk).cls ≠ "java/lang/invoke/MethodHandle" ∧ (yX12_mayAsk).cls ≠ "java/lang/invoke/VarHandle" ∧ (parseMethodDescriptor (yX12_mayAsk).desc).map (fun d => d.parameters.length) = some 2 := by decide +kernel
noncomputable abbrev M_X12_darts : MD := (yX12_darts, cX12_darts, 3, (some .long), wsX12_darts, 6, 147, 0, 0)
theorem hd_X12_darts : (yX12_darts).cls ≠ "java/lang/invoke/MethodHandle" ∧ (yX12_darts).cls ≠ "java/lang/invoke/VarHandle" ∧ (parseMethodDescriptor (yX12_darts).desc).map (fun d => d.parameters.length) = some 2 := by decide +kernel
noncomputable abbrev M_X12_dartsCut : MD := (yX12_dartsCut, cX12_dartsCut, 3, (some .int), wsX12_dartsCut, 6, 147, 0, 0)
theorem hd_X12_dartsCut : (yX12_dartsCut).cls ≠ "java/lang/invoke/MethodHandle" ∧ (yX12_dartsCut).cls ≠ "java/lang/invoke/VarHandle" ∧ (parseMethodDescriptor (yX12_dartsCut).desc).map (fun d => d.parameters.length) = some 2 := by decide +kernel
noncomputable abbrev M_X12_thousandths : MD := (yX12_thousandths, cX12_thousandths, 3, (some .int), wsX12_thousandths, 6, 147, 0, 0)
theorem hd_X12_thousandths : (yX12_thousandths).cls ≠ "java/lang/invoke/MethodHandle" ∧ (yX12_thousandths).cls ≠ "java/lang/invoke/VarHandle" ∧ (parseMethodDescriptor (yX12_thousandths).desc).map (fun d => d.parameters.length) = some 2 := by decide +kernel
noncomputable abbrev M_X12_aim : MD := (yX12_aim, cX12_aim, 3, (some .int), wsX12_aim, 5, 125, 0, 0)
theorem hd_X12_aim : (yX12_aim).cls ≠ "java/lang/invoke/MethodHandle" ∧ (yX12_aim).cls ≠ "java/lang/invoke/VarHandle" ∧ (parseMethodDescriptor (yX12_aim).desc).map (fun d => d.parameters.length) = some 2 := by decide +kernel
noncomputable abbrev M_X12_chanceValue : MD := (yX12_chanceValue, cX12_chanceValue, 9, (some .double), wsX12_chanceValue, 3, 67, 0, 0)
theorem hd_X12_chanceValue : (yX12_chanceValue).cls ≠ "java/lang/invoke/MethodHandle" ∧ (yX12_chanceValue).cls ≠ "java/lang/invoke/VarHandle" ∧ (parseMethodDescriptor (yX12_chanceValue).desc).map (fun d => d.parameters.length) = some 2 := by decide +kernel
noncomputable abbrev M_X12_layChance : MD := (yX12_layChance, cX12_layChance, 8, none, wsX12_layChance, 4, 95, 0, 0)
theorem hd_X12_layChance : (yX12_layChance).cls ≠ "java/lang/invoke/MethodHandle" ∧ (yX12_layChance).cls ≠ "java/lang/invoke/VarHandle" ∧ (parseMethodDescriptor (yX12_layChance).desc).map (fun d => d.parameters.length) = some 2 := by decide +kernel
noncomputable abbrev M_X12_chanceAt : MD := (yX12_chanceAt, cX12_chanceAt, 6, (some .double), wsX12_chanceAt, 5, 122, 0, 0)
theorem hd_X12_chanceAt : (yX12_chanceAt).cls ≠ "java/lang/invoke/MethodHandle" ∧ (yX12_chanceAt).cls ≠ "java/lang/invoke/VarHandle" ∧ (parseMethodDescriptor (yX12_chanceAt).desc).map (fun d => d.parameters.length) = some 3 := by decide +kernel
noncomputable abbrev M_X12_chance : MD := (yX12_chance, cX12_chance, 4, (some .long), wsX12_chance, 6, 147, 0, 0)
theorem hd_X12_chance : (yX12_chance).cls ≠ "java/lang/invoke/MethodHandle" ∧ (yX12_chance).cls ≠ "java/lang/invoke/VarHandle" ∧ (parseMethodDescriptor (yX12_chance).desc).map (fun d => d.parameters.length) = some 3 := by decide +kernel
noncomputable abbrev M_X12_chanceAim : MD := (yX12_chanceAim, cX12_chanceAim, 4, (some .int), wsX12_chanceAim, 6, 147, 0, 0)
theorem hd_X12_chanceAim : (yX12_chanceAim).cls ≠ "java/lang/invoke/MethodHandle" ∧ (yX12_chanceAim).cls ≠ "java/lang/invoke/VarHandle" ∧ (parseMethodDescriptor (yX12_chanceAim).desc).map (fun d => d.parameters.length) = some 3 := by decide +kernel
noncomputable abbrev M_X12_keepBoth : MD := (yX12_keepBoth, cX12_keepBoth, 4, none, wsX12_keepBoth, 4, 94, 0, 0)
theorem hd_X12_keepBoth : (yX12_keepBoth).cls ≠ "java/lang/invoke/MethodHandle" ∧ (yX12_keepBoth).cls ≠ "java/lang/invoke/VarHandle" ∧ (parseMethodDescriptor (yX12_keepBoth).desc).map (fun d => d.parameters.length) = some 0 := by decide +kernel
noncomputable abbrev M_X12_lostBy : MD := (yX12_lostBy, cX12_lostBy, 4, (some .double), wsX12_lostBy, 0, 0, 0, 0)
theorem hd_X12_lostBy : (yX12_lostBy).cls ≠ "java/lang/invoke/MethodHandle" ∧ (yX12_lostBy).cls ≠ "java/lang/invoke/VarHandle" ∧ (parseMethodDescriptor (yX12_lostBy).desc).map (fun d => d.parameters.length) = some 3 := by decide +kernel
noncomputable abbrev M_X12_raceValue : MD := (yX12_raceValue, cX12_raceValue, 15, (some .double), wsX12_raceValue, 3, 67, 0, 0)
theorem hd_X12_raceValue : (yX12_raceValue).cls ≠ "java/lang/invoke/MethodHandle" ∧ (yX12_raceValue).cls ≠ "java/lang/invoke/VarHandle" ∧ (parseMethodDescriptor (yX12_raceValue).desc).map (fun d => d.parameters.length) = some 4 := by decide +kernel
noncomputable abbrev M_X12_bestRace : MD := (yX12_bestRace, cX12_bestRace, 9, (some .double), wsX12_bestRace, 4, 101, 0, 0)
theorem hd_X12_bestRace : (yX12_bestRace).cls ≠ "java/lang/invoke/MethodHandle" ∧ (yX12_bestRace).cls ≠ "java/lang/invoke/VarHandle" ∧ (parseMethodDescriptor (yX12_bestRace).desc).map (fun d => d.parameters.length) = some 3 := by decide +kernel
noncomputable abbrev M_X12_layPair : MD := (yX12_layPair, cX12_layPair, 9, none, wsX12_layPair, 5, 129, 0, 0)
theorem hd_X12_layPair : (yX12_layPair).cls ≠ "java/lang/invoke/MethodHandle" ∧ (yX12_layPair).cls ≠ "java/lang/invoke/VarHandle" ∧ (parseMethodDescriptor (yX12_layPair).desc).map (fun d => d.parameters.length) = some 2 := by decide +kernel
noncomputable abbrev M_X12_layRace : MD := (yX12_layRace, cX12_layRace, 4, none, wsX12_layRace, 6, 157, 0, 0)
theorem hd_X12_layRace : (yX12_layRace).cls ≠ "java/lang/invoke/MethodHandle" ∧ (yX12_layRace).cls ≠ "java/lang/invoke/VarHandle" ∧ (parseMethodDescriptor (yX12_layRace).desc).map (fun d => d.parameters.length) = some 0 := by decide +kernel
noncomputable abbrev M_X12_isRace : MD := (yX12_isRace, cX12_isRace, 4, (some .boolean), wsX12_isRace, 2, 47, 0, 0)
theorem hd_X12_isRace : (yX12_isRace).cls ≠ "java/lang/invoke/MethodHandle" ∧ (yX12_isRace).cls ≠ "java/lang/invoke/VarHandle" ∧ (parseMethodDescriptor (yX12_isRace).desc).map (fun d => d.parameters.length) = some 3 := by decide +kernel
noncomputable abbrev M_X12_race : MD := (yX12_race, cX12_race, 4, (some .long), wsX12_race, 7, 180, 0, 0)
theorem hd_X12_race : (yX12_race).cls ≠ "java/lang/invoke/MethodHandle" ∧ (yX12_race).cls ≠ "java/lang/invoke/VarHandle" ∧ (parseMethodDescriptor (yX12_race).desc).map (fun d => d.parameters.length) = some 3 := by decide +kernel
noncomputable abbrev M_X12_raceAim : MD := (yX12_raceAim, cX12_raceAim, 4, (some .int), wsX12_raceAim, 7, 180, 0, 0)
theorem hd_X12_raceAim : (yX12_raceAim).cls ≠ "java/lang/invoke/MethodHandle" ∧ (yX12_raceAim).cls ≠ "java/lang/invoke/VarHandle" ∧ (parseMethodDescriptor (yX12_raceAim).desc).map (fun d => d.parameters.length) = some 3 := by decide +kernel
noncomputable abbrev M_X12_settled : MD := (yX12_settled, cX12_settled, 3, (some .int), wsX12_settled, 7, 180, 0, 0)
theorem hd_X12_settled : (yX12_settled).cls ≠ "java/lang/invoke/MethodHandle" ∧ (yX12_settled).cls ≠ "java/lang/invoke/VarHandle" ∧ (parseMethodDescriptor (yX12_settled).desc).map (fun d => d.parameters.length) = some 2 := by decide +kernel
noncomputable abbrev M_X12_percent : MD := (yX12_percent, cX12_percent, 3, (some .int), wsX12_percent, 7, 180, 0, 0)
theorem hd_X12_percent : (yX12_percent).cls ≠ "java/lang/invoke/MethodHandle" ∧ (yX12_percent).cls ≠ "java/lang/invoke/VarHandle" ∧ (parseMethodDescriptor (yX12_percent).desc).map (fun d => d.parameters.length) = some 2 := by decide +kernel
noncomputable abbrev M_X12_endsOf : MD := (yX12_endsOf, cX12_endsOf, 4, (some .int), wsX12_endsOf, 3, 67, 0, 0)
theorem hd_X12_endsOf : (yX12_endsOf).cls ≠ "java/lang/invoke/MethodHandle" ∧ (yX12_endsOf).cls ≠ "java/lang/invoke/VarHandle" ∧ (parseMethodDescriptor (yX12_endsOf).desc).map (fun d => d.parameters.length) = some 1 := by decide +kernel
noncomputable abbrev M_X12_layEnds : MD := (yX12_layEnds, cX12_layEnds, 2, none, wsX12_layEnds, 4, 90, 0, 0)
theorem hd_X12_layEnds : (yX12_layEnds).cls ≠ "java/lang/invoke/MethodHandle" ∧ (yX12_layEnds).cls ≠ "java/lang/invoke/VarHandle" ∧ (parseMethodDescriptor (yX12_layEnds).desc).map (fun d => d.parameters.length) = some 0 := by decide +kernel
noncomputable abbrev M_X12_endsAt : MD := (yX12_endsAt, cX12_endsAt, 2, (some .int), wsX12_endsAt, 0, 0, 0, 0)
theorem hd_X12_endsAt : (yX12_endsAt).cls ≠ "java/lang/invoke/MethodHandle" ∧ (yX12_endsAt).cls ≠ "java/lang/invoke/VarHandle" ∧ (parseMethodDescriptor (yX12_endsAt).desc).map (fun d => d.parameters.length) = some 1 := by decide +kernel
noncomputable abbrev M_X12_waysByTwo : MD := (yX12_waysByTwo, cX12_waysByTwo, 4, (some .int), wsX12_waysByTwo, 3, 67, 0, 0)
theorem hd_X12_waysByTwo : (yX12_waysByTwo).cls ≠ "java/lang/invoke/MethodHandle" ∧ (yX12_waysByTwo).cls ≠ "java/lang/invoke/VarHandle" ∧ (parseMethodDescriptor (yX12_waysByTwo).desc).map (fun d => d.parameters.length) = some 1 := by decide +kernel
noncomputable abbrev M_X12_waysByThree : MD := (yX12_waysByThree, cX12_waysByThree, 4, (some .int), wsX12_waysByThree, 4, 90, 0, 0)
theorem hd_X12_waysByThree : (yX12_waysByThree).cls ≠ "java/lang/invoke/MethodHandle" ∧ (yX12_waysByThree).cls ≠ "java/lang/invoke/VarHandle" ∧ (parseMethodDescriptor (yX12_waysByThree).desc).map (fun d => d.parameters.length) = some 1 := by decide +kernel
noncomputable abbrev M_X12_waysBy : MD := (yX12_waysBy, cX12_waysBy, 3, (some .int), wsX12_waysBy, 5, 113, 0, 0)
theorem hd_X12_waysBy : (yX12_waysBy).cls ≠ "java/lang/invoke/MethodHandle" ∧ (yX12_waysBy).cls ≠ "java/lang/invoke/VarHandle" ∧ (parseMethodDescriptor (yX12_waysBy).desc).map (fun d => d.parameters.length) = some 2 := by decide +kernel
noncomputable abbrev M_X12_ways : MD := (yX12_ways, cX12_ways, 3, (some .int), wsX12_ways, 6, 135, 0, 0)
theorem hd_X12_ways : (yX12_ways).cls ≠ "java/lang/invoke/MethodHandle" ∧ (yX12_ways).cls ≠ "java/lang/invoke/VarHandle" ∧ (parseMethodDescriptor (yX12_ways).desc).map (fun d => d.parameters.length) = some 2 := by decide +kernel
noncomputable abbrev M_X12_waysBehind : MD := (yX12_waysBehind, cX12_waysBehind, 3, (some .int), wsX12_waysBehind, 6, 135, 0, 0)
theorem hd_X12_waysBehind : (yX12_waysBehind).cls ≠ "java/lang/invoke/MethodHandle" ∧ (yX12_waysBehind).cls ≠ "java/lang/invoke/VarHandle" ∧ (parseMethodDescriptor (yX12_waysBehind).desc).map (fun d => d.parameters.length) = some 2 := by decide +kernel
noncomputable abbrev M_X12_layWay : MD := (yX12_layWay, cX12_layWay, 8, (some .boolean), wsX12_layWay, 7, 157, 0, 0)
theorem hd_X12_layWay : (yX12_layWay).cls ≠ "java/lang/invoke/MethodHandle" ∧ (yX12_layWay).cls ≠ "java/lang/invoke/VarHandle" ∧ (parseMethodDescriptor (yX12_layWay).desc).map (fun d => d.parameters.length) = some 2 := by decide +kernel
noncomputable abbrev M_X12_way : MD := (yX12_way, cX12_way, 4, (some .int), wsX12_way, 8, 184, 0, 0)
theorem hd_X12_way : (yX12_way).cls ≠ "java/lang/invoke/MethodHandle" ∧ (yX12_way).cls ≠ "java/lang/invoke/VarHandle" ∧ (parseMethodDescriptor (yX12_way).desc).map (fun d => d.parameters.length) = some 3 := by decide +kernel
noncomputable abbrev M_X12_writes : MD := (yX12_writes, cX12_writes, 2, none, wsX12_writes, 0, 0, 0, 0)
theorem hd_X12_writes : (yX12_writes).cls ≠ "java/lang/invoke/MethodHandle" ∧ (yX12_writes).cls ≠ "java/lang/invoke/VarHandle" ∧ (parseMethodDescriptor (yX12_writes).desc).map (fun d => d.parameters.length) = some 1 := by decide +kernel
noncomputable abbrev M_X12_writesSpot : MD := (yX12_writesSpot, cX12_writesSpot, 3, none, wsX12_writesSpot, 2, 45, 0, 0)
theorem hd_X12_writesSpot : (yX12_writesSpot).cls ≠ "java/lang/invoke/MethodHandle" ∧ (yX12_writesSpot).cls ≠ "java/lang/invoke/VarHandle" ∧ (parseMethodDescriptor (yX12_writesSpot).desc).map (fun d => d.parameters.length) = some 1 := by decide +kernel
noncomputable abbrev M_X12_spell : MD := (yX12_spell, cX12_spell, 4, (some .int), wsX12_spell, 8, 184, 0, 0)
theorem hd_X12_spell : (yX12_spell).cls ≠ "java/lang/invoke/MethodHandle" ∧ (yX12_spell).cls ≠ "java/lang/invoke/VarHandle" ∧ (parseMethodDescriptor (yX12_spell).desc).map (fun d => d.parameters.length) = some 2 := by decide +kernel
noncomputable abbrev M_X12_paper : MD := (yX12_paper, cX12_paper, 2, (some .int), wsX12_paper, 1, 25, 0, 0)
theorem hd_X12_paper : (yX12_paper).cls ≠ "java/lang/invoke/MethodHandle" ∧ (yX12_paper).cls ≠ "java/lang/invoke/VarHandle" ∧ (parseMethodDescriptor (yX12_paper).desc).map (fun d => d.parameters.length) = some 1 := by decide +kernel
noncomputable abbrev M_X12_beginsLeg : MD := (yX12_beginsLeg, cX12_beginsLeg, 2, none, wsX12_beginsLeg, 1, 21, 0, 0)
theorem hd_X12_beginsLeg : (yX12_beginsLeg).cls ≠ "java/lang/invoke/MethodHandle" ∧ (yX12_beginsLeg).cls ≠ "java/lang/invoke/VarHandle" ∧ (parseMethodDescriptor (yX12_beginsLeg).desc).map (fun d => d.parameters.length) = some 1 := by decide +kernel
noncomputable abbrev M_X12_beginsVisit : MD := (yX12_beginsVisit, cX12_beginsVisit, 2, none, wsX12_beginsVisit, 0, 0, 0, 0)
theorem hd_X12_beginsVisit : (yX12_beginsVisit).cls ≠ "java/lang/invoke/MethodHandle" ∧ (yX12_beginsVisit).cls ≠ "java/lang/invoke/VarHandle" ∧ (parseMethodDescriptor (yX12_beginsVisit).desc).map (fun d => d.parameters.length) = some 1 := by decide +kernel
noncomputable abbrev M_X12_start : MD := (yX12_start, cX12_start, 3, (some .int), wsX12_start, 2, 42, 0, 0)
theorem hd_X12_start : (yX12_start).cls ≠ "java/lang/invoke/MethodHandle" ∧ (yX12_start).cls ≠ "java/lang/invoke/VarHandle" ∧ (parseMethodDescriptor (yX12_start).desc).map (fun d => d.parameters.length) = some 1 := by decide +kernel
noncomputable abbrev M_X12_fallsUpon : MD := (yX12_fallsUpon, cX12_fallsUpon, 5, (some .int), wsX12_fallsUpon, 3, 67, 0, 0)
theorem hd_X12_fallsUpon : (yX12_fallsUpon).cls ≠ "java/lang/invoke/MethodHandle" ∧ (yX12_fallsUpon).cls ≠ "java/lang/invoke/VarHandle" ∧ (parseMethodDescriptor (yX12_fallsUpon).desc).map (fun d => d.parameters.length) = some 1 := by decide +kernel
noncomputable abbrev M_X12_thrown : MD := (yX12_thrown, cX12_thrown, 2, (some .int), wsX12_thrown, 4, 91, 0, 0)
theorem hd_X12_thrown : (yX12_thrown).cls ≠ "java/lang/invoke/MethodHandle" ∧ (yX12_thrown).cls ≠ "java/lang/invoke/VarHandle" ∧ (parseMethodDescriptor (yX12_thrown).desc).map (fun d => d.parameters.length) = some 1 := by decide +kernel
noncomputable abbrev M_X12_drawn : MD := (yX12_drawn, cX12_drawn, 5, (some .int), wsX12_drawn, 3, 71, 0, 0)
theorem hd_X12_drawn : (yX12_drawn).cls ≠ "java/lang/invoke/MethodHandle" ∧ (yX12_drawn).cls ≠ "java/lang/invoke/VarHandle" ∧ (parseMethodDescriptor (yX12_drawn).desc).map (fun d => d.parameters.length) = some 1 := by decide +kernel
noncomputable abbrev M_X12_throwsAt : MD := (yX12_throwsAt, cX12_throwsAt, 3, (some .int), wsX12_throwsAt, 4, 95, 0, 0)
theorem hd_X12_throwsAt : (yX12_throwsAt).cls ≠ "java/lang/invoke/MethodHandle" ∧ (yX12_throwsAt).cls ≠ "java/lang/invoke/VarHandle" ∧ (parseMethodDescriptor (yX12_throwsAt).desc).map (fun d => d.parameters.length) = some 1 := by decide +kernel
noncomputable abbrev M_X12_minds : MD := (yX12_minds, cX12_minds, 6, (some .int), wsX12_minds, 5, 125, 0, 0)
theorem hd_X12_minds : (yX12_minds).cls ≠ "java/lang/invoke/MethodHandle" ∧ (yX12_minds).cls ≠ "java/lang/invoke/VarHandle" ∧ (parseMethodDescriptor (yX12_minds).desc).map (fun d => d.parameters.length) = some 1 := by decide +kernel
noncomputable abbrev M_X12_seed : MD := (yX12_seed, cX12_seed, 3, (some .int), wsX12_seed, 0, 0, 0, 0)
theorem hd_X12_seed : (yX12_seed).cls ≠ "java/lang/invoke/MethodHandle" ∧ (yX12_seed).cls ≠ "java/lang/invoke/VarHandle" ∧ (parseMethodDescriptor (yX12_seed).desc).map (fun d => d.parameters.length) = some 1 := by decide +kernel
noncomputable abbrev M_X12_average : MD := (yX12_average, cX12_average, 2, (some .int), wsX12_average, 2, 60, 0, 0)
theorem hd_X12_average : (yX12_average).cls ≠ "java/lang/invoke/MethodHandle" ∧ (yX12_average).cls ≠ "java/lang/invoke/VarHandle" ∧ (parseMethodDescriptor (yX12_average).desc).map (fun d => d.parameters.length) = some 1 := by decide +kernel
noncomputable abbrev M_X12_told : MD := (yX12_told, cX12_told, 2, (some .int), wsX12_told, 3, 68, 0, 0)
theorem hd_X12_told : (yX12_told).cls ≠ "java/lang/invoke/MethodHandle" ∧ (yX12_told).cls ≠ "java/lang/invoke/VarHandle" ∧ (parseMethodDescriptor (yX12_told).desc).map (fun d => d.parameters.length) = some 1 := by decide +kernel
noncomputable abbrev M_X12_toldOf : MD := (yX12_toldOf, cX12_toldOf, 4, (some .int), wsX12_toldOf, 2, 45, 0, 0)
theorem hd_X12_toldOf : (yX12_toldOf).cls ≠ "java/lang/invoke/MethodHandle" ∧ (yX12_toldOf).cls ≠ "java/lang/invoke/VarHandle" ∧ (parseMethodDescriptor (yX12_toldOf).desc).map (fun d => d.parameters.length) = some 3 := by decide +kernel
noncomputable abbrev M_X12_feed : MD := (yX12_feed, cX12_feed, 2, (some .int), wsX12_feed, 1, 25, 0, 0)
theorem hd_X12_feed : (yX12_feed).cls ≠ "java/lang/invoke/MethodHandle" ∧ (yX12_feed).cls ≠ "java/lang/invoke/VarHandle" ∧ (parseMethodDescriptor (yX12_feed).desc).map (fun d => d.parameters.length) = some 1 := by decide +kernel
noncomputable abbrev M_X12_clear : MD := (yX12_clear, cX12_clear, 2, (some .int), wsX12_clear, 0, 0, 0, 0)
theorem hd_X12_clear : (yX12_clear).cls ≠ "java/lang/invoke/MethodHandle" ∧ (yX12_clear).cls ≠ "java/lang/invoke/VarHandle" ∧ (parseMethodDescriptor (yX12_clear).desc).map (fun d => d.parameters.length) = some 0 := by decide +kernel
noncomputable abbrev M_X12_here : MD := (yX12_here, cX12_here, 1, (some .int), wsX12_here, 0, 0, 0, 0)
theorem hd_X12_here : (yX12_here).cls ≠ "java/lang/invoke/MethodHandle" ∧ (yX12_here).cls ≠ "java/lang/invoke/VarHandle" ∧ (parseMethodDescriptor (yX12_here).desc).map (fun d => d.parameters.length) = some 0 := by decide +kernel
noncomputable abbrev M_X12_wants : MD := (yX12_wants, cX12_wants, 2, none, wsX12_wants, 1, 20, 0, 0)
theorem hd_X12_wants : (yX12_wants).cls ≠ "java/lang/invoke/MethodHandle" ∧ (yX12_wants).cls ≠ "java/lang/invoke/VarHandle" ∧ (parseMethodDescriptor (yX12_wants).desc).map (fun d => d.parameters.length) = some 1 := by decide +kernel
noncomputable abbrev M_X12_readNumber : MD := (yX12_readNumber, cX12_readNumber, 4, (some .int), wsX12_readNumber, 1, 25, 0, 0)
theorem hd_X12_readNumber : (yX12_readNumber).cls ≠ "java/lang/invoke/MethodHandle" ∧ (yX12_readNumber).cls ≠ "java/lang/invoke/VarHandle" ∧ (parseMethodDescriptor (yX12_readNumber).desc).map (fun d => d.parameters.length) = some 0 := by decide +kernel
noncomputable abbrev M_X12_readSpot : MD := (yX12_readSpot, cX12_readSpot, 2, (some .int), wsX12_readSpot, 2, 48, 0, 0)
theorem hd_X12_readSpot : (yX12_readSpot).cls ≠ "java/lang/invoke/MethodHandle" ∧ (yX12_readSpot).cls ≠ "java/lang/invoke/VarHandle" ∧ (parseMethodDescriptor (yX12_readSpot).desc).map (fun d => d.parameters.length) = some 0 := by decide +kernel
noncomputable abbrev M_X12_readPath : MD := (yX12_readPath, cX12_readPath, 3, (some .boolean), wsX12_readPath, 3, 69, 0, 0)
theorem hd_X12_readPath : (yX12_readPath).cls ≠ "java/lang/invoke/MethodHandle" ∧ (yX12_readPath).cls ≠ "java/lang/invoke/VarHandle" ∧ (parseMethodDescriptor (yX12_readPath).desc).map (fun d => d.parameters.length) = some 0 := by decide +kernel
noncomputable abbrev M_X12_judgedFrom : MD := (yX12_judgedFrom, cX12_judgedFrom, 5, (some .int), wsX12_judgedFrom, 3, 67, 0, 0)
theorem hd_X12_judgedFrom : (yX12_judgedFrom).cls ≠ "java/lang/invoke/MethodHandle" ∧ (yX12_judgedFrom).cls ≠ "java/lang/invoke/VarHandle" ∧ (parseMethodDescriptor (yX12_judgedFrom).desc).map (fun d => d.parameters.length) = some 1 := by decide +kernel
noncomputable abbrev M_X12_judge : MD := (yX12_judge, cX12_judge, 2, (some .int), wsX12_judge, 4, 91, 0, 0)
theorem hd_X12_judge : (yX12_judge).cls ≠ "java/lang/invoke/MethodHandle" ∧ (yX12_judge).cls ≠ "java/lang/invoke/VarHandle" ∧ (parseMethodDescriptor (yX12_judge).desc).map (fun d => d.parameters.length) = some 1 := by decide +kernel
noncomputable abbrev M_X12_play : MD := (yX12_play, cX12_play, 3, (some .int), wsX12_play, 4, 91, 0, 0)
theorem hd_X12_play : (yX12_play).cls ≠ "java/lang/invoke/MethodHandle" ∧ (yX12_play).cls ≠ "java/lang/invoke/VarHandle" ∧ (parseMethodDescriptor (yX12_play).desc).map (fun d => d.parameters.length) = some 0 := by decide +kernel
noncomputable abbrev M_X12_isRack : MD := (yX12_isRack, cX12_isRack, 1, (some .boolean), wsX12_isRack, 1, 25, 0, 0)
theorem hd_X12_isRack : (yX12_isRack).cls ≠ "java/lang/invoke/MethodHandle" ∧ (yX12_isRack).cls ≠ "java/lang/invoke/VarHandle" ∧ (parseMethodDescriptor (yX12_isRack).desc).map (fun d => d.parameters.length) = some 1 := by decide +kernel
noncomputable abbrev M_X12_rack : MD := (yX12_rack, cX12_rack, 5, (some .int), wsX12_rack, 2, 45, 0, 0)
theorem hd_X12_rack : (yX12_rack).cls ≠ "java/lang/invoke/MethodHandle" ∧ (yX12_rack).cls ≠ "java/lang/invoke/VarHandle" ∧ (parseMethodDescriptor (yX12_rack).desc).map (fun d => d.parameters.length) = some 3 := by decide +kernel
noncomputable abbrev M_X12_lays : MD := (yX12_lays, cX12_lays, 4, (some .int), wsX12_lays, 2, 45, 0, 0)
theorem hd_X12_lays : (yX12_lays).cls ≠ "java/lang/invoke/MethodHandle" ∧ (yX12_lays).cls ≠ "java/lang/invoke/VarHandle" ∧ (parseMethodDescriptor (yX12_lays).desc).map (fun d => d.parameters.length) = some 3 := by decide +kernel
noncomputable abbrev M_X12_laid : MD := (yX12_laid, cX12_laid, 3, (some .int), wsX12_laid, 2, 45, 0, 0)
theorem hd_X12_laid : (yX12_laid).cls ≠ "java/lang/invoke/MethodHandle" ∧ (yX12_laid).cls ≠ "java/lang/invoke/VarHandle" ∧ (parseMethodDescriptor (yX12_laid).desc).map (fun d => d.parameters.length) = some 2 := by decide +kernel
noncomputable abbrev M_X12_like : MD := (yX12_like, cX12_like, 4, (some .int), wsX12_like, 2, 45, 0, 0)
theorem hd_X12_like : (yX12_like).cls ≠ "java/lang/invoke/MethodHandle" ∧ (yX12_like).cls ≠ "java/lang/invoke/VarHandle" ∧ (parseMethodDescriptor (yX12_like).desc).map (fun d => d.parameters.length) = some 2 := by decide +kernel
noncomputable abbrev M_X12_judged : MD := (yX12_judged, cX12_judged, 5, (some .int), wsX12_judged, 4, 91, 0, 0)
theorem hd_X12_judged : (yX12_judged).cls ≠ "java/lang/invoke/MethodHandle" ∧ (yX12_judged).cls ≠ "java/lang/invoke/VarHandle" ∧ (parseMethodDescriptor (yX12_judged).desc).map (fun d => d.parameters.length) = some 3 := by decide +kernel
noncomputable abbrev M_X12_image : MD := (yX12_image, cX12_image, 2, (some .int), wsX12_image, 0, 0, 0, 0)
theorem hd_X12_image : (yX12_image).cls ≠ "java/lang/invoke/MethodHandle" ∧ (yX12_image).cls ≠ "java/lang/invoke/VarHandle" ∧ (parseMethodDescriptor (yX12_image).desc).map (fun d => d.parameters.length) = some 0 := by decide +kernel
noncomputable abbrev M_X12_undo : MD := (yX12_undo, cX12_undo, 2, (some .int), wsX12_undo, 0, 0, 0, 0)
theorem hd_X12_undo : (yX12_undo).cls ≠ "java/lang/invoke/MethodHandle" ∧ (yX12_undo).cls ≠ "java/lang/invoke/VarHandle" ∧ (parseMethodDescriptor (yX12_undo).desc).map (fun d => d.parameters.length) = some 0 := by decide +kernel
noncomputable abbrev M_Jxe99ae_isNaN_b9ae7 : MD := (yJxe99ae_isNaN_b9ae7, cJxe99ae_isNaN_b9ae7, 2, (some .boolean), wsJxe99ae_isNaN_b9ae7, 0, 0, 0, 0)
theorem hd_Jxe99ae_isNaN_b9ae7 : (yJxe99ae_isNaN_b9ae7).cls ≠ "java/lang/invoke/MethodHandle" ∧ (yJxe99ae_isNaN_b9ae7).cls ≠ "java/lang/invoke/VarHandle" ∧ (parseMethodDescriptor (yJxe99ae_isNaN_b9ae7).desc).map (fun d => d.parameters.length) = some 1 := by decide +kernel
noncomputable abbrev M_Jxe99ae_doubleToLongBits_ccdee : MD := (yJxe99ae_doubleToLongBits_ccdee, cJxe99ae_doubleToLongBits_ccdee, 2, (some .long), wsJxe99ae_doubleToLongBits_ccdee, 1, 40, 0, 0)
theorem hd_Jxe99ae_doubleToLongBits_ccdee : (yJxe99ae_doubleToLongBits_ccdee).cls ≠ "java/lang/invoke/MethodHandle" ∧ (yJxe99ae_doubleToLongBits_ccdee).cls ≠ "java/lang/invoke/VarHandle" ∧ (parseMethodDescriptor (yJxe99ae_doubleToLongBits_ccdee).desc).map (fun d => d.parameters.length) = some 1 := by decide +kernel
noncomputable abbrev M_Jxf58ca_isNaN_12338 : MD := (yJxf58ca_isNaN_12338, cJxf58ca_isNaN_12338, 1, (some .boolean), wsJxf58ca_isNaN_12338, 0, 0, 0, 0)
theorem hd_Jxf58ca_isNaN_12338 : (yJxf58ca_isNaN_12338).cls ≠ "java/lang/invoke/MethodHandle" ∧ (yJxf58ca_isNaN_12338).cls ≠ "java/lang/invoke/VarHandle" ∧ (parseMethodDescriptor (yJxf58ca_isNaN_12338).desc).map (fun d => d.parameters.length) = some 1 := by decide +kernel
noncomputable abbrev M_Jxf58ca_floatToIntBits_5c35a : MD := (yJxf58ca_floatToIntBits_5c35a, cJxf58ca_floatToIntBits_5c35a, 1, (some .int), wsJxf58ca_floatToIntBits_5c35a, 1, 40, 0, 0)
theorem hd_Jxf58ca_floatToIntBits_5c35a : (yJxf58ca_floatToIntBits_5c35a).cls ≠ "java/lang/invoke/MethodHandle" ∧ (yJxf58ca_floatToIntBits_5c35a).cls ≠ "java/lang/invoke/VarHandle" ∧ (parseMethodDescriptor (yJxf58ca_floatToIntBits_5c35a).desc).map (fun d => d.parameters.length) = some 1 := by decide +kernel
noncomputable abbrev M_J9_floorMod_7cf53 : MD := (yJ9_floorMod_7cf53, cJ9_floorMod_7cf53, 3, (some .int), wsJ9_floorMod_7cf53, 0, 0, 0, 0)
theorem hd_J9_floorMod_7cf53 : (yJ9_floorMod_7cf53).cls ≠ "java/lang/invoke/MethodHandle" ∧ (yJ9_floorMod_7cf53).cls ≠ "java/lang/invoke/VarHandle" ∧ (parseMethodDescriptor (yJ9_floorMod_7cf53).desc).map (fun d => d.parameters.length) = some 2 := by decide +kernel
noncomputable abbrev M_J7_fill_53178 : MD := (yJ7_fill_53178, cJ7_fill_53178, 4, none, wsJ7_fill_53178, 0, 0, 0, 0)
theorem hd_J7_fill_53178 : (yJ7_fill_53178).cls ≠ "java/lang/invoke/MethodHandle" ∧ (yJ7_fill_53178).cls ≠ "java/lang/invoke/VarHandle" ∧ (parseMethodDescriptor (yJ7_fill_53178).desc).map (fun d => d.parameters.length) = some 2 := by decide +kernel
noncomputable abbrev M_L_law : MD := (yL_law, cL_law, 4, ret, lw_tbl, 11, 414, 600000, 7302250)
theorem xc_Jxe99ae_doubleToLongBits_ccdee__Jxe99ae_isNaN_b9ae7 : XCall M_Jxe99ae_doubleToLongBits_ccdee M_Jxe99ae_isNaN_b9ae7 1 0 0 (mW M_Jxe99ae_isNaN_b9ae7).tail := ⟨rfl, hd_Jxe99ae_isNaN_b9ae7, ⟨by decide, by decide⟩, by decide, by decide⟩
theorem xc_Jxf58ca_floatToIntBits_5c35a__Jxf58ca_isNaN_12338 : XCall M_Jxf58ca_floatToIntBits_5c35a M_Jxf58ca_isNaN_12338 1 0 0 (mW M_Jxf58ca_isNaN_12338).tail := ⟨rfl, hd_Jxf58ca_isNaN_12338, ⟨by decide, by decide⟩, by decide, by decide⟩
theorem xc_L_law__X11_aim : XCall M_L_law M_X11_aim 2 0 0 (mW M_X11_aim).tail := ⟨rfl, hd_X11_aim, ⟨by decide, by decide⟩, by decide, by decide⟩
theorem xc_L_law__X11_average : XCall M_L_law M_X11_average 1 0 0 (mW M_X11_average).tail := ⟨rfl, hd_X11_average, ⟨by decide, by decide⟩, by decide, by decide⟩
theorem xc_L_law__X11_chance : XCall M_L_law M_X11_chance 3 0 0 (mW M_X11_chance).tail := ⟨rfl, hd_X11_chance, ⟨by decide, by decide⟩, by decide, by decide⟩
theorem xc_L_law__X11_chanceAim : XCall M_L_law M_X11_chanceAim 3 0 0 (mW M_X11_chanceAim).tail := ⟨rfl, hd_X11_chanceAim, ⟨by decide, by decide⟩, by decide, by decide⟩
theorem xc_L_law__X11_clear : XCall M_L_law M_X11_clear 0 0 0 (mW M_X11_clear).tail := ⟨rfl, hd_X11_clear, ⟨by decide, by decide⟩, by decide, by decide⟩
theorem xc_L_law__X11_darts : XCall M_L_law M_X11_darts 2 0 0 (mW M_X11_darts).tail := ⟨rfl, hd_X11_darts, ⟨by decide, by decide⟩, by decide, by decide⟩
theorem xc_L_law__X11_dartsCut : XCall M_L_law M_X11_dartsCut 2 0 0 (mW M_X11_dartsCut).tail := ⟨rfl, hd_X11_dartsCut, ⟨by decide, by decide⟩, by decide, by decide⟩
theorem xc_L_law__X11_fall : XCall M_L_law M_X11_fall 4 0 0 (mW M_X11_fall).tail := ⟨rfl, hd_X11_fall, ⟨by decide, by decide⟩, by decide, by decide⟩
theorem xc_L_law__X11_falls : XCall M_L_law M_X11_falls 2 0 0 (mW M_X11_falls).tail := ⟨rfl, hd_X11_falls, ⟨by decide, by decide⟩, by decide, by decide⟩
theorem xc_L_law__X11_feed : XCall M_L_law M_X11_feed 1 0 0 (mW M_X11_feed).tail := ⟨rfl, hd_X11_feed, ⟨by decide, by decide⟩, by decide, by decide⟩
theorem xc_L_law__X11_hand : XCall M_L_law M_X11_hand 3 0 0 (mW M_X11_hand).tail := ⟨rfl, hd_X11_hand, ⟨by decide, by decide⟩, by decide, by decide⟩
theorem xc_L_law__X11_image : XCall M_L_law M_X11_image 0 0 0 (mW M_X11_image).tail := ⟨rfl, hd_X11_image, ⟨by decide, by decide⟩, by decide, by decide⟩
theorem xc_L_law__X11_judge : XCall M_L_law M_X11_judge 1 0 0 (mW M_X11_judge).tail := ⟨rfl, hd_X11_judge, ⟨by decide, by decide⟩, by decide, by decide⟩
theorem xc_L_law__X11_judged : XCall M_L_law M_X11_judged 3 0 0 (mW M_X11_judged).tail := ⟨rfl, hd_X11_judged, ⟨by decide, by decide⟩, by decide, by decide⟩
theorem xc_L_law__X11_laid : XCall M_L_law M_X11_laid 2 0 0 (mW M_X11_laid).tail := ⟨rfl, hd_X11_laid, ⟨by decide, by decide⟩, by decide, by decide⟩
theorem xc_L_law__X11_lays : XCall M_L_law M_X11_lays 3 0 0 (mW M_X11_lays).tail := ⟨rfl, hd_X11_lays, ⟨by decide, by decide⟩, by decide, by decide⟩
theorem xc_L_law__X11_like : XCall M_L_law M_X11_like 2 0 0 (mW M_X11_like).tail := ⟨rfl, hd_X11_like, ⟨by decide, by decide⟩, by decide, by decide⟩
theorem xc_L_law__X11_minds : XCall M_L_law M_X11_minds 1 0 0 (mW M_X11_minds).tail := ⟨rfl, hd_X11_minds, ⟨by decide, by decide⟩, by decide, by decide⟩
theorem xc_L_law__X11_out : XCall M_L_law M_X11_out 1 0 0 (mW M_X11_out).tail := ⟨rfl, hd_X11_out, ⟨by decide, by decide⟩, by decide, by decide⟩
theorem xc_L_law__X11_paper : XCall M_L_law M_X11_paper 1 0 0 (mW M_X11_paper).tail := ⟨rfl, hd_X11_paper, ⟨by decide, by decide⟩, by decide, by decide⟩
theorem xc_L_law__X11_percent : XCall M_L_law M_X11_percent 2 0 0 (mW M_X11_percent).tail := ⟨rfl, hd_X11_percent, ⟨by decide, by decide⟩, by decide, by decide⟩
theorem xc_L_law__X11_play : XCall M_L_law M_X11_play 0 0 0 (mW M_X11_play).tail := ⟨rfl, hd_X11_play, ⟨by decide, by decide⟩, by decide, by decide⟩
theorem xc_L_law__X11_race : XCall M_L_law M_X11_race 3 0 0 (mW M_X11_race).tail := ⟨rfl, hd_X11_race, ⟨by decide, by decide⟩, by decide, by decide⟩
theorem xc_L_law__X11_raceAim : XCall M_L_law M_X11_raceAim 3 0 0 (mW M_X11_raceAim).tail := ⟨rfl, hd_X11_raceAim, ⟨by decide, by decide⟩, by decide, by decide⟩
theorem xc_L_law__X11_rack : XCall M_L_law M_X11_rack 3 0 0 (mW M_X11_rack).tail := ⟨rfl, hd_X11_rack, ⟨by decide, by decide⟩, by decide, by decide⟩
theorem xc_L_law__X11_seed : XCall M_L_law M_X11_seed 1 0 0 (mW M_X11_seed).tail := ⟨rfl, hd_X11_seed, ⟨by decide, by decide⟩, by decide, by decide⟩
theorem xc_L_law__X11_settled : XCall M_L_law M_X11_settled 2 0 0 (mW M_X11_settled).tail := ⟨rfl, hd_X11_settled, ⟨by decide, by decide⟩, by decide, by decide⟩
theorem xc_L_law__X11_spell : XCall M_L_law M_X11_spell 2 0 0 (mW M_X11_spell).tail := ⟨rfl, hd_X11_spell, ⟨by decide, by decide⟩, by decide, by decide⟩
theorem xc_L_law__X11_spot : XCall M_L_law M_X11_spot 2 0 0 (mW M_X11_spot).tail := ⟨rfl, hd_X11_spot, ⟨by decide, by decide⟩, by decide, by decide⟩
theorem xc_L_law__X11_start : XCall M_L_law M_X11_start 1 0 0 (mW M_X11_start).tail := ⟨rfl, hd_X11_start, ⟨by decide, by decide⟩, by decide, by decide⟩
theorem xc_L_law__X11_thousandths : XCall M_L_law M_X11_thousandths 2 0 0 (mW M_X11_thousandths).tail := ⟨rfl, hd_X11_thousandths, ⟨by decide, by decide⟩, by decide, by decide⟩
theorem xc_L_law__X11_thrown : XCall M_L_law M_X11_thrown 1 0 0 (mW M_X11_thrown).tail := ⟨rfl, hd_X11_thrown, ⟨by decide, by decide⟩, by decide, by decide⟩
theorem xc_L_law__X11_throwsAt : XCall M_L_law M_X11_throwsAt 1 0 0 (mW M_X11_throwsAt).tail := ⟨rfl, hd_X11_throwsAt, ⟨by decide, by decide⟩, by decide, by decide⟩
theorem xc_L_law__X11_told : XCall M_L_law M_X11_told 1 0 0 (mW M_X11_told).tail := ⟨rfl, hd_X11_told, ⟨by decide, by decide⟩, by decide, by decide⟩
theorem xc_L_law__X11_under : XCall M_L_law M_X11_under 2 0 0 (mW M_X11_under).tail := ⟨rfl, hd_X11_under, ⟨by decide, by decide⟩, by decide, by decide⟩
theorem xc_L_law__X11_undo : XCall M_L_law M_X11_undo 0 0 0 (mW M_X11_undo).tail := ⟨rfl, hd_X11_undo, ⟨by decide, by decide⟩, by decide, by decide⟩
theorem xc_L_law__X11_way : XCall M_L_law M_X11_way 3 0 0 (mW M_X11_way).tail := ⟨rfl, hd_X11_way, ⟨by decide, by decide⟩, by decide, by decide⟩
theorem xc_L_law__X11_ways : XCall M_L_law M_X11_ways 2 0 0 (mW M_X11_ways).tail := ⟨rfl, hd_X11_ways, ⟨by decide, by decide⟩, by decide, by decide⟩
theorem xc_L_law__X12_aim : XCall M_L_law M_X12_aim 2 0 0 (mW M_X12_aim).tail := ⟨rfl, hd_X12_aim, ⟨by decide, by decide⟩, by decide, by decide⟩
theorem xc_L_law__X12_average : XCall M_L_law M_X12_average 1 0 0 (mW M_X12_average).tail := ⟨rfl, hd_X12_average, ⟨by decide, by decide⟩, by decide, by decide⟩
theorem xc_L_law__X12_chance : XCall M_L_law M_X12_chance 3 0 0 (mW M_X12_chance).tail := ⟨rfl, hd_X12_chance, ⟨by decide, by decide⟩, by decide, by decide⟩
theorem xc_L_law__X12_chanceAim : XCall M_L_law M_X12_chanceAim 3 0 0 (mW M_X12_chanceAim).tail := ⟨rfl, hd_X12_chanceAim, ⟨by decide, by decide⟩, by decide, by decide⟩
theorem xc_L_law__X12_clear : XCall M_L_law M_X12_clear 0 0 0 (mW M_X12_clear).tail := ⟨rfl, hd_X12_clear, ⟨by decide, by decide⟩, by decide, by decide⟩
theorem xc_L_law__X12_darts : XCall M_L_law M_X12_darts 2 0 0 (mW M_X12_darts).tail := ⟨rfl, hd_X12_darts, ⟨by decide, by decide⟩, by decide, by decide⟩
theorem xc_L_law__X12_dartsCut : XCall M_L_law M_X12_dartsCut 2 0 0 (mW M_X12_dartsCut).tail := ⟨rfl, hd_X12_dartsCut, ⟨by decide, by decide⟩, by decide, by decide⟩
theorem xc_L_law__X12_fall : XCall M_L_law M_X12_fall 4 0 0 (mW M_X12_fall).tail := ⟨rfl, hd_X12_fall, ⟨by decide, by decide⟩, by decide, by decide⟩
theorem xc_L_law__X12_falls : XCall M_L_law M_X12_falls 2 0 0 (mW M_X12_falls).tail := ⟨rfl, hd_X12_falls, ⟨by decide, by decide⟩, by decide, by decide⟩
theorem xc_L_law__X12_feed : XCall M_L_law M_X12_feed 1 0 0 (mW M_X12_feed).tail := ⟨rfl, hd_X12_feed, ⟨by decide, by decide⟩, by decide, by decide⟩
theorem xc_L_law__X12_hand : XCall M_L_law M_X12_hand 3 0 0 (mW M_X12_hand).tail := ⟨rfl, hd_X12_hand, ⟨by decide, by decide⟩, by decide, by decide⟩
theorem xc_L_law__X12_image : XCall M_L_law M_X12_image 0 0 0 (mW M_X12_image).tail := ⟨rfl, hd_X12_image, ⟨by decide, by decide⟩, by decide, by decide⟩
theorem xc_L_law__X12_judge : XCall M_L_law M_X12_judge 1 0 0 (mW M_X12_judge).tail := ⟨rfl, hd_X12_judge, ⟨by decide, by decide⟩, by decide, by decide⟩
theorem xc_L_law__X12_judged : XCall M_L_law M_X12_judged 3 0 0 (mW M_X12_judged).tail := ⟨rfl, hd_X12_judged, ⟨by decide, by decide⟩, by decide, by decide⟩
theorem xc_L_law__X12_laid : XCall M_L_law M_X12_laid 2 0 0 (mW M_X12_laid).tail := ⟨rfl, hd_X12_laid, ⟨by decide, by decide⟩, by decide, by decide⟩
theorem xc_L_law__X12_lays : XCall M_L_law M_X12_lays 3 0 0 (mW M_X12_lays).tail := ⟨rfl, hd_X12_lays, ⟨by decide, by decide⟩, by decide, by decide⟩
theorem xc_L_law__X12_like : XCall M_L_law M_X12_like 2 0 0 (mW M_X12_like).tail := ⟨rfl, hd_X12_like, ⟨by decide, by decide⟩, by decide, by decide⟩
theorem xc_L_law__X12_minds : XCall M_L_law M_X12_minds 1 0 0 (mW M_X12_minds).tail := ⟨rfl, hd_X12_minds, ⟨by decide, by decide⟩, by decide, by decide⟩
theorem xc_L_law__X12_out : XCall M_L_law M_X12_out 1 0 0 (mW M_X12_out).tail := ⟨rfl, hd_X12_out, ⟨by decide, by decide⟩, by decide, by decide⟩
theorem xc_L_law__X12_paper : XCall M_L_law M_X12_paper 1 0 0 (mW M_X12_paper).tail := ⟨rfl, hd_X12_paper, ⟨by decide, by decide⟩, by decide, by decide⟩
theorem xc_L_law__X12_percent : XCall M_L_law M_X12_percent 2 0 0 (mW M_X12_percent).tail := ⟨rfl, hd_X12_percent, ⟨by decide, by decide⟩, by decide, by decide⟩
theorem xc_L_law__X12_play : XCall M_L_law M_X12_play 0 0 0 (mW M_X12_play).tail := ⟨rfl, hd_X12_play, ⟨by decide, by decide⟩, by decide, by decide⟩
theorem xc_L_law__X12_race : XCall M_L_law M_X12_race 3 0 0 (mW M_X12_race).tail := ⟨rfl, hd_X12_race, ⟨by decide, by decide⟩, by decide, by decide⟩
theorem xc_L_law__X12_raceAim : XCall M_L_law M_X12_raceAim 3 0 0 (mW M_X12_raceAim).tail := ⟨rfl, hd_X12_raceAim, ⟨by decide, by decide⟩, by decide, by decide⟩
theorem xc_L_law__X12_rack : XCall M_L_law M_X12_rack 3 0 0 (mW M_X12_rack).tail := ⟨rfl, hd_X12_rack, ⟨by decide, by decide⟩, by decide, by decide⟩
theorem xc_L_law__X12_seed : XCall M_L_law M_X12_seed 1 0 0 (mW M_X12_seed).tail := ⟨rfl, hd_X12_seed, ⟨by decide, by decide⟩, by decide, by decide⟩
theorem xc_L_law__X12_settled : XCall M_L_law M_X12_settled 2 0 0 (mW M_X12_settled).tail := ⟨rfl, hd_X12_settled, ⟨by decide, by decide⟩, by decide, by decide⟩
theorem xc_L_law__X12_spell : XCall M_L_law M_X12_spell 2 0 0 (mW M_X12_spell).tail := ⟨rfl, hd_X12_spell, ⟨by decide, by decide⟩, by decide, by decide⟩
theorem xc_L_law__X12_spot : XCall M_L_law M_X12_spot 2 0 0 (mW M_X12_spot).tail := ⟨rfl, hd_X12_spot, ⟨by decide, by decide⟩, by decide, by decide⟩
theorem xc_L_law__X12_start : XCall M_L_law M_X12_start 1 0 0 (mW M_X12_start).tail := ⟨rfl, hd_X12_start, ⟨by decide, by decide⟩, by decide, by decide⟩
theorem xc_L_law__X12_thousandths : XCall M_L_law M_X12_thousandths 2 0 0 (mW M_X12_thousandths).tail := ⟨rfl, hd_X12_thousandths, ⟨by decide, by decide⟩, by decide, by decide⟩
theorem xc_L_law__X12_thrown : XCall M_L_law M_X12_thrown 1 0 0 (mW M_X12_thrown).tail := ⟨rfl, hd_X12_thrown, ⟨by decide, by decide⟩, by decide, by decide⟩
theorem xc_L_law__X12_throwsAt : XCall M_L_law M_X12_throwsAt 1 0 0 (mW M_X12_throwsAt).tail := ⟨rfl, hd_X12_throwsAt, ⟨by decide, by decide⟩, by decide, by decide⟩
theorem xc_L_law__X12_told : XCall M_L_law M_X12_told 1 0 0 (mW M_X12_told).tail := ⟨rfl, hd_X12_told, ⟨by decide, by decide⟩, by decide, by decide⟩
theorem xc_L_law__X12_under : XCall M_L_law M_X12_under 2 0 0 (mW M_X12_under).tail := ⟨rfl, hd_X12_under, ⟨by decide, by decide⟩, by decide, by decide⟩
theorem xc_L_law__X12_undo : XCall M_L_law M_X12_undo 0 0 0 (mW M_X12_undo).tail := ⟨rfl, hd_X12_undo, ⟨by decide, by decide⟩, by decide, by decide⟩
theorem xc_L_law__X12_way : XCall M_L_law M_X12_way 3 0 0 (mW M_X12_way).tail := ⟨rfl, hd_X12_way, ⟨by decide, by decide⟩, by decide, by decide⟩
theorem xc_L_law__X12_ways : XCall M_L_law M_X12_ways 2 0 0 (mW M_X12_ways).tail := ⟨rfl, hd_X12_ways, ⟨by decide, by decide⟩, by decide, by decide⟩
theorem xc_X0_isOfKind__X0_kindAbove : XCall M_X0_isOfKind M_X0_kindAbove 1 0 0 (mW M_X0_kindAbove).tail := ⟨rfl, hd_X0_kindAbove, ⟨by decide, by decide⟩, by decide, by decide⟩
theorem xc_X0_isOfKind__X0_kindOf : XCall M_X0_isOfKind M_X0_kindOf 1 0 0 (mW M_X0_kindOf).tail := ⟨rfl, hd_X0_kindOf, ⟨by decide, by decide⟩, by decide, by decide⟩
theorem xc_X0_numberBeside__J9_floorMod_7cf53 : XCall M_X0_numberBeside M_J9_floorMod_7cf53 2 0 0 (mW M_J9_floorMod_7cf53).tail := ⟨rfl, hd_J9_floorMod_7cf53, ⟨by decide, by decide⟩, by decide, by decide⟩
theorem xc_X0_scoreOf__X0_kindOf : XCall M_X0_scoreOf M_X0_kindOf 1 0 0 (mW M_X0_kindOf).tail := ⟨rfl, hd_X0_kindOf, ⟨by decide, by decide⟩, by decide, by decide⟩
theorem xc_X0_scoreOf__X0_numberOf : XCall M_X0_scoreOf M_X0_numberOf 1 0 0 (mW M_X0_numberOf).tail := ⟨rfl, hd_X0_numberOf, ⟨by decide, by decide⟩, by decide, by decide⟩
theorem xc_X10_faultOfNumber__X10_isFigure : XCall M_X10_faultOfNumber M_X10_isFigure 1 0 0 (mW M_X10_isFigure).tail := ⟨rfl, hd_X10_isFigure, ⟨by decide, by decide⟩, by decide, by decide⟩
theorem xc_X10_faultOfNumber__X10_take : XCall M_X10_faultOfNumber M_X10_take 2 0 0 (mW M_X10_take).tail := ⟨rfl, hd_X10_take, ⟨by decide, by decide⟩, by decide, by decide⟩
theorem xc_X10_faultOfPair__X10_take : XCall M_X10_faultOfPair M_X10_take 2 0 0 (mW M_X10_take).tail := ⟨rfl, hd_X10_take, ⟨by decide, by decide⟩, by decide, by decide⟩
theorem xc_X10_faultOfPath__X10_faultOfSpot : XCall M_X10_faultOfPath M_X10_faultOfSpot 0 0 0 (mW M_X10_faultOfSpot).tail := ⟨rfl, hd_X10_faultOfSpot, ⟨by decide, by decide⟩, by decide, by decide⟩
theorem xc_X10_faultOfSpot__X10_faultOfNumber : XCall M_X10_faultOfSpot M_X10_faultOfNumber 1 0 0 (mW M_X10_faultOfNumber).tail := ⟨rfl, hd_X10_faultOfNumber, ⟨by decide, by decide⟩, by decide, by decide⟩
theorem xc_X10_faultOfSpot__X10_faultOfPair : XCall M_X10_faultOfSpot M_X10_faultOfPair 2 0 0 (mW M_X10_faultOfPair).tail := ⟨rfl, hd_X10_faultOfPair, ⟨by decide, by decide⟩, by decide, by decide⟩
theorem xc_X10_faultOfSpot__X10_take : XCall M_X10_faultOfSpot M_X10_take 2 0 0 (mW M_X10_take).tail := ⟨rfl, hd_X10_take, ⟨by decide, by decide⟩, by decide, by decide⟩
theorem xc_X10_read__X10_faultOfPath : XCall M_X10_read M_X10_faultOfPath 0 0 0 (mW M_X10_faultOfPath).tail := ⟨rfl, hd_X10_faultOfPath, ⟨by decide, by decide⟩, by decide, by decide⟩
theorem xc_X11_aim__X11_isPlayer : XCall M_X11_aim M_X11_isPlayer 1 0 0 (mW M_X11_isPlayer).tail := ⟨rfl, hd_X11_isPlayer, ⟨by decide, by decide⟩, by decide, by decide⟩
theorem xc_X11_aim__X11_isRestUpTo : XCall M_X11_aim M_X11_isRestUpTo 2 0 0 (mW M_X11_isRestUpTo).tail := ⟨rfl, hd_X11_isRestUpTo, ⟨by decide, by decide⟩, by decide, by decide⟩
theorem xc_X11_aim__X4_aimAt : XCall M_X11_aim M_X4_aimAt 1 0 0 (mW M_X4_aimAt).tail := ⟨rfl, hd_X4_aimAt, ⟨by decide, by decide⟩, by decide, by decide⟩
theorem xc_X11_average__X11_bitsOfFloat : XCall M_X11_average M_X11_bitsOfFloat 1 0 0 (mW M_X11_bitsOfFloat).tail := ⟨rfl, hd_X11_bitsOfFloat, ⟨by decide, by decide⟩, by decide, by decide⟩
theorem xc_X11_average__X11_isPlayer : XCall M_X11_average M_X11_isPlayer 1 0 0 (mW M_X11_isPlayer).tail := ⟨rfl, hd_X11_isPlayer, ⟨by decide, by decide⟩, by decide, by decide⟩
theorem xc_X11_bitsOfDouble__X11_bitsOfSize : XCall M_X11_bitsOfDouble M_X11_bitsOfSize 3 0 0 (mW M_X11_bitsOfSize).tail := ⟨rfl, hd_X11_bitsOfSize, ⟨by decide, by decide⟩, by decide, by decide⟩
theorem xc_X11_bitsOfFloat__X11_bitsOfSize : XCall M_X11_bitsOfFloat M_X11_bitsOfSize 3 0 0 (mW M_X11_bitsOfSize).tail := ⟨rfl, hd_X11_bitsOfSize, ⟨by decide, by decide⟩, by decide, by decide⟩
theorem xc_X11_chance__X11_bitsOfDouble : XCall M_X11_chance M_X11_bitsOfDouble 1 0 0 (mW M_X11_bitsOfDouble).tail := ⟨rfl, hd_X11_bitsOfDouble, ⟨by decide, by decide⟩, by decide, by decide⟩
theorem xc_X11_chance__X11_isPlayer : XCall M_X11_chance M_X11_isPlayer 1 0 0 (mW M_X11_isPlayer).tail := ⟨rfl, hd_X11_isPlayer, ⟨by decide, by decide⟩, by decide, by decide⟩
theorem xc_X11_chance__X11_isRestUpTo : XCall M_X11_chance M_X11_isRestUpTo 2 0 0 (mW M_X11_isRestUpTo).tail := ⟨rfl, hd_X11_isRestUpTo, ⟨by decide, by decide⟩, by decide, by decide⟩
theorem xc_X11_chance__X4_chanceAt : XCall M_X11_chance M_X4_chanceAt 2 0 0 (mW M_X4_chanceAt).tail := ⟨rfl, hd_X4_chanceAt, ⟨by decide, by decide⟩, by decide, by decide⟩
theorem xc_X11_chanceAim__X11_isPlayer : XCall M_X11_chanceAim M_X11_isPlayer 1 0 0 (mW M_X11_isPlayer).tail := ⟨rfl, hd_X11_isPlayer, ⟨by decide, by decide⟩, by decide, by decide⟩
theorem xc_X11_chanceAim__X11_isRestUpTo : XCall M_X11_chanceAim M_X11_isRestUpTo 2 0 0 (mW M_X11_isRestUpTo).tail := ⟨rfl, hd_X11_isRestUpTo, ⟨by decide, by decide⟩, by decide, by decide⟩
theorem xc_X11_chanceAim__X4_chanceAimAt : XCall M_X11_chanceAim M_X4_chanceAimAt 2 0 0 (mW M_X4_chanceAimAt).tail := ⟨rfl, hd_X4_chanceAimAt, ⟨by decide, by decide⟩, by decide, by decide⟩
theorem xc_X11_darts__X11_bitsOfDouble : XCall M_X11_darts M_X11_bitsOfDouble 1 0 0 (mW M_X11_bitsOfDouble).tail := ⟨rfl, hd_X11_bitsOfDouble, ⟨by decide, by decide⟩, by decide, by decide⟩
theorem xc_X11_darts__X11_isDartsRest : XCall M_X11_darts M_X11_isDartsRest 1 0 0 (mW M_X11_isDartsRest).tail := ⟨rfl, hd_X11_isDartsRest, ⟨by decide, by decide⟩, by decide, by decide⟩
theorem xc_X11_darts__X11_isPlayer : XCall M_X11_darts M_X11_isPlayer 1 0 0 (mW M_X11_isPlayer).tail := ⟨rfl, hd_X11_isPlayer, ⟨by decide, by decide⟩, by decide, by decide⟩
theorem xc_X11_darts__X4_dartsAt : XCall M_X11_darts M_X4_dartsAt 1 0 0 (mW M_X4_dartsAt).tail := ⟨rfl, hd_X4_dartsAt, ⟨by decide, by decide⟩, by decide, by decide⟩
theorem xc_X11_dartsCut__X11_bitsOfFloat : XCall M_X11_dartsCut M_X11_bitsOfFloat 1 0 0 (mW M_X11_bitsOfFloat).tail := ⟨rfl, hd_X11_bitsOfFloat, ⟨by decide, by decide⟩, by decide, by decide⟩
theorem xc_X11_dartsCut__X11_isDartsRest : XCall M_X11_dartsCut M_X11_isDartsRest 1 0 0 (mW M_X11_isDartsRest).tail := ⟨rfl, hd_X11_isDartsRest, ⟨by decide, by decide⟩, by decide, by decide⟩
theorem xc_X11_dartsCut__X11_isPlayer : XCall M_X11_dartsCut M_X11_isPlayer 1 0 0 (mW M_X11_isPlayer).tail := ⟨rfl, hd_X11_isPlayer, ⟨by decide, by decide⟩, by decide, by decide⟩
theorem xc_X11_dartsCut__X4_dartsAt : XCall M_X11_dartsCut M_X4_dartsAt 1 0 0 (mW M_X4_dartsAt).tail := ⟨rfl, hd_X4_dartsAt, ⟨by decide, by decide⟩, by decide, by decide⟩
theorem xc_X11_fall__X11_isAim : XCall M_X11_fall M_X11_isAim 1 0 0 (mW M_X11_isAim).tail := ⟨rfl, hd_X11_isAim, ⟨by decide, by decide⟩, by decide, by decide⟩
theorem xc_X11_fall__X11_isPlayer : XCall M_X11_fall M_X11_isPlayer 1 0 0 (mW M_X11_isPlayer).tail := ⟨rfl, hd_X11_isPlayer, ⟨by decide, by decide⟩, by decide, by decide⟩
theorem xc_X11_falls__X11_isSpot : XCall M_X11_falls M_X11_isSpot 1 0 0 (mW M_X11_isSpot).tail := ⟨rfl, hd_X11_isSpot, ⟨by decide, by decide⟩, by decide, by decide⟩
theorem xc_X11_falls__X9_restBehind : XCall M_X11_falls M_X9_restBehind 2 0 0 (mW M_X9_restBehind).tail := ⟨rfl, hd_X9_restBehind, ⟨by decide, by decide⟩, by decide, by decide⟩
theorem xc_X11_feed__X10_append : XCall M_X11_feed M_X10_append 1 0 0 (mW M_X10_append).tail := ⟨rfl, hd_X10_append, ⟨by decide, by decide⟩, by decide, by decide⟩
theorem xc_X11_hand__X11_isPlayer : XCall M_X11_hand M_X11_isPlayer 1 0 0 (mW M_X11_isPlayer).tail := ⟨rfl, hd_X11_isPlayer, ⟨by decide, by decide⟩, by decide, by decide⟩
theorem xc_X11_hand__X11_renewMinds : XCall M_X11_hand M_X11_renewMinds 0 0 0 (mW M_X11_renewMinds).tail := ⟨rfl, hd_X11_renewMinds, ⟨by decide, by decide⟩, by decide, by decide⟩
theorem xc_X11_image__X3_become : XCall M_X11_image M_X3_become 1 0 0 (mW M_X3_become).tail := ⟨rfl, hd_X3_become, ⟨by decide, by decide⟩, by decide, by decide⟩
theorem xc_X11_image__X3_legsOfBoth : XCall M_X11_image M_X3_legsOfBoth 0 0 0 (mW M_X3_legsOfBoth).tail := ⟨rfl, hd_X3_legsOfBoth, ⟨by decide, by decide⟩, by decide, by decide⟩
theorem xc_X11_isDartsRest__X11_isRestUpTo : XCall M_X11_isDartsRest M_X11_isRestUpTo 2 0 0 (mW M_X11_isRestUpTo).tail := ⟨rfl, hd_X11_isRestUpTo, ⟨by decide, by decide⟩, by decide, by decide⟩
theorem xc_X11_isRace__X11_isRestUpTo : XCall M_X11_isRace M_X11_isRestUpTo 2 0 0 (mW M_X11_isRestUpTo).tail := ⟨rfl, hd_X11_isRestUpTo, ⟨by decide, by decide⟩, by decide, by decide⟩
theorem xc_X11_isRestUpTo__X9_leastRest : XCall M_X11_isRestUpTo M_X9_leastRest 0 0 0 (mW M_X9_leastRest).tail := ⟨rfl, hd_X9_leastRest, ⟨by decide, by decide⟩, by decide, by decide⟩
theorem xc_X11_judge__X10_read : XCall M_X11_judge M_X10_read 0 0 0 (mW M_X10_read).tail := ⟨rfl, hd_X10_read, ⟨by decide, by decide⟩, by decide, by decide⟩
theorem xc_X11_judge__X11_isRestUpTo : XCall M_X11_judge M_X11_isRestUpTo 2 0 0 (mW M_X11_isRestUpTo).tail := ⟨rfl, hd_X11_isRestUpTo, ⟨by decide, by decide⟩, by decide, by decide⟩
theorem xc_X11_judge__X9_verdict : XCall M_X11_judge M_X9_verdict 3 0 0 (mW M_X9_verdict).tail := ⟨rfl, hd_X9_verdict, ⟨by decide, by decide⟩, by decide, by decide⟩
theorem xc_X11_judged__X11_isRack : XCall M_X11_judged M_X11_isRack 1 0 0 (mW M_X11_isRack).tail := ⟨rfl, hd_X11_isRack, ⟨by decide, by decide⟩, by decide, by decide⟩
theorem xc_X11_judged__X11_isRestUpTo : XCall M_X11_judged M_X11_isRestUpTo 2 0 0 (mW M_X11_isRestUpTo).tail := ⟨rfl, hd_X11_isRestUpTo, ⟨by decide, by decide⟩, by decide, by decide⟩
theorem xc_X11_judged__X8_gather : XCall M_X11_judged M_X8_gather 2 0 0 (mW M_X8_gather).tail := ⟨rfl, hd_X8_gather, ⟨by decide, by decide⟩, by decide, by decide⟩
theorem xc_X11_judged__X8_isMissing : XCall M_X11_judged M_X8_isMissing 0 0 0 (mW M_X8_isMissing).tail := ⟨rfl, hd_X8_isMissing, ⟨by decide, by decide⟩, by decide, by decide⟩
theorem xc_X11_judged__X9_verdict : XCall M_X11_judged M_X9_verdict 3 0 0 (mW M_X9_verdict).tail := ⟨rfl, hd_X9_verdict, ⟨by decide, by decide⟩, by decide, by decide⟩
theorem xc_X11_laid__X11_isRack : XCall M_X11_laid M_X11_isRack 1 0 0 (mW M_X11_isRack).tail := ⟨rfl, hd_X11_isRack, ⟨by decide, by decide⟩, by decide, by decide⟩
theorem xc_X11_laid__X8_isMissing : XCall M_X11_laid M_X8_isMissing 0 0 0 (mW M_X8_isMissing).tail := ⟨rfl, hd_X8_isMissing, ⟨by decide, by decide⟩, by decide, by decide⟩
theorem xc_X11_lays__X0_isOfKind : XCall M_X11_lays M_X0_isOfKind 2 0 0 (mW M_X0_isOfKind).tail := ⟨rfl, hd_X0_isOfKind, ⟨by decide, by decide⟩, by decide, by decide⟩
theorem xc_X11_lays__X11_isRack : XCall M_X11_lays M_X11_isRack 1 0 0 (mW M_X11_isRack).tail := ⟨rfl, hd_X11_isRack, ⟨by decide, by decide⟩, by decide, by decide⟩
theorem xc_X11_lays__X11_isSpot : XCall M_X11_lays M_X11_isSpot 1 0 0 (mW M_X11_isSpot).tail := ⟨rfl, hd_X11_isSpot, ⟨by decide, by decide⟩, by decide, by decide⟩
theorem xc_X11_lays__X8_isMissing : XCall M_X11_lays M_X8_isMissing 0 0 0 (mW M_X8_isMissing).tail := ⟨rfl, hd_X8_isMissing, ⟨by decide, by decide⟩, by decide, by decide⟩
theorem xc_X11_like__X11_isRack : XCall M_X11_like M_X11_isRack 1 0 0 (mW M_X11_isRack).tail := ⟨rfl, hd_X11_isRack, ⟨by decide, by decide⟩, by decide, by decide⟩
theorem xc_X11_like__X8_become : XCall M_X11_like M_X8_become 1 0 0 (mW M_X8_become).tail := ⟨rfl, hd_X8_become, ⟨by decide, by decide⟩, by decide, by decide⟩
theorem xc_X11_like__X8_isMissing : XCall M_X11_like M_X8_isMissing 0 0 0 (mW M_X8_isMissing).tail := ⟨rfl, hd_X8_isMissing, ⟨by decide, by decide⟩, by decide, by decide⟩
theorem xc_X11_minds__X11_throwByDraw : XCall M_X11_minds M_X11_throwByDraw 1 0 0 (mW M_X11_throwByDraw).tail := ⟨rfl, hd_X11_throwByDraw, ⟨by decide, by decide⟩, by decide, by decide⟩
theorem xc_X11_minds__X3_legsOfBoth : XCall M_X11_minds M_X3_legsOfBoth 0 0 0 (mW M_X3_legsOfBoth).tail := ⟨rfl, hd_X3_legsOfBoth, ⟨by decide, by decide⟩, by decide, by decide⟩
theorem xc_X11_minds__X3_restOfThrower : XCall M_X11_minds M_X3_restOfThrower 0 0 0 (mW M_X3_restOfThrower).tail := ⟨rfl, hd_X3_restOfThrower, ⟨by decide, by decide⟩, by decide, by decide⟩
theorem xc_X11_minds__X4_aimAt : XCall M_X11_minds M_X4_aimAt 1 0 0 (mW M_X4_aimAt).tail := ⟨rfl, hd_X4_aimAt, ⟨by decide, by decide⟩, by decide, by decide⟩
theorem xc_X11_out__X11_renewMinds : XCall M_X11_out M_X11_renewMinds 0 0 0 (mW M_X11_renewMinds).tail := ⟨rfl, hd_X11_renewMinds, ⟨by decide, by decide⟩, by decide, by decide⟩
theorem xc_X11_out__X3_hasRestOfOne : XCall M_X11_out M_X3_hasRestOfOne 0 0 0 (mW M_X3_hasRestOfOne).tail := ⟨rfl, hd_X3_hasRestOfOne, ⟨by decide, by decide⟩, by decide, by decide⟩
theorem xc_X11_percent__X11_isRace : XCall M_X11_percent M_X11_isRace 2 0 0 (mW M_X11_isRace).tail := ⟨rfl, hd_X11_isRace, ⟨by decide, by decide⟩, by decide, by decide⟩
theorem xc_X11_percent__X7_wonBy : XCall M_X11_percent M_X7_wonBy 3 0 0 (mW M_X7_wonBy).tail := ⟨rfl, hd_X7_wonBy, ⟨by decide, by decide⟩, by decide, by decide⟩
theorem xc_X11_play__X10_read : XCall M_X11_play M_X10_read 0 0 0 (mW M_X10_read).tail := ⟨rfl, hd_X10_read, ⟨by decide, by decide⟩, by decide, by decide⟩
theorem xc_X11_play__X11_throwUpon : XCall M_X11_play M_X11_throwUpon 1 0 0 (mW M_X11_throwUpon).tail := ⟨rfl, hd_X11_throwUpon, ⟨by decide, by decide⟩, by decide, by decide⟩
theorem xc_X11_play__X3_legsOfBoth : XCall M_X11_play M_X3_legsOfBoth 0 0 0 (mW M_X3_legsOfBoth).tail := ⟨rfl, hd_X3_legsOfBoth, ⟨by decide, by decide⟩, by decide, by decide⟩
theorem xc_X11_race__X11_bitsOfDouble : XCall M_X11_race M_X11_bitsOfDouble 1 0 0 (mW M_X11_bitsOfDouble).tail := ⟨rfl, hd_X11_bitsOfDouble, ⟨by decide, by decide⟩, by decide, by decide⟩
theorem xc_X11_race__X11_isPlayer : XCall M_X11_race M_X11_isPlayer 1 0 0 (mW M_X11_isPlayer).tail := ⟨rfl, hd_X11_isPlayer, ⟨by decide, by decide⟩, by decide, by decide⟩
theorem xc_X11_race__X11_isRace : XCall M_X11_race M_X11_isRace 2 0 0 (mW M_X11_isRace).tail := ⟨rfl, hd_X11_isRace, ⟨by decide, by decide⟩, by decide, by decide⟩
theorem xc_X11_race__X7_wonBy : XCall M_X11_race M_X7_wonBy 3 0 0 (mW M_X7_wonBy).tail := ⟨rfl, hd_X7_wonBy, ⟨by decide, by decide⟩, by decide, by decide⟩
theorem xc_X11_raceAim__X11_isPlayer : XCall M_X11_raceAim M_X11_isPlayer 1 0 0 (mW M_X11_isPlayer).tail := ⟨rfl, hd_X11_isPlayer, ⟨by decide, by decide⟩, by decide, by decide⟩
theorem xc_X11_raceAim__X11_isRace : XCall M_X11_raceAim M_X11_isRace 2 0 0 (mW M_X11_isRace).tail := ⟨rfl, hd_X11_isRace, ⟨by decide, by decide⟩, by decide, by decide⟩
theorem xc_X11_raceAim__X7_aimOf : XCall M_X11_raceAim M_X7_aimOf 3 0 0 (mW M_X7_aimOf).tail := ⟨rfl, hd_X7_aimOf, ⟨by decide, by decide⟩, by decide, by decide⟩
theorem xc_X11_rack__X11_isKind : XCall M_X11_rack M_X11_isKind 1 0 0 (mW M_X11_isKind).tail := ⟨rfl, hd_X11_isKind, ⟨by decide, by decide⟩, by decide, by decide⟩
theorem xc_X11_rack__X11_isRack : XCall M_X11_rack M_X11_isRack 1 0 0 (mW M_X11_isRack).tail := ⟨rfl, hd_X11_isRack, ⟨by decide, by decide⟩, by decide, by decide⟩
theorem xc_X11_rack__X8_make : XCall M_X11_rack M_X8_make 2 0 0 (mW M_X8_make).tail := ⟨rfl, hd_X8_make, ⟨by decide, by decide⟩, by decide, by decide⟩
theorem xc_X11_renewMinds__X2_forget : XCall M_X11_renewMinds M_X2_forget 0 0 0 (mW M_X2_forget).tail := ⟨rfl, hd_X2_forget, ⟨by decide, by decide⟩, by decide, by decide⟩
theorem xc_X11_renewMinds__X4_become : XCall M_X11_renewMinds M_X4_become 2 0 0 (mW M_X4_become).tail := ⟨rfl, hd_X4_become, ⟨by decide, by decide⟩, by decide, by decide⟩
theorem xc_X11_renewMinds__X4_forget : XCall M_X11_renewMinds M_X4_forget 0 0 0 (mW M_X4_forget).tail := ⟨rfl, hd_X4_forget, ⟨by decide, by decide⟩, by decide, by decide⟩
theorem xc_X11_renewMinds__X7_forget : XCall M_X11_renewMinds M_X7_forget 0 0 0 (mW M_X7_forget).tail := ⟨rfl, hd_X7_forget, ⟨by decide, by decide⟩, by decide, by decide⟩
theorem xc_X11_renewMinds__X9_become : XCall M_X11_renewMinds M_X9_become 1 0 0 (mW M_X9_become).tail := ⟨rfl, hd_X9_become, ⟨by decide, by decide⟩, by decide, by decide⟩
theorem xc_X11_settled__X11_isRace : XCall M_X11_settled M_X11_isRace 2 0 0 (mW M_X11_isRace).tail := ⟨rfl, hd_X11_isRace, ⟨by decide, by decide⟩, by decide, by decide⟩
theorem xc_X11_settled__X7_isStill : XCall M_X11_settled M_X7_isStill 2 0 0 (mW M_X7_isStill).tail := ⟨rfl, hd_X7_isStill, ⟨by decide, by decide⟩, by decide, by decide⟩
theorem xc_X11_spell__X11_isRestUpTo : XCall M_X11_spell M_X11_isRestUpTo 2 0 0 (mW M_X11_isRestUpTo).tail := ⟨rfl, hd_X11_isRestUpTo, ⟨by decide, by decide⟩, by decide, by decide⟩
theorem xc_X11_spell__X2_find : XCall M_X11_spell M_X2_find 2 0 0 (mW M_X2_find).tail := ⟨rfl, hd_X2_find, ⟨by decide, by decide⟩, by decide, by decide⟩
theorem xc_X11_spell__X5_spellRow : XCall M_X11_spell M_X5_spellRow 2 0 0 (mW M_X5_spellRow).tail := ⟨rfl, hd_X5_spellRow, ⟨by decide, by decide⟩, by decide, by decide⟩
theorem xc_X11_spot__X0_kindOf : XCall M_X11_spot M_X0_kindOf 1 0 0 (mW M_X0_kindOf).tail := ⟨rfl, hd_X0_kindOf, ⟨by decide, by decide⟩, by decide, by decide⟩
theorem xc_X11_spot__X0_numberBeside : XCall M_X11_spot M_X0_numberBeside 2 0 0 (mW M_X0_numberBeside).tail := ⟨rfl, hd_X0_numberBeside, ⟨by decide, by decide⟩, by decide, by decide⟩
theorem xc_X11_spot__X0_numberOf : XCall M_X11_spot M_X0_numberOf 1 0 0 (mW M_X0_numberOf).tail := ⟨rfl, hd_X0_numberOf, ⟨by decide, by decide⟩, by decide, by decide⟩
theorem xc_X11_spot__X0_scoreOf : XCall M_X11_spot M_X0_scoreOf 1 0 0 (mW M_X0_scoreOf).tail := ⟨rfl, hd_X0_scoreOf, ⟨by decide, by decide⟩, by decide, by decide⟩
theorem xc_X11_spot__X11_isSpot : XCall M_X11_spot M_X11_isSpot 1 0 0 (mW M_X11_isSpot).tail := ⟨rfl, hd_X11_isSpot, ⟨by decide, by decide⟩, by decide, by decide⟩
theorem xc_X11_start__X3_begin : XCall M_X11_start M_X3_begin 0 0 0 (mW M_X3_begin).tail := ⟨rfl, hd_X3_begin, ⟨by decide, by decide⟩, by decide, by decide⟩
theorem xc_X11_thousandths__X11_isDartsRest : XCall M_X11_thousandths M_X11_isDartsRest 1 0 0 (mW M_X11_isDartsRest).tail := ⟨rfl, hd_X11_isDartsRest, ⟨by decide, by decide⟩, by decide, by decide⟩
theorem xc_X11_thousandths__X11_isPlayer : XCall M_X11_thousandths M_X11_isPlayer 1 0 0 (mW M_X11_isPlayer).tail := ⟨rfl, hd_X11_isPlayer, ⟨by decide, by decide⟩, by decide, by decide⟩
theorem xc_X11_thousandths__X4_dartsAt : XCall M_X11_thousandths M_X4_dartsAt 1 0 0 (mW M_X4_dartsAt).tail := ⟨rfl, hd_X4_dartsAt, ⟨by decide, by decide⟩, by decide, by decide⟩
theorem xc_X11_throwByDraw__X11_throwUpon : XCall M_X11_throwByDraw M_X11_throwUpon 1 0 0 (mW M_X11_throwUpon).tail := ⟨rfl, hd_X11_throwUpon, ⟨by decide, by decide⟩, by decide, by decide⟩
theorem xc_X11_throwByDraw__X3_draw : XCall M_X11_throwByDraw M_X3_draw 0 0 0 (mW M_X3_draw).tail := ⟨rfl, hd_X3_draw, ⟨by decide, by decide⟩, by decide, by decide⟩
theorem xc_X11_throwByDraw__X4_fallenUpon : XCall M_X11_throwByDraw M_X4_fallenUpon 2 0 0 (mW M_X4_fallenUpon).tail := ⟨rfl, hd_X4_fallenUpon, ⟨by decide, by decide⟩, by decide, by decide⟩
theorem xc_X11_throwUpon__X3_land : XCall M_X11_throwUpon M_X3_land 1 0 0 (mW M_X3_land).tail := ⟨rfl, hd_X3_land, ⟨by decide, by decide⟩, by decide, by decide⟩
theorem xc_X11_throwUpon__X3_restOfThrower : XCall M_X11_throwUpon M_X3_restOfThrower 0 0 0 (mW M_X3_restOfThrower).tail := ⟨rfl, hd_X3_restOfThrower, ⟨by decide, by decide⟩, by decide, by decide⟩
theorem xc_X11_throwUpon__X9_restBehind : XCall M_X11_throwUpon M_X9_restBehind 2 0 0 (mW M_X9_restBehind).tail := ⟨rfl, hd_X9_restBehind, ⟨by decide, by decide⟩, by decide, by decide⟩
theorem xc_X11_thrown__X11_isSpot : XCall M_X11_thrown M_X11_isSpot 1 0 0 (mW M_X11_isSpot).tail := ⟨rfl, hd_X11_isSpot, ⟨by decide, by decide⟩, by decide, by decide⟩
theorem xc_X11_thrown__X11_throwUpon : XCall M_X11_thrown M_X11_throwUpon 1 0 0 (mW M_X11_throwUpon).tail := ⟨rfl, hd_X11_throwUpon, ⟨by decide, by decide⟩, by decide, by decide⟩
theorem xc_X11_throwsAt__X11_isAim : XCall M_X11_throwsAt M_X11_isAim 1 0 0 (mW M_X11_isAim).tail := ⟨rfl, hd_X11_isAim, ⟨by decide, by decide⟩, by decide, by decide⟩
theorem xc_X11_throwsAt__X11_throwByDraw : XCall M_X11_throwsAt M_X11_throwByDraw 1 0 0 (mW M_X11_throwByDraw).tail := ⟨rfl, hd_X11_throwByDraw, ⟨by decide, by decide⟩, by decide, by decide⟩
theorem xc_X11_told__X6_tell : XCall M_X11_told M_X6_tell 1 0 0 (mW M_X6_tell).tail := ⟨rfl, hd_X6_tell, ⟨by decide, by decide⟩, by decide, by decide⟩
theorem xc_X11_under__X0_isOfKind : XCall M_X11_under M_X0_isOfKind 2 0 0 (mW M_X0_isOfKind).tail := ⟨rfl, hd_X0_isOfKind, ⟨by decide, by decide⟩, by decide, by decide⟩
theorem xc_X11_under__X11_isKind : XCall M_X11_under M_X11_isKind 1 0 0 (mW M_X11_isKind).tail := ⟨rfl, hd_X11_isKind, ⟨by decide, by decide⟩, by decide, by decide⟩
theorem xc_X11_under__X11_isSpot : XCall M_X11_under M_X11_isSpot 1 0 0 (mW M_X11_isSpot).tail := ⟨rfl, hd_X11_isSpot, ⟨by decide, by decide⟩, by decide, by decide⟩
theorem xc_X11_undo__X11_renewMinds : XCall M_X11_undo M_X11_renewMinds 0 0 0 (mW M_X11_renewMinds).tail := ⟨rfl, hd_X11_renewMinds, ⟨by decide, by decide⟩, by decide, by decide⟩
theorem xc_X11_undo__X3_become : XCall M_X11_undo M_X3_become 1 0 0 (mW M_X3_become).tail := ⟨rfl, hd_X3_become, ⟨by decide, by decide⟩, by decide, by decide⟩
theorem xc_X11_undo__X3_legsOfBoth : XCall M_X11_undo M_X3_legsOfBoth 0 0 0 (mW M_X3_legsOfBoth).tail := ⟨rfl, hd_X3_legsOfBoth, ⟨by decide, by decide⟩, by decide, by decide⟩
theorem xc_X11_way__X11_isRestUpTo : XCall M_X11_way M_X11_isRestUpTo 2 0 0 (mW M_X11_isRestUpTo).tail := ⟨rfl, hd_X11_isRestUpTo, ⟨by decide, by decide⟩, by decide, by decide⟩
theorem xc_X11_way__X2_find : XCall M_X11_way M_X2_find 2 0 0 (mW M_X2_find).tail := ⟨rfl, hd_X2_find, ⟨by decide, by decide⟩, by decide, by decide⟩
theorem xc_X11_ways__X11_isRestUpTo : XCall M_X11_ways M_X11_isRestUpTo 2 0 0 (mW M_X11_isRestUpTo).tail := ⟨rfl, hd_X11_isRestUpTo, ⟨by decide, by decide⟩, by decide, by decide⟩
theorem xc_X11_ways__X2_countBy : XCall M_X11_ways M_X2_countBy 2 0 0 (mW M_X2_countBy).tail := ⟨rfl, hd_X2_countBy, ⟨by decide, by decide⟩, by decide, by decide⟩
theorem xc_X11_ways__X2_countOfAll : XCall M_X11_ways M_X2_countOfAll 1 0 0 (mW M_X2_countOfAll).tail := ⟨rfl, hd_X2_countOfAll, ⟨by decide, by decide⟩, by decide, by decide⟩
theorem xc_X12_aim__X12_isPlayer : XCall M_X12_aim M_X12_isPlayer 1 0 0 (mW M_X12_isPlayer).tail := ⟨rfl, hd_X12_isPlayer, ⟨by decide, by decide⟩, by decide, by decide⟩
theorem xc_X12_aim__X12_isRest : XCall M_X12_aim M_X12_isRest 2 0 0 (mW M_X12_isRest).tail := ⟨rfl, hd_X12_isRest, ⟨by decide, by decide⟩, by decide, by decide⟩
theorem xc_X12_aim__X12_layDarts : XCall M_X12_aim M_X12_layDarts 1 0 0 (mW M_X12_layDarts).tail := ⟨rfl, hd_X12_layDarts, ⟨by decide, by decide⟩, by decide, by decide⟩
theorem xc_X12_average__Jxf58ca_floatToIntBits_5c35a : XCall M_X12_average M_Jxf58ca_floatToIntBits_5c35a 1 0 0 (mW M_Jxf58ca_floatToIntBits_5c35a).tail := ⟨rfl, hd_Jxf58ca_floatToIntBits_5c35a, ⟨by decide, by decide⟩, by decide, by decide⟩
theorem xc_X12_average__X12_isPlayer : XCall M_X12_average M_X12_isPlayer 1 0 0 (mW M_X12_isPlayer).tail := ⟨rfl, hd_X12_isPlayer, ⟨by decide, by decide⟩, by decide, by decide⟩
theorem xc_X12_beginsLeg__X12_beginsVisit : XCall M_X12_beginsLeg M_X12_beginsVisit 1 0 0 (mW M_X12_beginsVisit).tail := ⟨rfl, hd_X12_beginsVisit, ⟨by decide, by decide⟩, by decide, by decide⟩
theorem xc_X12_bestRace__X12_raceValue : XCall M_X12_bestRace M_X12_raceValue 4 0 0 (mW M_X12_raceValue).tail := ⟨rfl, hd_X12_raceValue, ⟨by decide, by decide⟩, by decide, by decide⟩
theorem xc_X12_chance__Jxe99ae_doubleToLongBits_ccdee : XCall M_X12_chance M_Jxe99ae_doubleToLongBits_ccdee 1 0 0 (mW M_Jxe99ae_doubleToLongBits_ccdee).tail := ⟨rfl, hd_Jxe99ae_doubleToLongBits_ccdee, ⟨by decide, by decide⟩, by decide, by decide⟩
theorem xc_X12_chance__X12_chanceAt : XCall M_X12_chance M_X12_chanceAt 3 0 0 (mW M_X12_chanceAt).tail := ⟨rfl, hd_X12_chanceAt, ⟨by decide, by decide⟩, by decide, by decide⟩
theorem xc_X12_chance__X12_in : XCall M_X12_chance M_X12_in 3 0 0 (mW M_X12_in).tail := ⟨rfl, hd_X12_in, ⟨by decide, by decide⟩, by decide, by decide⟩
theorem xc_X12_chance__X12_isPlayer : XCall M_X12_chance M_X12_isPlayer 1 0 0 (mW M_X12_isPlayer).tail := ⟨rfl, hd_X12_isPlayer, ⟨by decide, by decide⟩, by decide, by decide⟩
theorem xc_X12_chance__X12_isRest : XCall M_X12_chance M_X12_isRest 2 0 0 (mW M_X12_isRest).tail := ⟨rfl, hd_X12_isRest, ⟨by decide, by decide⟩, by decide, by decide⟩
theorem xc_X12_chanceAim__X12_chanceAt : XCall M_X12_chanceAim M_X12_chanceAt 3 0 0 (mW M_X12_chanceAt).tail := ⟨rfl, hd_X12_chanceAt, ⟨by decide, by decide⟩, by decide, by decide⟩
theorem xc_X12_chanceAim__X12_in : XCall M_X12_chanceAim M_X12_in 3 0 0 (mW M_X12_in).tail := ⟨rfl, hd_X12_in, ⟨by decide, by decide⟩, by decide, by decide⟩
theorem xc_X12_chanceAim__X12_isPlayer : XCall M_X12_chanceAim M_X12_isPlayer 1 0 0 (mW M_X12_isPlayer).tail := ⟨rfl, hd_X12_isPlayer, ⟨by decide, by decide⟩, by decide, by decide⟩
theorem xc_X12_chanceAim__X12_isRest : XCall M_X12_chanceAim M_X12_isRest 2 0 0 (mW M_X12_isRest).tail := ⟨rfl, hd_X12_isRest, ⟨by decide, by decide⟩, by decide, by decide⟩
theorem xc_X12_chanceAt__X12_keepFalls : XCall M_X12_chanceAt M_X12_keepFalls 1 0 0 (mW M_X12_keepFalls).tail := ⟨rfl, hd_X12_keepFalls, ⟨by decide, by decide⟩, by decide, by decide⟩
theorem xc_X12_chanceAt__X12_layChance : XCall M_X12_chanceAt M_X12_layChance 2 0 0 (mW M_X12_layChance).tail := ⟨rfl, hd_X12_layChance, ⟨by decide, by decide⟩, by decide, by decide⟩
theorem xc_X12_chanceAt__X12_leastRest : XCall M_X12_chanceAt M_X12_leastRest 0 0 0 (mW M_X12_leastRest).tail := ⟨rfl, hd_X12_leastRest, ⟨by decide, by decide⟩, by decide, by decide⟩
theorem xc_X12_chanceValue__X12_nextRest : XCall M_X12_chanceValue M_X12_nextRest 2 0 0 (mW M_X12_nextRest).tail := ⟨rfl, hd_X12_nextRest, ⟨by decide, by decide⟩, by decide, by decide⟩
theorem xc_X12_darts__Jxe99ae_doubleToLongBits_ccdee : XCall M_X12_darts M_Jxe99ae_doubleToLongBits_ccdee 1 0 0 (mW M_Jxe99ae_doubleToLongBits_ccdee).tail := ⟨rfl, hd_Jxe99ae_doubleToLongBits_ccdee, ⟨by decide, by decide⟩, by decide, by decide⟩
theorem xc_X12_darts__X12_dartsAt : XCall M_X12_darts M_X12_dartsAt 2 0 0 (mW M_X12_dartsAt).tail := ⟨rfl, hd_X12_dartsAt, ⟨by decide, by decide⟩, by decide, by decide⟩
theorem xc_X12_darts__X12_mayAsk : XCall M_X12_darts M_X12_mayAsk 2 0 0 (mW M_X12_mayAsk).tail := ⟨rfl, hd_X12_mayAsk, ⟨by decide, by decide⟩, by decide, by decide⟩
theorem xc_X12_dartsAt__X12_layDarts : XCall M_X12_dartsAt M_X12_layDarts 1 0 0 (mW M_X12_layDarts).tail := ⟨rfl, hd_X12_layDarts, ⟨by decide, by decide⟩, by decide, by decide⟩
theorem xc_X12_dartsCut__Jxf58ca_floatToIntBits_5c35a : XCall M_X12_dartsCut M_Jxf58ca_floatToIntBits_5c35a 1 0 0 (mW M_Jxf58ca_floatToIntBits_5c35a).tail := ⟨rfl, hd_Jxf58ca_floatToIntBits_5c35a, ⟨by decide, by decide⟩, by decide, by decide⟩
theorem xc_X12_dartsCut__X12_dartsAt : XCall M_X12_dartsCut M_X12_dartsAt 2 0 0 (mW M_X12_dartsAt).tail := ⟨rfl, hd_X12_dartsAt, ⟨by decide, by decide⟩, by decide, by decide⟩
theorem xc_X12_dartsCut__X12_mayAsk : XCall M_X12_dartsCut M_X12_mayAsk 2 0 0 (mW M_X12_mayAsk).tail := ⟨rfl, hd_X12_mayAsk, ⟨by decide, by decide⟩, by decide, by decide⟩
theorem xc_X12_dartsValue__X12_nextRest : XCall M_X12_dartsValue M_X12_nextRest 2 0 0 (mW M_X12_nextRest).tail := ⟨rfl, hd_X12_nextRest, ⟨by decide, by decide⟩, by decide, by decide⟩
theorem xc_X12_drawn__X12_layFalls : XCall M_X12_drawn M_X12_layFalls 2 0 0 (mW M_X12_layFalls).tail := ⟨rfl, hd_X12_layFalls, ⟨by decide, by decide⟩, by decide, by decide⟩
theorem xc_X12_endsOf__X12_nextRest : XCall M_X12_endsOf M_X12_nextRest 2 0 0 (mW M_X12_nextRest).tail := ⟨rfl, hd_X12_nextRest, ⟨by decide, by decide⟩, by decide, by decide⟩
theorem xc_X12_fall__X12_in : XCall M_X12_fall M_X12_in 3 0 0 (mW M_X12_in).tail := ⟨rfl, hd_X12_in, ⟨by decide, by decide⟩, by decide, by decide⟩
theorem xc_X12_fall__X12_isPlayer : XCall M_X12_fall M_X12_isPlayer 1 0 0 (mW M_X12_isPlayer).tail := ⟨rfl, hd_X12_isPlayer, ⟨by decide, by decide⟩, by decide, by decide⟩
theorem xc_X12_fall__X12_layFalls : XCall M_X12_fall M_X12_layFalls 2 0 0 (mW M_X12_layFalls).tail := ⟨rfl, hd_X12_layFalls, ⟨by decide, by decide⟩, by decide, by decide⟩
theorem xc_X12_falls__X12_in : XCall M_X12_falls M_X12_in 3 0 0 (mW M_X12_in).tail := ⟨rfl, hd_X12_in, ⟨by decide, by decide⟩, by decide, by decide⟩
theorem xc_X12_falls__X12_nextRest : XCall M_X12_falls M_X12_nextRest 2 0 0 (mW M_X12_nextRest).tail := ⟨rfl, hd_X12_nextRest, ⟨by decide, by decide⟩, by decide, by decide⟩
theorem xc_X12_fallsUpon__X12_beginsLeg : XCall M_X12_fallsUpon M_X12_beginsLeg 1 0 0 (mW M_X12_beginsLeg).tail := ⟨rfl, hd_X12_beginsLeg, ⟨by decide, by decide⟩, by decide, by decide⟩
theorem xc_X12_fallsUpon__X12_beginsVisit : XCall M_X12_fallsUpon M_X12_beginsVisit 1 0 0 (mW M_X12_beginsVisit).tail := ⟨rfl, hd_X12_beginsVisit, ⟨by decide, by decide⟩, by decide, by decide⟩
theorem xc_X12_fallsUpon__X12_nextRest : XCall M_X12_fallsUpon M_X12_nextRest 2 0 0 (mW M_X12_nextRest).tail := ⟨rfl, hd_X12_nextRest, ⟨by decide, by decide⟩, by decide, by decide⟩
theorem xc_X12_feed__X12_in : XCall M_X12_feed M_X12_in 3 0 0 (mW M_X12_in).tail := ⟨rfl, hd_X12_in, ⟨by decide, by decide⟩, by decide, by decide⟩
theorem xc_X12_hand__X12_in : XCall M_X12_hand M_X12_in 3 0 0 (mW M_X12_in).tail := ⟨rfl, hd_X12_in, ⟨by decide, by decide⟩, by decide, by decide⟩
theorem xc_X12_hand__X12_isPlayer : XCall M_X12_hand M_X12_isPlayer 1 0 0 (mW M_X12_isPlayer).tail := ⟨rfl, hd_X12_isPlayer, ⟨by decide, by decide⟩, by decide, by decide⟩
theorem xc_X12_isPlayer__X12_in : XCall M_X12_isPlayer M_X12_in 3 0 0 (mW M_X12_in).tail := ⟨rfl, hd_X12_in, ⟨by decide, by decide⟩, by decide, by decide⟩
theorem xc_X12_isRace__X12_isPlayer : XCall M_X12_isRace M_X12_isPlayer 1 0 0 (mW M_X12_isPlayer).tail := ⟨rfl, hd_X12_isPlayer, ⟨by decide, by decide⟩, by decide, by decide⟩
theorem xc_X12_isRace__X12_isRest : XCall M_X12_isRace M_X12_isRest 2 0 0 (mW M_X12_isRest).tail := ⟨rfl, hd_X12_isRest, ⟨by decide, by decide⟩, by decide, by decide⟩
theorem xc_X12_isRack__X12_in : XCall M_X12_isRack M_X12_in 3 0 0 (mW M_X12_in).tail := ⟨rfl, hd_X12_in, ⟨by decide, by decide⟩, by decide, by decide⟩
theorem xc_X12_isRest__X12_in : XCall M_X12_isRest M_X12_in 3 0 0 (mW M_X12_in).tail := ⟨rfl, hd_X12_in, ⟨by decide, by decide⟩, by decide, by decide⟩
theorem xc_X12_isRest__X12_leastRest : XCall M_X12_isRest M_X12_leastRest 0 0 0 (mW M_X12_leastRest).tail := ⟨rfl, hd_X12_leastRest, ⟨by decide, by decide⟩, by decide, by decide⟩
theorem xc_X12_isUnder__X12_kindOf : XCall M_X12_isUnder M_X12_kindOf 1 0 0 (mW M_X12_kindOf).tail := ⟨rfl, hd_X12_kindOf, ⟨by decide, by decide⟩, by decide, by decide⟩
theorem xc_X12_judge__X12_isRest : XCall M_X12_judge M_X12_isRest 2 0 0 (mW M_X12_isRest).tail := ⟨rfl, hd_X12_isRest, ⟨by decide, by decide⟩, by decide, by decide⟩
theorem xc_X12_judge__X12_judgedFrom : XCall M_X12_judge M_X12_judgedFrom 1 0 0 (mW M_X12_judgedFrom).tail := ⟨rfl, hd_X12_judgedFrom, ⟨by decide, by decide⟩, by decide, by decide⟩
theorem xc_X12_judge__X12_readPath : XCall M_X12_judge M_X12_readPath 0 0 0 (mW M_X12_readPath).tail := ⟨rfl, hd_X12_readPath, ⟨by decide, by decide⟩, by decide, by decide⟩
theorem xc_X12_judged__X12_in : XCall M_X12_judged M_X12_in 3 0 0 (mW M_X12_in).tail := ⟨rfl, hd_X12_in, ⟨by decide, by decide⟩, by decide, by decide⟩
theorem xc_X12_judged__X12_isRack : XCall M_X12_judged M_X12_isRack 1 0 0 (mW M_X12_isRack).tail := ⟨rfl, hd_X12_isRack, ⟨by decide, by decide⟩, by decide, by decide⟩
theorem xc_X12_judged__X12_isRest : XCall M_X12_judged M_X12_isRest 2 0 0 (mW M_X12_isRest).tail := ⟨rfl, hd_X12_isRest, ⟨by decide, by decide⟩, by decide, by decide⟩
theorem xc_X12_judged__X12_judgedFrom : XCall M_X12_judged M_X12_judgedFrom 1 0 0 (mW M_X12_judgedFrom).tail := ⟨rfl, hd_X12_judgedFrom, ⟨by decide, by decide⟩, by decide, by decide⟩
theorem xc_X12_judgedFrom__X12_nextRest : XCall M_X12_judgedFrom M_X12_nextRest 2 0 0 (mW M_X12_nextRest).tail := ⟨rfl, hd_X12_nextRest, ⟨by decide, by decide⟩, by decide, by decide⟩
theorem xc_X12_keepBoth__X12_keepFalls : XCall M_X12_keepBoth M_X12_keepFalls 1 0 0 (mW M_X12_keepFalls).tail := ⟨rfl, hd_X12_keepFalls, ⟨by decide, by decide⟩, by decide, by decide⟩
theorem xc_X12_keepFalls__X12_layFalls : XCall M_X12_keepFalls M_X12_layFalls 2 0 0 (mW M_X12_layFalls).tail := ⟨rfl, hd_X12_layFalls, ⟨by decide, by decide⟩, by decide, by decide⟩
theorem xc_X12_laid__X12_in : XCall M_X12_laid M_X12_in 3 0 0 (mW M_X12_in).tail := ⟨rfl, hd_X12_in, ⟨by decide, by decide⟩, by decide, by decide⟩
theorem xc_X12_laid__X12_isRack : XCall M_X12_laid M_X12_isRack 1 0 0 (mW M_X12_isRack).tail := ⟨rfl, hd_X12_isRack, ⟨by decide, by decide⟩, by decide, by decide⟩
theorem xc_X12_layChance__X12_chanceValue : XCall M_X12_layChance M_X12_chanceValue 2 0 0 (mW M_X12_chanceValue).tail := ⟨rfl, hd_X12_chanceValue, ⟨by decide, by decide⟩, by decide, by decide⟩
theorem xc_X12_layChance__X12_takeFalls : XCall M_X12_layChance M_X12_takeFalls 1 0 0 (mW M_X12_takeFalls).tail := ⟨rfl, hd_X12_takeFalls, ⟨by decide, by decide⟩, by decide, by decide⟩
theorem xc_X12_layDarts__X12_dartsValue : XCall M_X12_layDarts M_X12_dartsValue 2 0 0 (mW M_X12_dartsValue).tail := ⟨rfl, hd_X12_dartsValue, ⟨by decide, by decide⟩, by decide, by decide⟩
theorem xc_X12_layDarts__X12_isLaid : XCall M_X12_layDarts M_X12_isLaid 1 0 0 (mW M_X12_isLaid).tail := ⟨rfl, hd_X12_isLaid, ⟨by decide, by decide⟩, by decide, by decide⟩
theorem xc_X12_layDarts__X12_keepFalls : XCall M_X12_layDarts M_X12_keepFalls 1 0 0 (mW M_X12_keepFalls).tail := ⟨rfl, hd_X12_keepFalls, ⟨by decide, by decide⟩, by decide, by decide⟩
theorem xc_X12_layDarts__X12_leastRest : XCall M_X12_layDarts M_X12_leastRest 0 0 0 (mW M_X12_leastRest).tail := ⟨rfl, hd_X12_leastRest, ⟨by decide, by decide⟩, by decide, by decide⟩
theorem xc_X12_layDarts__X12_takeFalls : XCall M_X12_layDarts M_X12_takeFalls 1 0 0 (mW M_X12_takeFalls).tail := ⟨rfl, hd_X12_takeFalls, ⟨by decide, by decide⟩, by decide, by decide⟩
theorem xc_X12_layEnds__X12_endsOf : XCall M_X12_layEnds M_X12_endsOf 1 0 0 (mW M_X12_endsOf).tail := ⟨rfl, hd_X12_endsOf, ⟨by decide, by decide⟩, by decide, by decide⟩
theorem xc_X12_layFalls__X12_besides : XCall M_X12_layFalls M_X12_besides 2 0 0 (mW M_X12_besides).tail := ⟨rfl, hd_X12_besides, ⟨by decide, by decide⟩, by decide, by decide⟩
theorem xc_X12_layFalls__X12_numberOf : XCall M_X12_layFalls M_X12_numberOf 1 0 0 (mW M_X12_numberOf).tail := ⟨rfl, hd_X12_numberOf, ⟨by decide, by decide⟩, by decide, by decide⟩
theorem xc_X12_layFalls__X12_putFall : XCall M_X12_layFalls M_X12_putFall 2 0 0 (mW M_X12_putFall).tail := ⟨rfl, hd_X12_putFall, ⟨by decide, by decide⟩, by decide, by decide⟩
theorem xc_X12_layPair__X12_bestRace : XCall M_X12_layPair M_X12_bestRace 3 0 0 (mW M_X12_bestRace).tail := ⟨rfl, hd_X12_bestRace, ⟨by decide, by decide⟩, by decide, by decide⟩
theorem xc_X12_layRace__X12_keepBoth : XCall M_X12_layRace M_X12_keepBoth 0 0 0 (mW M_X12_keepBoth).tail := ⟨rfl, hd_X12_keepBoth, ⟨by decide, by decide⟩, by decide, by decide⟩
theorem xc_X12_layRace__X12_layPair : XCall M_X12_layRace M_X12_layPair 2 0 0 (mW M_X12_layPair).tail := ⟨rfl, hd_X12_layPair, ⟨by decide, by decide⟩, by decide, by decide⟩
theorem xc_X12_layRace__X12_leastRest : XCall M_X12_layRace M_X12_leastRest 0 0 0 (mW M_X12_leastRest).tail := ⟨rfl, hd_X12_leastRest, ⟨by decide, by decide⟩, by decide, by decide⟩
theorem xc_X12_layWay__X12_layEnds : XCall M_X12_layWay M_X12_layEnds 0 0 0 (mW M_X12_layEnds).tail := ⟨rfl, hd_X12_layEnds, ⟨by decide, by decide⟩, by decide, by decide⟩
theorem xc_X12_layWay__X12_nextRest : XCall M_X12_layWay M_X12_nextRest 2 0 0 (mW M_X12_nextRest).tail := ⟨rfl, hd_X12_nextRest, ⟨by decide, by decide⟩, by decide, by decide⟩
theorem xc_X12_layWay__X12_waysBehind : XCall M_X12_layWay M_X12_waysBehind 2 0 0 (mW M_X12_waysBehind).tail := ⟨rfl, hd_X12_waysBehind, ⟨by decide, by decide⟩, by decide, by decide⟩
theorem xc_X12_layWay__X12_waysBy : XCall M_X12_layWay M_X12_waysBy 2 0 0 (mW M_X12_waysBy).tail := ⟨rfl, hd_X12_waysBy, ⟨by decide, by decide⟩, by decide, by decide⟩
theorem xc_X12_lays__X12_in : XCall M_X12_lays M_X12_in 3 0 0 (mW M_X12_in).tail := ⟨rfl, hd_X12_in, ⟨by decide, by decide⟩, by decide, by decide⟩
theorem xc_X12_lays__X12_isRack : XCall M_X12_lays M_X12_isRack 1 0 0 (mW M_X12_isRack).tail := ⟨rfl, hd_X12_isRack, ⟨by decide, by decide⟩, by decide, by decide⟩
theorem xc_X12_lays__X12_isUnder : XCall M_X12_lays M_X12_isUnder 2 0 0 (mW M_X12_isUnder).tail := ⟨rfl, hd_X12_isUnder, ⟨by decide, by decide⟩, by decide, by decide⟩
theorem xc_X12_like__X12_isRack : XCall M_X12_like M_X12_isRack 1 0 0 (mW M_X12_isRack).tail := ⟨rfl, hd_X12_isRack, ⟨by decide, by decide⟩, by decide, by decide⟩
theorem xc_X12_mayAsk__X12_isPlayer : XCall M_X12_mayAsk M_X12_isPlayer 1 0 0 (mW M_X12_isPlayer).tail := ⟨rfl, hd_X12_isPlayer, ⟨by decide, by decide⟩, by decide, by decide⟩
theorem xc_X12_mayAsk__X12_isRest : XCall M_X12_mayAsk M_X12_isRest 2 0 0 (mW M_X12_isRest).tail := ⟨rfl, hd_X12_isRest, ⟨by decide, by decide⟩, by decide, by decide⟩
theorem xc_X12_minds__X12_drawn : XCall M_X12_minds M_X12_drawn 1 0 0 (mW M_X12_drawn).tail := ⟨rfl, hd_X12_drawn, ⟨by decide, by decide⟩, by decide, by decide⟩
theorem xc_X12_minds__X12_fallsUpon : XCall M_X12_minds M_X12_fallsUpon 1 0 0 (mW M_X12_fallsUpon).tail := ⟨rfl, hd_X12_fallsUpon, ⟨by decide, by decide⟩, by decide, by decide⟩
theorem xc_X12_minds__X12_in : XCall M_X12_minds M_X12_in 3 0 0 (mW M_X12_in).tail := ⟨rfl, hd_X12_in, ⟨by decide, by decide⟩, by decide, by decide⟩
theorem xc_X12_minds__X12_layDarts : XCall M_X12_minds M_X12_layDarts 1 0 0 (mW M_X12_layDarts).tail := ⟨rfl, hd_X12_layDarts, ⟨by decide, by decide⟩, by decide, by decide⟩
theorem xc_X12_nextRest__X12_isUnder : XCall M_X12_nextRest M_X12_isUnder 2 0 0 (mW M_X12_isUnder).tail := ⟨rfl, hd_X12_isUnder, ⟨by decide, by decide⟩, by decide, by decide⟩
theorem xc_X12_nextRest__X12_scoreOf : XCall M_X12_nextRest M_X12_scoreOf 1 0 0 (mW M_X12_scoreOf).tail := ⟨rfl, hd_X12_scoreOf, ⟨by decide, by decide⟩, by decide, by decide⟩
theorem xc_X12_numberOf__X12_in : XCall M_X12_numberOf M_X12_in 3 0 0 (mW M_X12_in).tail := ⟨rfl, hd_X12_in, ⟨by decide, by decide⟩, by decide, by decide⟩
theorem xc_X12_out__X12_in : XCall M_X12_out M_X12_in 3 0 0 (mW M_X12_in).tail := ⟨rfl, hd_X12_in, ⟨by decide, by decide⟩, by decide, by decide⟩
theorem xc_X12_paper__X12_in : XCall M_X12_paper M_X12_in 3 0 0 (mW M_X12_in).tail := ⟨rfl, hd_X12_in, ⟨by decide, by decide⟩, by decide, by decide⟩
theorem xc_X12_percent__X12_isRace : XCall M_X12_percent M_X12_isRace 3 0 0 (mW M_X12_isRace).tail := ⟨rfl, hd_X12_isRace, ⟨by decide, by decide⟩, by decide, by decide⟩
theorem xc_X12_percent__X12_layRace : XCall M_X12_percent M_X12_layRace 0 0 0 (mW M_X12_layRace).tail := ⟨rfl, hd_X12_layRace, ⟨by decide, by decide⟩, by decide, by decide⟩
theorem xc_X12_play__X12_fallsUpon : XCall M_X12_play M_X12_fallsUpon 1 0 0 (mW M_X12_fallsUpon).tail := ⟨rfl, hd_X12_fallsUpon, ⟨by decide, by decide⟩, by decide, by decide⟩
theorem xc_X12_play__X12_readPath : XCall M_X12_play M_X12_readPath 0 0 0 (mW M_X12_readPath).tail := ⟨rfl, hd_X12_readPath, ⟨by decide, by decide⟩, by decide, by decide⟩
theorem xc_X12_race__Jxe99ae_doubleToLongBits_ccdee : XCall M_X12_race M_Jxe99ae_doubleToLongBits_ccdee 1 0 0 (mW M_Jxe99ae_doubleToLongBits_ccdee).tail := ⟨rfl, hd_Jxe99ae_doubleToLongBits_ccdee, ⟨by decide, by decide⟩, by decide, by decide⟩
theorem xc_X12_race__X12_isRace : XCall M_X12_race M_X12_isRace 3 0 0 (mW M_X12_isRace).tail := ⟨rfl, hd_X12_isRace, ⟨by decide, by decide⟩, by decide, by decide⟩
theorem xc_X12_race__X12_layRace : XCall M_X12_race M_X12_layRace 0 0 0 (mW M_X12_layRace).tail := ⟨rfl, hd_X12_layRace, ⟨by decide, by decide⟩, by decide, by decide⟩
theorem xc_X12_raceAim__X12_bestRace : XCall M_X12_raceAim M_X12_bestRace 3 0 0 (mW M_X12_bestRace).tail := ⟨rfl, hd_X12_bestRace, ⟨by decide, by decide⟩, by decide, by decide⟩
theorem xc_X12_raceAim__X12_isRace : XCall M_X12_raceAim M_X12_isRace 3 0 0 (mW M_X12_isRace).tail := ⟨rfl, hd_X12_isRace, ⟨by decide, by decide⟩, by decide, by decide⟩
theorem xc_X12_raceAim__X12_keepBoth : XCall M_X12_raceAim M_X12_keepBoth 0 0 0 (mW M_X12_keepBoth).tail := ⟨rfl, hd_X12_keepBoth, ⟨by decide, by decide⟩, by decide, by decide⟩
theorem xc_X12_raceAim__X12_layRace : XCall M_X12_raceAim M_X12_layRace 0 0 0 (mW M_X12_layRace).tail := ⟨rfl, hd_X12_layRace, ⟨by decide, by decide⟩, by decide, by decide⟩
theorem xc_X12_raceValue__X12_lostBy : XCall M_X12_raceValue M_X12_lostBy 3 0 0 (mW M_X12_lostBy).tail := ⟨rfl, hd_X12_lostBy, ⟨by decide, by decide⟩, by decide, by decide⟩
theorem xc_X12_raceValue__X12_nextRest : XCall M_X12_raceValue M_X12_nextRest 2 0 0 (mW M_X12_nextRest).tail := ⟨rfl, hd_X12_nextRest, ⟨by decide, by decide⟩, by decide, by decide⟩
theorem xc_X12_rack__X12_in : XCall M_X12_rack M_X12_in 3 0 0 (mW M_X12_in).tail := ⟨rfl, hd_X12_in, ⟨by decide, by decide⟩, by decide, by decide⟩
theorem xc_X12_rack__X12_isRack : XCall M_X12_rack M_X12_isRack 1 0 0 (mW M_X12_isRack).tail := ⟨rfl, hd_X12_isRack, ⟨by decide, by decide⟩, by decide, by decide⟩
theorem xc_X12_readNumber__X12_here : XCall M_X12_readNumber M_X12_here 0 0 0 (mW M_X12_here).tail := ⟨rfl, hd_X12_here, ⟨by decide, by decide⟩, by decide, by decide⟩
theorem xc_X12_readNumber__X12_in : XCall M_X12_readNumber M_X12_in 3 0 0 (mW M_X12_in).tail := ⟨rfl, hd_X12_in, ⟨by decide, by decide⟩, by decide, by decide⟩
theorem xc_X12_readPath__X12_here : XCall M_X12_readPath M_X12_here 0 0 0 (mW M_X12_here).tail := ⟨rfl, hd_X12_here, ⟨by decide, by decide⟩, by decide, by decide⟩
theorem xc_X12_readPath__X12_readSpot : XCall M_X12_readPath M_X12_readSpot 0 0 0 (mW M_X12_readSpot).tail := ⟨rfl, hd_X12_readSpot, ⟨by decide, by decide⟩, by decide, by decide⟩
theorem xc_X12_readSpot__X12_here : XCall M_X12_readSpot M_X12_here 0 0 0 (mW M_X12_here).tail := ⟨rfl, hd_X12_here, ⟨by decide, by decide⟩, by decide, by decide⟩
theorem xc_X12_readSpot__X12_readNumber : XCall M_X12_readSpot M_X12_readNumber 0 0 0 (mW M_X12_readNumber).tail := ⟨rfl, hd_X12_readNumber, ⟨by decide, by decide⟩, by decide, by decide⟩
theorem xc_X12_readSpot__X12_wants : XCall M_X12_readSpot M_X12_wants 1 0 0 (mW M_X12_wants).tail := ⟨rfl, hd_X12_wants, ⟨by decide, by decide⟩, by decide, by decide⟩
theorem xc_X12_settled__X12_isRace : XCall M_X12_settled M_X12_isRace 3 0 0 (mW M_X12_isRace).tail := ⟨rfl, hd_X12_isRace, ⟨by decide, by decide⟩, by decide, by decide⟩
theorem xc_X12_settled__X12_layRace : XCall M_X12_settled M_X12_layRace 0 0 0 (mW M_X12_layRace).tail := ⟨rfl, hd_X12_layRace, ⟨by decide, by decide⟩, by decide, by decide⟩
theorem xc_X12_spell__X12_isRest : XCall M_X12_spell M_X12_isRest 2 0 0 (mW M_X12_isRest).tail := ⟨rfl, hd_X12_isRest, ⟨by decide, by decide⟩, by decide, by decide⟩
theorem xc_X12_spell__X12_layWay : XCall M_X12_spell M_X12_layWay 2 0 0 (mW M_X12_layWay).tail := ⟨rfl, hd_X12_layWay, ⟨by decide, by decide⟩, by decide, by decide⟩
theorem xc_X12_spell__X12_writes : XCall M_X12_spell M_X12_writes 1 0 0 (mW M_X12_writes).tail := ⟨rfl, hd_X12_writes, ⟨by decide, by decide⟩, by decide, by decide⟩
theorem xc_X12_spell__X12_writesSpot : XCall M_X12_spell M_X12_writesSpot 1 0 0 (mW M_X12_writesSpot).tail := ⟨rfl, hd_X12_writesSpot, ⟨by decide, by decide⟩, by decide, by decide⟩
theorem xc_X12_spot__X12_besides : XCall M_X12_spot M_X12_besides 2 0 0 (mW M_X12_besides).tail := ⟨rfl, hd_X12_besides, ⟨by decide, by decide⟩, by decide, by decide⟩
theorem xc_X12_spot__X12_in : XCall M_X12_spot M_X12_in 3 0 0 (mW M_X12_in).tail := ⟨rfl, hd_X12_in, ⟨by decide, by decide⟩, by decide, by decide⟩
theorem xc_X12_spot__X12_kindOf : XCall M_X12_spot M_X12_kindOf 1 0 0 (mW M_X12_kindOf).tail := ⟨rfl, hd_X12_kindOf, ⟨by decide, by decide⟩, by decide, by decide⟩
theorem xc_X12_spot__X12_numberOf : XCall M_X12_spot M_X12_numberOf 1 0 0 (mW M_X12_numberOf).tail := ⟨rfl, hd_X12_numberOf, ⟨by decide, by decide⟩, by decide, by decide⟩
theorem xc_X12_spot__X12_scoreOf : XCall M_X12_spot M_X12_scoreOf 1 0 0 (mW M_X12_scoreOf).tail := ⟨rfl, hd_X12_scoreOf, ⟨by decide, by decide⟩, by decide, by decide⟩
theorem xc_X12_start__X12_beginsLeg : XCall M_X12_start M_X12_beginsLeg 1 0 0 (mW M_X12_beginsLeg).tail := ⟨rfl, hd_X12_beginsLeg, ⟨by decide, by decide⟩, by decide, by decide⟩
theorem xc_X12_start__X12_in : XCall M_X12_start M_X12_in 3 0 0 (mW M_X12_in).tail := ⟨rfl, hd_X12_in, ⟨by decide, by decide⟩, by decide, by decide⟩
theorem xc_X12_thousandths__X12_dartsAt : XCall M_X12_thousandths M_X12_dartsAt 2 0 0 (mW M_X12_dartsAt).tail := ⟨rfl, hd_X12_dartsAt, ⟨by decide, by decide⟩, by decide, by decide⟩
theorem xc_X12_thousandths__X12_mayAsk : XCall M_X12_thousandths M_X12_mayAsk 2 0 0 (mW M_X12_mayAsk).tail := ⟨rfl, hd_X12_mayAsk, ⟨by decide, by decide⟩, by decide, by decide⟩
theorem xc_X12_thrown__X12_fallsUpon : XCall M_X12_thrown M_X12_fallsUpon 1 0 0 (mW M_X12_fallsUpon).tail := ⟨rfl, hd_X12_fallsUpon, ⟨by decide, by decide⟩, by decide, by decide⟩
theorem xc_X12_thrown__X12_in : XCall M_X12_thrown M_X12_in 3 0 0 (mW M_X12_in).tail := ⟨rfl, hd_X12_in, ⟨by decide, by decide⟩, by decide, by decide⟩
theorem xc_X12_throwsAt__X12_drawn : XCall M_X12_throwsAt M_X12_drawn 1 0 0 (mW M_X12_drawn).tail := ⟨rfl, hd_X12_drawn, ⟨by decide, by decide⟩, by decide, by decide⟩
theorem xc_X12_throwsAt__X12_fallsUpon : XCall M_X12_throwsAt M_X12_fallsUpon 1 0 0 (mW M_X12_fallsUpon).tail := ⟨rfl, hd_X12_fallsUpon, ⟨by decide, by decide⟩, by decide, by decide⟩
theorem xc_X12_throwsAt__X12_in : XCall M_X12_throwsAt M_X12_in 3 0 0 (mW M_X12_in).tail := ⟨rfl, hd_X12_in, ⟨by decide, by decide⟩, by decide, by decide⟩
theorem xc_X12_told__X12_toldOf : XCall M_X12_told M_X12_toldOf 3 0 0 (mW M_X12_toldOf).tail := ⟨rfl, hd_X12_toldOf, ⟨by decide, by decide⟩, by decide, by decide⟩
theorem xc_X12_toldOf__X12_isPlayer : XCall M_X12_toldOf M_X12_isPlayer 1 0 0 (mW M_X12_isPlayer).tail := ⟨rfl, hd_X12_isPlayer, ⟨by decide, by decide⟩, by decide, by decide⟩
theorem xc_X12_under__X12_in : XCall M_X12_under M_X12_in 3 0 0 (mW M_X12_in).tail := ⟨rfl, hd_X12_in, ⟨by decide, by decide⟩, by decide, by decide⟩
theorem xc_X12_under__X12_isUnder : XCall M_X12_under M_X12_isUnder 2 0 0 (mW M_X12_isUnder).tail := ⟨rfl, hd_X12_isUnder, ⟨by decide, by decide⟩, by decide, by decide⟩
theorem xc_X12_wants__X12_here : XCall M_X12_wants M_X12_here 0 0 0 (mW M_X12_here).tail := ⟨rfl, hd_X12_here, ⟨by decide, by decide⟩, by decide, by decide⟩
theorem xc_X12_way__X12_in : XCall M_X12_way M_X12_in 3 0 0 (mW M_X12_in).tail := ⟨rfl, hd_X12_in, ⟨by decide, by decide⟩, by decide, by decide⟩
theorem xc_X12_way__X12_isRest : XCall M_X12_way M_X12_isRest 2 0 0 (mW M_X12_isRest).tail := ⟨rfl, hd_X12_isRest, ⟨by decide, by decide⟩, by decide, by decide⟩
theorem xc_X12_way__X12_layWay : XCall M_X12_way M_X12_layWay 2 0 0 (mW M_X12_layWay).tail := ⟨rfl, hd_X12_layWay, ⟨by decide, by decide⟩, by decide, by decide⟩
theorem xc_X12_ways__X12_in : XCall M_X12_ways M_X12_in 3 0 0 (mW M_X12_in).tail := ⟨rfl, hd_X12_in, ⟨by decide, by decide⟩, by decide, by decide⟩
theorem xc_X12_ways__X12_isRest : XCall M_X12_ways M_X12_isRest 2 0 0 (mW M_X12_isRest).tail := ⟨rfl, hd_X12_isRest, ⟨by decide, by decide⟩, by decide, by decide⟩
theorem xc_X12_ways__X12_layEnds : XCall M_X12_ways M_X12_layEnds 0 0 0 (mW M_X12_layEnds).tail := ⟨rfl, hd_X12_layEnds, ⟨by decide, by decide⟩, by decide, by decide⟩
theorem xc_X12_ways__X12_waysBy : XCall M_X12_ways M_X12_waysBy 2 0 0 (mW M_X12_waysBy).tail := ⟨rfl, hd_X12_waysBy, ⟨by decide, by decide⟩, by decide, by decide⟩
theorem xc_X12_waysBehind__X12_waysBy : XCall M_X12_waysBehind M_X12_waysBy 2 0 0 (mW M_X12_waysBy).tail := ⟨rfl, hd_X12_waysBy, ⟨by decide, by decide⟩, by decide, by decide⟩
theorem xc_X12_waysBy__X12_endsAt : XCall M_X12_waysBy M_X12_endsAt 1 0 0 (mW M_X12_endsAt).tail := ⟨rfl, hd_X12_endsAt, ⟨by decide, by decide⟩, by decide, by decide⟩
theorem xc_X12_waysBy__X12_waysByThree : XCall M_X12_waysBy M_X12_waysByThree 1 0 0 (mW M_X12_waysByThree).tail := ⟨rfl, hd_X12_waysByThree, ⟨by decide, by decide⟩, by decide, by decide⟩
theorem xc_X12_waysBy__X12_waysByTwo : XCall M_X12_waysBy M_X12_waysByTwo 1 0 0 (mW M_X12_waysByTwo).tail := ⟨rfl, hd_X12_waysByTwo, ⟨by decide, by decide⟩, by decide, by decide⟩
theorem xc_X12_waysByThree__X12_nextRest : XCall M_X12_waysByThree M_X12_nextRest 2 0 0 (mW M_X12_nextRest).tail := ⟨rfl, hd_X12_nextRest, ⟨by decide, by decide⟩, by decide, by decide⟩
theorem xc_X12_waysByThree__X12_waysByTwo : XCall M_X12_waysByThree M_X12_waysByTwo 1 0 0 (mW M_X12_waysByTwo).tail := ⟨rfl, hd_X12_waysByTwo, ⟨by decide, by decide⟩, by decide, by decide⟩
theorem xc_X12_waysByTwo__X12_endsAt : XCall M_X12_waysByTwo M_X12_endsAt 1 0 0 (mW M_X12_endsAt).tail := ⟨rfl, hd_X12_endsAt, ⟨by decide, by decide⟩, by decide, by decide⟩
theorem xc_X12_waysByTwo__X12_nextRest : XCall M_X12_waysByTwo M_X12_nextRest 2 0 0 (mW M_X12_nextRest).tail := ⟨rfl, hd_X12_nextRest, ⟨by decide, by decide⟩, by decide, by decide⟩
theorem xc_X12_writesSpot__X12_numberOf : XCall M_X12_writesSpot M_X12_numberOf 1 0 0 (mW M_X12_numberOf).tail := ⟨rfl, hd_X12_numberOf, ⟨by decide, by decide⟩, by decide, by decide⟩
theorem xc_X12_writesSpot__X12_writes : XCall M_X12_writesSpot M_X12_writes 1 0 0 (mW M_X12_writes).tail := ⟨rfl, hd_X12_writes, ⟨by decide, by decide⟩, by decide, by decide⟩
theorem xc_X1_addBesides__X0_numberBeside : XCall M_X1_addBesides M_X0_numberBeside 2 0 0 (mW M_X0_numberBeside).tail := ⟨rfl, hd_X0_numberBeside, ⟨by decide, by decide⟩, by decide, by decide⟩
theorem xc_X1_addBesides__X1_add : XCall M_X1_addBesides M_X1_add 4 0 0 (mW M_X1_add).tail := ⟨rfl, hd_X1_add, ⟨by decide, by decide⟩, by decide, by decide⟩
theorem xc_X1_init__X1_add : XCall M_X1_init M_X1_add 4 0 0 (mW M_X1_add).tail := ⟨rfl, hd_X1_add, ⟨by decide, by decide⟩, by decide, by decide⟩
theorem xc_X1_init__X1_addBesides : XCall M_X1_init M_X1_addBesides 2 0 0 (mW M_X1_addBesides).tail := ⟨rfl, hd_X1_addBesides, ⟨by decide, by decide⟩, by decide, by decide⟩
theorem xc_X2_countBy__X2_learn : XCall M_X2_countBy M_X2_learn 0 0 0 (mW M_X2_learn).tail := ⟨rfl, hd_X2_learn, ⟨by decide, by decide⟩, by decide, by decide⟩
theorem xc_X2_countFrom__X2_countThrough : XCall M_X2_countFrom M_X2_countThrough 3 0 0 (mW M_X2_countThrough).tail := ⟨rfl, hd_X2_countThrough, ⟨by decide, by decide⟩, by decide, by decide⟩
theorem xc_X2_countOfAll__X2_learn : XCall M_X2_countOfAll M_X2_learn 0 0 0 (mW M_X2_learn).tail := ⟨rfl, hd_X2_learn, ⟨by decide, by decide⟩, by decide, by decide⟩
theorem xc_X2_countThrough__X9_restBehind : XCall M_X2_countThrough M_X9_restBehind 2 0 0 (mW M_X9_restBehind).tail := ⟨rfl, hd_X9_restBehind, ⟨by decide, by decide⟩, by decide, by decide⟩
theorem xc_X2_fillRow__X2_countThrough : XCall M_X2_fillRow M_X2_countThrough 3 0 0 (mW M_X2_countThrough).tail := ⟨rfl, hd_X2_countThrough, ⟨by decide, by decide⟩, by decide, by decide⟩
theorem xc_X2_fillRow__X9_restBehind : XCall M_X2_fillRow M_X9_restBehind 2 0 0 (mW M_X9_restBehind).tail := ⟨rfl, hd_X9_restBehind, ⟨by decide, by decide⟩, by decide, by decide⟩
theorem xc_X2_find__X2_countOfAll : XCall M_X2_find M_X2_countOfAll 1 0 0 (mW M_X2_countOfAll).tail := ⟨rfl, hd_X2_countOfAll, ⟨by decide, by decide⟩, by decide, by decide⟩
theorem xc_X2_find__X2_fillRow : XCall M_X2_find M_X2_fillRow 2 0 0 (mW M_X2_fillRow).tail := ⟨rfl, hd_X2_fillRow, ⟨by decide, by decide⟩, by decide, by decide⟩
theorem xc_X2_learn__X2_countFrom : XCall M_X2_learn M_X2_countFrom 2 0 0 (mW M_X2_countFrom).tail := ⟨rfl, hd_X2_countFrom, ⟨by decide, by decide⟩, by decide, by decide⟩
theorem xc_X3_become__X6_become : XCall M_X3_become M_X6_become 1 0 0 (mW M_X6_become).tail := ⟨rfl, hd_X6_become, ⟨by decide, by decide⟩, by decide, by decide⟩
theorem xc_X3_begin__X3_beginVisit : XCall M_X3_begin M_X3_beginVisit 1 0 0 (mW M_X3_beginVisit).tail := ⟨rfl, hd_X3_beginVisit, ⟨by decide, by decide⟩, by decide, by decide⟩
theorem xc_X3_init__X3_begin : XCall M_X3_init M_X3_begin 0 0 0 (mW M_X3_begin).tail := ⟨rfl, hd_X3_begin, ⟨by decide, by decide⟩, by decide, by decide⟩
theorem xc_X3_land__X3_begin : XCall M_X3_land M_X3_begin 0 0 0 (mW M_X3_begin).tail := ⟨rfl, hd_X3_begin, ⟨by decide, by decide⟩, by decide, by decide⟩
theorem xc_X3_land__X3_beginVisit : XCall M_X3_land M_X3_beginVisit 1 0 0 (mW M_X3_beginVisit).tail := ⟨rfl, hd_X3_beginVisit, ⟨by decide, by decide⟩, by decide, by decide⟩
theorem xc_X4_aimAt__X4_learnDarts : XCall M_X4_aimAt M_X4_learnDarts 1 0 0 (mW M_X4_learnDarts).tail := ⟨rfl, hd_X4_learnDarts, ⟨by decide, by decide⟩, by decide, by decide⟩
theorem xc_X4_become__X4_fillOdds : XCall M_X4_become M_X4_fillOdds 0 0 0 (mW M_X4_fillOdds).tail := ⟨rfl, hd_X4_fillOdds, ⟨by decide, by decide⟩, by decide, by decide⟩
theorem xc_X4_chanceAimAt__X4_learnChances : XCall M_X4_chanceAimAt M_X4_learnChances 1 0 0 (mW M_X4_learnChances).tail := ⟨rfl, hd_X4_learnChances, ⟨by decide, by decide⟩, by decide, by decide⟩
theorem xc_X4_chanceAt__X4_learnChances : XCall M_X4_chanceAt M_X4_learnChances 1 0 0 (mW M_X4_learnChances).tail := ⟨rfl, hd_X4_learnChances, ⟨by decide, by decide⟩, by decide, by decide⟩
theorem xc_X4_chooseAim__X4_dartsBy : XCall M_X4_chooseAim M_X4_dartsBy 1 0 0 (mW M_X4_dartsBy).tail := ⟨rfl, hd_X4_dartsBy, ⟨by decide, by decide⟩, by decide, by decide⟩
theorem xc_X4_chooseChance__X4_chanceBy : XCall M_X4_chooseChance M_X4_chanceBy 2 0 0 (mW M_X4_chanceBy).tail := ⟨rfl, hd_X4_chanceBy, ⟨by decide, by decide⟩, by decide, by decide⟩
theorem xc_X4_dartsAt__X4_learnDarts : XCall M_X4_dartsAt M_X4_learnDarts 1 0 0 (mW M_X4_learnDarts).tail := ⟨rfl, hd_X4_learnDarts, ⟨by decide, by decide⟩, by decide, by decide⟩
theorem xc_X4_fillOdds__X1_fillWeights : XCall M_X4_fillOdds M_X1_fillWeights 3 0 0 (mW M_X1_fillWeights).tail := ⟨rfl, hd_X1_fillWeights, ⟨by decide, by decide⟩, by decide, by decide⟩
theorem xc_X4_forget__X9_leastRest : XCall M_X4_forget M_X9_leastRest 0 0 0 (mW M_X9_leastRest).tail := ⟨rfl, hd_X9_leastRest, ⟨by decide, by decide⟩, by decide, by decide⟩
theorem xc_X4_init__X4_fillOdds : XCall M_X4_init M_X4_fillOdds 0 0 0 (mW M_X4_fillOdds).tail := ⟨rfl, hd_X4_fillOdds, ⟨by decide, by decide⟩, by decide, by decide⟩
theorem xc_X4_init__X4_forget : XCall M_X4_init M_X4_forget 0 0 0 (mW M_X4_forget).tail := ⟨rfl, hd_X4_forget, ⟨by decide, by decide⟩, by decide, by decide⟩
theorem xc_X4_learnChances__X4_chooseChance : XCall M_X4_learnChances M_X4_chooseChance 2 0 0 (mW M_X4_chooseChance).tail := ⟨rfl, hd_X4_chooseChance, ⟨by decide, by decide⟩, by decide, by decide⟩
theorem xc_X4_learnChances__X9_restsBehind : XCall M_X4_learnChances M_X9_restsBehind 2 0 0 (mW M_X9_restsBehind).tail := ⟨rfl, hd_X9_restsBehind, ⟨by decide, by decide⟩, by decide, by decide⟩
theorem xc_X4_learnDarts__X4_chooseAim : XCall M_X4_learnDarts M_X4_chooseAim 1 0 0 (mW M_X4_chooseAim).tail := ⟨rfl, hd_X4_chooseAim, ⟨by decide, by decide⟩, by decide, by decide⟩
theorem xc_X4_learnDarts__X9_restsBehind : XCall M_X4_learnDarts M_X9_restsBehind 2 0 0 (mW M_X9_restsBehind).tail := ⟨rfl, hd_X9_restsBehind, ⟨by decide, by decide⟩, by decide, by decide⟩
theorem xc_X5_putNumber__X5_put : XCall M_X5_putNumber M_X5_put 1 0 0 (mW M_X5_put).tail := ⟨rfl, hd_X5_put, ⟨by decide, by decide⟩, by decide, by decide⟩
theorem xc_X5_putPair__X5_put : XCall M_X5_putPair M_X5_put 1 0 0 (mW M_X5_put).tail := ⟨rfl, hd_X5_put, ⟨by decide, by decide⟩, by decide, by decide⟩
theorem xc_X5_spellRow__X5_put : XCall M_X5_spellRow M_X5_put 1 0 0 (mW M_X5_put).tail := ⟨rfl, hd_X5_put, ⟨by decide, by decide⟩, by decide, by decide⟩
theorem xc_X5_spellRow__X5_spellSpot : XCall M_X5_spellRow M_X5_spellSpot 1 0 0 (mW M_X5_spellSpot).tail := ⟨rfl, hd_X5_spellSpot, ⟨by decide, by decide⟩, by decide, by decide⟩
theorem xc_X5_spellSpot__X0_kindOf : XCall M_X5_spellSpot M_X0_kindOf 1 0 0 (mW M_X0_kindOf).tail := ⟨rfl, hd_X0_kindOf, ⟨by decide, by decide⟩, by decide, by decide⟩
theorem xc_X5_spellSpot__X5_put : XCall M_X5_spellSpot M_X5_put 1 0 0 (mW M_X5_put).tail := ⟨rfl, hd_X5_put, ⟨by decide, by decide⟩, by decide, by decide⟩
theorem xc_X5_spellSpot__X5_putNumber : XCall M_X5_spellSpot M_X5_putNumber 2 0 0 (mW M_X5_putNumber).tail := ⟨rfl, hd_X5_putNumber, ⟨by decide, by decide⟩, by decide, by decide⟩
theorem xc_X5_spellSpot__X5_putPair : XCall M_X5_spellSpot M_X5_putPair 2 0 0 (mW M_X5_putPair).tail := ⟨rfl, hd_X5_putPair, ⟨by decide, by decide⟩, by decide, by decide⟩
theorem xc_X7_aimOf__X7_learn : XCall M_X7_aimOf M_X7_learn 2 0 0 (mW M_X7_learn).tail := ⟨rfl, hd_X7_learn, ⟨by decide, by decide⟩, by decide, by decide⟩
theorem xc_X7_bestAim__X7_valueOf : XCall M_X7_bestAim M_X7_valueOf 3 0 0 (mW M_X7_valueOf).tail := ⟨rfl, hd_X7_valueOf, ⟨by decide, by decide⟩, by decide, by decide⟩
theorem xc_X7_forget__J7_fill_53178 : XCall M_X7_forget M_J7_fill_53178 2 0 0 (mW M_J7_fill_53178).tail := ⟨rfl, hd_J7_fill_53178, ⟨by decide, by decide⟩, by decide, by decide⟩
theorem xc_X7_isStill__X7_learn : XCall M_X7_isStill M_X7_learn 2 0 0 (mW M_X7_learn).tail := ⟨rfl, hd_X7_learn, ⟨by decide, by decide⟩, by decide, by decide⟩
theorem xc_X7_learn__X7_sweep : XCall M_X7_learn M_X7_sweep 2 0 0 (mW M_X7_sweep).tail := ⟨rfl, hd_X7_sweep, ⟨by decide, by decide⟩, by decide, by decide⟩
theorem xc_X7_learn__X9_leastRest : XCall M_X7_learn M_X9_leastRest 0 0 0 (mW M_X9_leastRest).tail := ⟨rfl, hd_X9_leastRest, ⟨by decide, by decide⟩, by decide, by decide⟩
theorem xc_X7_sweep__X7_bestAim : XCall M_X7_sweep M_X7_bestAim 2 0 0 (mW M_X7_bestAim).tail := ⟨rfl, hd_X7_bestAim, ⟨by decide, by decide⟩, by decide, by decide⟩
theorem xc_X7_sweep__X7_valueOf : XCall M_X7_sweep M_X7_valueOf 3 0 0 (mW M_X7_valueOf).tail := ⟨rfl, hd_X7_valueOf, ⟨by decide, by decide⟩, by decide, by decide⟩
theorem xc_X7_sweep__X7_weigh : XCall M_X7_sweep M_X7_weigh 3 0 0 (mW M_X7_weigh).tail := ⟨rfl, hd_X7_weigh, ⟨by decide, by decide⟩, by decide, by decide⟩
theorem xc_X7_weigh__X7_weighAim : XCall M_X7_weigh M_X7_weighAim 4 0 0 (mW M_X7_weighAim).tail := ⟨rfl, hd_X7_weighAim, ⟨by decide, by decide⟩, by decide, by decide⟩
theorem xc_X7_weigh__X9_restsBehind : XCall M_X7_weigh M_X9_restsBehind 2 0 0 (mW M_X9_restsBehind).tail := ⟨rfl, hd_X9_restsBehind, ⟨by decide, by decide⟩, by decide, by decide⟩
theorem xc_X7_wonBy__X7_learn : XCall M_X7_wonBy M_X7_learn 2 0 0 (mW M_X7_learn).tail := ⟨rfl, hd_X7_learn, ⟨by decide, by decide⟩, by decide, by decide⟩
theorem xc_X8_make__J7_fill_53178 : XCall M_X8_make M_J7_fill_53178 2 0 0 (mW M_J7_fill_53178).tail := ⟨rfl, hd_J7_fill_53178, ⟨by decide, by decide⟩, by decide, by decide⟩
theorem xc_X9_become__X9_markEnding : XCall M_X9_become M_X9_markEnding 0 0 0 (mW M_X9_markEnding).tail := ⟨rfl, hd_X9_markEnding, ⟨by decide, by decide⟩, by decide, by decide⟩
theorem xc_X9_init__X0_scoreOf : XCall M_X9_init M_X0_scoreOf 1 0 0 (mW M_X0_scoreOf).tail := ⟨rfl, hd_X0_scoreOf, ⟨by decide, by decide⟩, by decide, by decide⟩
theorem xc_X9_init__X9_markEnding : XCall M_X9_init M_X9_markEnding 0 0 0 (mW M_X9_markEnding).tail := ⟨rfl, hd_X9_markEnding, ⟨by decide, by decide⟩, by decide, by decide⟩
theorem xc_X9_markEnding__X0_isOfKind : XCall M_X9_markEnding M_X0_isOfKind 2 0 0 (mW M_X0_isOfKind).tail := ⟨rfl, hd_X0_isOfKind, ⟨by decide, by decide⟩, by decide, by decide⟩
theorem xc_X9_restsBehind__X9_restBehind : XCall M_X9_restsBehind M_X9_restBehind 2 0 0 (mW M_X9_restBehind).tail := ⟨rfl, hd_X9_restBehind, ⟨by decide, by decide⟩, by decide, by decide⟩
theorem xc_X9_verdict__X9_restBehind : XCall M_X9_verdict M_X9_restBehind 2 0 0 (mW M_X9_restBehind).tail := ⟨rfl, hd_X9_restBehind, ⟨by decide, by decide⟩, by decide, by decide⟩
