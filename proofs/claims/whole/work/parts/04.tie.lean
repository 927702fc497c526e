/-! THE TABLES HOLD: each row of the abstract machine against the class files' words and bytes -/
def am_tb : List Cond := lw_tbl.filter goodWord
theorem am_tb_in {i : Nat} {w : Cond} (h : lw_tbl[i]? = some w) (g : goodWord w = true) : w ∈ am_tb := List.mem_filter.mpr ⟨List.mem_of_getElem? h, g⟩
def am_cc (ci : Nat) : vw_C := (am_at vwCl ci).getD (RX0, TX0, 2)
def am_flw (e : Nat × Nat × Nat × Nat × Nat × Nat) : Cond := match e.2.2.2.2.2 with
  | 1 => .fieldLinkNest (am_own e.1) e.2.1 (am_cc e.2.2.1).1 ((am_cc e.2.2.1).2.1 e.2.2.2.1).2.1 ((am_cc e.2.2.1).2.1 e.2.2.2.1).2.2.1 RX7
  | _ => .fieldLink (am_own e.1) e.2.1 (am_cc e.2.2.1).1 ((am_cc e.2.2.1).2.1 e.2.2.2.1).2.1 ((am_cc e.2.2.1).2.1 e.2.2.2.1).2.2.1
def am_fl1 (e : Nat × Nat × Nat × Nat × Nat × Nat) : Bool := decide (lw_tbl[e.2.2.2.2.1]? = some (am_flw e)) && (Nat.beq e.2.2.2.2.2 1 || goodWord (am_flw e)) && decide (e.2.2.1 < 9) && decide (e.2.2.2.1 < (am_cc e.2.2.1).2.2)
set_option maxRecDepth 100000 in
theorem am_fl_ok : am_fl.all am_fl1 = true := by decide +kernel
def am_mlw (e : Nat × Nat × Nat × Nat × Nat) : Cond := match e.2.2.2.2 with
  | 1 => .methodLinkNest (am_own e.1) e.2.1 (am_me e.2.2.1).2.1 RX7
  | _ => .methodLink (am_own e.1) e.2.1 (am_me e.2.2.1).2.1
def am_ml1 (e : Nat × Nat × Nat × Nat × Nat) : Bool := decide (lw_tbl[e.2.2.2.1]? = some (am_mlw e)) && (Nat.beq e.2.2.2.2 1 || goodWord (am_mlw e)) && decide (e.2.2.1 < 190)
set_option maxRecDepth 100000 in
theorem am_ml_ok : am_ml.all am_ml1 = true := by decide +kernel
set_option maxRecDepth 100000 in
theorem am_ci_ok : am_ci.all (fun e => decide (lw_tbl[e.2.2.2]? = some (.constant (am_own e.1) e.2.1 e.2.2.1)) && goodWord (.constant (am_own e.1) e.2.1 e.2.2.1)) = true := by decide +kernel
set_option maxRecDepth 100000 in
theorem am_cj_ok : am_cj.all (fun e => decide (lw_tbl[e.2.2.2]? = some (.constantLong (am_own e.1) e.2.1 e.2.2.1)) && goodWord (.constantLong (am_own e.1) e.2.1 e.2.2.1)) = true := by decide +kernel
/-- a method's words -/
def am_me1 (M : Nat) : Bool := match am_me M with
  | (oc, y, b, nL, ret, stc, n, p1, p2, p3, p4) => decide (lw_tbl[p2]? = some (if stc then .static y else .instanceMethod y)) && (stc || decide (lw_tbl[p3]? = some (.selects y.cls y y))) && decide (lw_tbl[p4]? = some (.initialized y.cls)) &&
    decide (y.cls = am_own oc) && decide (y.cls ≠ "java/lang/invoke/MethodHandle") && decide (y.cls ≠ "java/lang/invoke/VarHandle") && decide ((parseMethodDescriptor y.desc).map (fun d => d.parameters.length) = some n) && decide (nL ≤ 22) &&
    goodWord (.static y) && goodWord (.instanceMethod y) && goodWord (.selects y.cls y y) && goodWord (.initialized y.cls)
set_option maxRecDepth 100000 in
theorem am_cw_0 : lw_tbl[meX0_walk.2.2.2.2.2.2.2.1]? = some (.code meX0_walk.2.1 meX0_walk.2.2.1 meX0_walk.2.2.2.1 meX0_walk.2.2.2.2.1) := by rfl
set_option maxRecDepth 100000 in
theorem am_cw_1 : lw_tbl[meX0_comingOnto.2.2.2.2.2.2.2.1]? = some (.code meX0_comingOnto.2.1 meX0_comingOnto.2.2.1 meX0_comingOnto.2.2.2.1 meX0_comingOnto.2.2.2.2.1) := by rfl
set_option maxRecDepth 100000 in
theorem am_cw_2 : lw_tbl[meX0_endingOn.2.2.2.2.2.2.2.1]? = some (.code meX0_endingOn.2.1 meX0_endingOn.2.2.1 meX0_endingOn.2.2.2.1 meX0_endingOn.2.2.2.2.1) := by rfl
set_option maxRecDepth 100000 in
theorem am_cw_3 : lw_tbl[meX0_inAll.2.2.2.2.2.2.2.1]? = some (.code meX0_inAll.2.1 meX0_inAll.2.2.1 meX0_inAll.2.2.2.1 meX0_inAll.2.2.2.2.1) := by rfl
set_option maxRecDepth 100000 in
theorem am_cw_4 : lw_tbl[meX0_likeliestSquare.2.2.2.2.2.2.2.1]? = some (.code meX0_likeliestSquare.2.1 meX0_likeliestSquare.2.2.1 meX0_likeliestSquare.2.2.2.1 meX0_likeliestSquare.2.2.2.2.1) := by rfl
set_option maxRecDepth 100000 in
theorem am_cw_5 : lw_tbl[meX1_become.2.2.2.2.2.2.2.1]? = some (.code meX1_become.2.1 meX1_become.2.2.1 meX1_become.2.2.2.1 meX1_become.2.2.2.2.1) := by rfl
set_option maxRecDepth 100000 in
theorem am_cw_6 : lw_tbl[meX1_squaresOf.2.2.2.2.2.2.2.1]? = some (.code meX1_squaresOf.2.1 meX1_squaresOf.2.2.1 meX1_squaresOf.2.2.2.1 meX1_squaresOf.2.2.2.2.1) := by rfl
set_option maxRecDepth 100000 in
theorem am_cw_7 : lw_tbl[meX1_open.2.2.2.2.2.2.2.1]? = some (.code meX1_open.2.1 meX1_open.2.2.1 meX1_open.2.2.2.1 meX1_open.2.2.2.2.1) := by rfl
set_option maxRecDepth 100000 in
theorem am_cw_8 : lw_tbl[meX1_kindAt.2.2.2.2.2.2.2.1]? = some (.code meX1_kindAt.2.1 meX1_kindAt.2.2.1 meX1_kindAt.2.2.2.1 meX1_kindAt.2.2.2.2.1) := by rfl
set_option maxRecDepth 100000 in
theorem am_cw_9 : lw_tbl[meX1_stepsOff.2.2.2.2.2.2.2.1]? = some (.code meX1_stepsOff.2.1 meX1_stepsOff.2.2.1 meX1_stepsOff.2.2.2.1 meX1_stepsOff.2.2.2.2.1) := by rfl
set_option maxRecDepth 100000 in
theorem am_cw_10 : lw_tbl[meX1_stepsOffSun.2.2.2.2.2.2.2.1]? = some (.code meX1_stepsOffSun.2.1 meX1_stepsOffSun.2.2.1 meX1_stepsOffSun.2.2.2.1 meX1_stepsOffSun.2.2.2.2.1) := by rfl
set_option maxRecDepth 100000 in
theorem am_cw_11 : lw_tbl[meX1_lay.2.2.2.2.2.2.2.1]? = some (.code meX1_lay.2.1 meX1_lay.2.2.1 meX1_lay.2.2.2.1 meX1_lay.2.2.2.2.1) := by rfl
set_option maxRecDepth 100000 in
theorem am_cw_12 : lw_tbl[meX1_liveAt.2.2.2.2.2.2.2.1]? = some (.code meX1_liveAt.2.1 meX1_liveAt.2.2.1 meX1_liveAt.2.2.2.1 meX1_liveAt.2.2.2.2.1) := by rfl
set_option maxRecDepth 100000 in
theorem am_cw_13 : lw_tbl[meX1_takePace.2.2.2.2.2.2.2.1]? = some (.code meX1_takePace.2.1 meX1_takePace.2.2.1 meX1_takePace.2.2.2.1 meX1_takePace.2.2.2.2.1) := by rfl
set_option maxRecDepth 100000 in
theorem am_cw_14 : lw_tbl[meX1_takeWarm.2.2.2.2.2.2.2.1]? = some (.code meX1_takeWarm.2.1 meX1_takeWarm.2.2.1 meX1_takeWarm.2.2.2.1 meX1_takeWarm.2.2.2.2.1) := by rfl
set_option maxRecDepth 100000 in
theorem am_cw_15 : lw_tbl[meX1_addSeeker.2.2.2.2.2.2.2.1]? = some (.code meX1_addSeeker.2.1 meX1_addSeeker.2.2.1 meX1_addSeeker.2.2.2.1 meX1_addSeeker.2.2.2.2.1) := by rfl
set_option maxRecDepth 100000 in
theorem am_cw_16 : lw_tbl[meX1_hasSeeker.2.2.2.2.2.2.2.1]? = some (.code meX1_hasSeeker.2.1 meX1_hasSeeker.2.2.1 meX1_hasSeeker.2.2.2.1 meX1_hasSeeker.2.2.2.2.1) := by rfl
set_option maxRecDepth 100000 in
theorem am_cw_17 : lw_tbl[meX1_kindOfSeeker.2.2.2.2.2.2.2.1]? = some (.code meX1_kindOfSeeker.2.1 meX1_kindOfSeeker.2.2.1 meX1_kindOfSeeker.2.2.2.1 meX1_kindOfSeeker.2.2.2.2.1) := by rfl
set_option maxRecDepth 100000 in
theorem am_cw_18 : lw_tbl[meX1_squareOfSeeker.2.2.2.2.2.2.2.1]? = some (.code meX1_squareOfSeeker.2.1 meX1_squareOfSeeker.2.2.1 meX1_squareOfSeeker.2.2.2.1 meX1_squareOfSeeker.2.2.2.2.1) := by rfl
set_option maxRecDepth 100000 in
theorem am_cw_19 : lw_tbl[meX1_placeSeeker.2.2.2.2.2.2.2.1]? = some (.code meX1_placeSeeker.2.1 meX1_placeSeeker.2.2.1 meX1_placeSeeker.2.2.2.1 meX1_placeSeeker.2.2.2.2.1) := by rfl
set_option maxRecDepth 100000 in
theorem am_cw_20 : lw_tbl[meX2_begin.2.2.2.2.2.2.2.1]? = some (.code meX2_begin.2.1 meX2_begin.2.2.1 meX2_begin.2.2.2.1 meX2_begin.2.2.2.2.1) := by rfl
set_option maxRecDepth 100000 in
theorem am_cw_21 : lw_tbl[meX2_look.2.2.2.2.2.2.2.1]? = some (.code meX2_look.2.1 meX2_look.2.2.1 meX2_look.2.2.2.1 meX2_look.2.2.2.2.1) := by rfl
set_option maxRecDepth 100000 in
theorem am_cw_22 : lw_tbl[meX2_seek.2.2.2.2.2.2.2.1]? = some (.code meX2_seek.2.1 meX2_seek.2.2.1 meX2_seek.2.2.2.1 meX2_seek.2.2.2.2.1) := by rfl
set_option maxRecDepth 100000 in
theorem am_cw_23 : lw_tbl[meX2_choice.2.2.2.2.2.2.2.1]? = some (.code meX2_choice.2.1 meX2_choice.2.2.1 meX2_choice.2.2.2.1 meX2_choice.2.2.2.2.1) := by rfl
set_option maxRecDepth 100000 in
theorem am_cw_24 : lw_tbl[meX2_standOf.2.2.2.2.2.2.2.1]? = some (.code meX2_standOf.2.1 meX2_standOf.2.2.1 meX2_standOf.2.2.2.1 meX2_standOf.2.2.2.2.1) := by rfl
set_option maxRecDepth 100000 in
theorem am_cw_25 : lw_tbl[meX2_goalAhead.2.2.2.2.2.2.2.1]? = some (.code meX2_goalAhead.2.1 meX2_goalAhead.2.2.1 meX2_goalAhead.2.2.2.1 meX2_goalAhead.2.2.2.2.1) := by rfl
set_option maxRecDepth 100000 in
theorem am_cw_26 : lw_tbl[meX2_nearest.2.2.2.2.2.2.2.1]? = some (.code meX2_nearest.2.1 meX2_nearest.2.2.1 meX2_nearest.2.2.2.1 meX2_nearest.2.2.2.2.1) := by rfl
set_option maxRecDepth 100000 in
theorem am_cw_27 : lw_tbl[meX2_withMostBeside.2.2.2.2.2.2.2.1]? = some (.code meX2_withMostBeside.2.1 meX2_withMostBeside.2.2.1 meX2_withMostBeside.2.2.2.1 meX2_withMostBeside.2.2.2.2.1) := by rfl
set_option maxRecDepth 100000 in
theorem am_cw_28 : lw_tbl[meX2_withFewestBeside.2.2.2.2.2.2.2.1]? = some (.code meX2_withFewestBeside.2.1 meX2_withFewestBeside.2.2.1 meX2_withFewestBeside.2.2.2.1 meX2_withFewestBeside.2.2.2.2.1) := by rfl
set_option maxRecDepth 100000 in
theorem am_cw_29 : lw_tbl[meX3_seed.2.2.2.2.2.2.2.1]? = some (.code meX3_seed.2.1 meX3_seed.2.2.1 meX3_seed.2.2.2.1 meX3_seed.2.2.2.2.1) := by rfl
set_option maxRecDepth 100000 in
theorem am_cw_30 : lw_tbl[meX3_draw.2.2.2.2.2.2.2.1]? = some (.code meX3_draw.2.1 meX3_draw.2.2.1 meX3_draw.2.2.2.1 meX3_draw.2.2.2.2.1) := by rfl
set_option maxRecDepth 100000 in
theorem am_cw_31 : lw_tbl[meX4_isFull.2.2.2.2.2.2.2.1]? = some (.code meX4_isFull.2.1 meX4_isFull.2.2.1 meX4_isFull.2.2.2.1 meX4_isFull.2.2.2.2.1) := by rfl
set_option maxRecDepth 100000 in
theorem am_cw_32 : lw_tbl[meX4_add.2.2.2.2.2.2.2.1]? = some (.code meX4_add.2.1 meX4_add.2.2.1 meX4_add.2.2.2.1 meX4_add.2.2.2.2.1) := by rfl
set_option maxRecDepth 100000 in
theorem am_cw_33 : lw_tbl[meX4_clear.2.2.2.2.2.2.2.1]? = some (.code meX4_clear.2.1 meX4_clear.2.2.1 meX4_clear.2.2.2.1 meX4_clear.2.2.2.2.1) := by rfl
set_option maxRecDepth 100000 in
theorem am_cw_34 : lw_tbl[meX4_at.2.2.2.2.2.2.2.1]? = some (.code meX4_at.2.1 meX4_at.2.2.1 meX4_at.2.2.2.1 meX4_at.2.2.2.2.1) := by rfl
set_option maxRecDepth 100000 in
theorem am_cw_35 : lw_tbl[meX5_tellTo.2.2.2.2.2.2.2.1]? = some (.code meX5_tellTo.2.1 meX5_tellTo.2.2.1 meX5_tellTo.2.2.2.1 meX5_tellTo.2.2.2.2.1) := by rfl
set_option maxRecDepth 100000 in
theorem am_cw_36 : lw_tbl[meX5_firstMisfit.2.2.2.2.2.2.2.1]? = some (.code meX5_firstMisfit.2.1 meX5_firstMisfit.2.2.1 meX5_firstMisfit.2.2.2.1 meX5_firstMisfit.2.2.2.2.1) := by rfl
set_option maxRecDepth 100000 in
theorem am_cw_37 : lw_tbl[meX5_shapeBehind.2.2.2.2.2.2.2.1]? = some (.code meX5_shapeBehind.2.1 meX5_shapeBehind.2.2.1 meX5_shapeBehind.2.2.2.1 meX5_shapeBehind.2.2.2.2.1) := by rfl
set_option maxRecDepth 100000 in
theorem am_cw_38 : lw_tbl[meX5_fits.2.2.2.2.2.2.2.1]? = some (.code meX5_fits.2.1 meX5_fits.2.2.1 meX5_fits.2.2.2.1 meX5_fits.2.2.2.2.1) := by rfl
set_option maxRecDepth 100000 in
theorem am_cw_39 : lw_tbl[meX5_comes.2.2.2.2.2.2.2.1]? = some (.code meX5_comes.2.1 meX5_comes.2.2.1 meX5_comes.2.2.2.1 meX5_comes.2.2.2.2.1) := by rfl
set_option maxRecDepth 100000 in
theorem am_cw_40 : lw_tbl[meX5_digitAt.2.2.2.2.2.2.2.1]? = some (.code meX5_digitAt.2.1 meX5_digitAt.2.2.1 meX5_digitAt.2.2.2.1 meX5_digitAt.2.2.2.2.1) := by rfl
set_option maxRecDepth 100000 in
theorem am_cw_41 : lw_tbl[meX5_pairAt.2.2.2.2.2.2.2.1]? = some (.code meX5_pairAt.2.1 meX5_pairAt.2.2.1 meX5_pairAt.2.2.2.1 meX5_pairAt.2.2.2.2.1) := by rfl
set_option maxRecDepth 100000 in
theorem am_cw_42 : lw_tbl[meX6_spread.2.2.2.2.2.2.2.1]? = some (.code meX6_spread.2.1 meX6_spread.2.2.1 meX6_spread.2.2.2.1 meX6_spread.2.2.2.2.1) := by rfl
set_option maxRecDepth 100000 in
theorem am_cw_43 : lw_tbl[meX6_layer.2.2.2.2.2.2.2.1]? = some (.code meX6_layer.2.1 meX6_layer.2.2.1 meX6_layer.2.2.2.1 meX6_layer.2.2.2.2.1) := by rfl
set_option maxRecDepth 100000 in
theorem am_cw_44 : lw_tbl[meX6_within.2.2.2.2.2.2.2.1]? = some (.code meX6_within.2.1 meX6_within.2.2.1 meX6_within.2.2.2.1 meX6_within.2.2.2.2.1) := by rfl
set_option maxRecDepth 100000 in
theorem am_cw_45 : lw_tbl[meX6_stepsTo.2.2.2.2.2.2.2.1]? = some (.code meX6_stepsTo.2.1 meX6_stepsTo.2.2.1 meX6_stepsTo.2.2.2.1 meX6_stepsTo.2.2.2.2.1) := by rfl
set_option maxRecDepth 100000 in
theorem am_cw_46 : lw_tbl[meX7_letter.2.2.2.2.2.2.2.1]? = some (.code meX7_letter.2.1 meX7_letter.2.2.1 meX7_letter.2.2.2.1 meX7_letter.2.2.2.2.1) := by rfl
set_option maxRecDepth 100000 in
theorem am_cw_47 : lw_tbl[meX7_garden.2.2.2.2.2.2.2.1]? = some (.code meX7_garden.2.1 meX7_garden.2.2.1 meX7_garden.2.2.2.1 meX7_garden.2.2.2.2.1) := by rfl
set_option maxRecDepth 100000 in
theorem am_cw_48 : lw_tbl[meX7_square.2.2.2.2.2.2.2.1]? = some (.code meX7_square.2.1 meX7_square.2.2.1 meX7_square.2.2.2.1 meX7_square.2.2.2.2.1) := by rfl
set_option maxRecDepth 100000 in
theorem am_cw_49 : lw_tbl[meX7_turnTo.2.2.2.2.2.2.2.1]? = some (.code meX7_turnTo.2.1 meX7_turnTo.2.2.1 meX7_turnTo.2.2.2.1 meX7_turnTo.2.2.2.2.1) := by rfl
set_option maxRecDepth 100000 in
theorem am_cw_50 : lw_tbl[meX7_set.2.2.2.2.2.2.2.1]? = some (.code meX7_set.2.1 meX7_set.2.2.1 meX7_set.2.2.2.1 meX7_set.2.2.2.2.1) := by rfl
set_option maxRecDepth 100000 in
theorem am_cw_51 : lw_tbl[meX7_seeker.2.2.2.2.2.2.2.1]? = some (.code meX7_seeker.2.1 meX7_seeker.2.2.1 meX7_seeker.2.2.2.1 meX7_seeker.2.2.2.2.1) := by rfl
set_option maxRecDepth 100000 in
theorem am_cw_52 : lw_tbl[meX7_stand.2.2.2.2.2.2.2.1]? = some (.code meX7_stand.2.1 meX7_stand.2.2.1 meX7_stand.2.2.2.1 meX7_stand.2.2.2.2.1) := by rfl
set_option maxRecDepth 100000 in
theorem am_cw_53 : lw_tbl[meX7_steps.2.2.2.2.2.2.2.1]? = some (.code meX7_steps.2.1 meX7_steps.2.2.1 meX7_steps.2.2.2.1 meX7_steps.2.2.2.2.1) := by rfl
set_option maxRecDepth 100000 in
theorem am_cw_54 : lw_tbl[meX7_mayBe.2.2.2.2.2.2.2.1]? = some (.code meX7_mayBe.2.1 meX7_mayBe.2.2.1 meX7_mayBe.2.2.2.1 meX7_mayBe.2.2.2.2.1) := by rfl
set_option maxRecDepth 100000 in
theorem am_cw_55 : lw_tbl[meX7_out.2.2.2.2.2.2.2.1]? = some (.code meX7_out.2.1 meX7_out.2.2.1 meX7_out.2.2.2.1 meX7_out.2.2.2.2.1) := by rfl
set_option maxRecDepth 100000 in
theorem am_cw_56 : lw_tbl[meX7_shut.2.2.2.2.2.2.2.1]? = some (.code meX7_shut.2.1 meX7_shut.2.2.1 meX7_shut.2.2.2.1 meX7_shut.2.2.2.2.1) := by rfl
set_option maxRecDepth 100000 in
theorem am_cw_57 : lw_tbl[meX7_firstGap.2.2.2.2.2.2.2.1]? = some (.code meX7_firstGap.2.1 meX7_firstGap.2.2.1 meX7_firstGap.2.2.2.1 meX7_firstGap.2.2.2.2.1) := by rfl
set_option maxRecDepth 100000 in
theorem am_cw_58 : lw_tbl[meX7_search.2.2.2.2.2.2.2.1]? = some (.code meX7_search.2.1 meX7_search.2.2.1 meX7_search.2.2.2.1 meX7_search.2.2.2.2.1) := by rfl
set_option maxRecDepth 100000 in
theorem am_cw_59 : lw_tbl[meX7_left.2.2.2.2.2.2.2.1]? = some (.code meX7_left.2.1 meX7_left.2.2.1 meX7_left.2.2.2.1 meX7_left.2.2.2.2.1) := by rfl
set_option maxRecDepth 100000 in
theorem am_cw_60 : lw_tbl[meX7_looksAt.2.2.2.2.2.2.2.1]? = some (.code meX7_looksAt.2.1 meX7_looksAt.2.2.1 meX7_looksAt.2.2.2.1 meX7_looksAt.2.2.2.2.1) := by rfl
set_option maxRecDepth 100000 in
theorem am_cw_61 : lw_tbl[meX7_bestSeeker.2.2.2.2.2.2.2.1]? = some (.code meX7_bestSeeker.2.1 meX7_bestSeeker.2.2.1 meX7_bestSeeker.2.2.2.1 meX7_bestSeeker.2.2.2.2.1) := by rfl
set_option maxRecDepth 100000 in
theorem am_cw_62 : lw_tbl[meX7_together.2.2.2.2.2.2.2.1]? = some (.code meX7_together.2.1 meX7_together.2.2.1 meX7_together.2.2.2.1 meX7_together.2.2.2.2.1) := by rfl
set_option maxRecDepth 100000 in
theorem am_cw_63 : lw_tbl[meX7_hold.2.2.2.2.2.2.2.1]? = some (.code meX7_hold.2.1 meX7_hold.2.2.1 meX7_hold.2.2.2.1 meX7_hold.2.2.2.2.1) := by rfl
set_option maxRecDepth 100000 in
theorem am_cw_64 : lw_tbl[meX7_ways.2.2.2.2.2.2.2.1]? = some (.code meX7_ways.2.1 meX7_ways.2.2.1 meX7_ways.2.2.2.1 meX7_ways.2.2.2.2.1) := by rfl
set_option maxRecDepth 100000 in
theorem am_cw_65 : lw_tbl[meX7_likely.2.2.2.2.2.2.2.1]? = some (.code meX7_likely.2.1 meX7_likely.2.2.1 meX7_likely.2.2.2.1 meX7_likely.2.2.2.2.1) := by rfl
set_option maxRecDepth 100000 in
theorem am_cw_66 : lw_tbl[meX7_likeliest.2.2.2.2.2.2.2.1]? = some (.code meX7_likeliest.2.1 meX7_likeliest.2.2.1 meX7_likeliest.2.2.2.1 meX7_likeliest.2.2.2.2.1) := by rfl
set_option maxRecDepth 100000 in
theorem am_cw_67 : lw_tbl[meX7_turning.2.2.2.2.2.2.2.1]? = some (.code meX7_turning.2.1 meX7_turning.2.2.1 meX7_turning.2.2.2.1 meX7_turning.2.2.2.2.1) := by rfl
set_option maxRecDepth 100000 in
theorem am_cw_68 : lw_tbl[meX7_finds.2.2.2.2.2.2.2.1]? = some (.code meX7_finds.2.1 meX7_finds.2.2.1 meX7_finds.2.2.2.1 meX7_finds.2.2.2.2.1) := by rfl
set_option maxRecDepth 100000 in
theorem am_cw_69 : lw_tbl[meX7_row.2.2.2.2.2.2.2.1]? = some (.code meX7_row.2.1 meX7_row.2.2.1 meX7_row.2.2.2.1 meX7_row.2.2.2.2.1) := by rfl
set_option maxRecDepth 100000 in
theorem am_cw_70 : lw_tbl[meX7_judge.2.2.2.2.2.2.2.1]? = some (.code meX7_judge.2.1 meX7_judge.2.2.1 meX7_judge.2.2.2.1 meX7_judge.2.2.2.2.1) := by rfl
set_option maxRecDepth 100000 in
theorem am_cw_71 : lw_tbl[meX7_behind.2.2.2.2.2.2.2.1]? = some (.code meX7_behind.2.1 meX7_behind.2.2.1 meX7_behind.2.2.2.1 meX7_behind.2.2.2.2.1) := by rfl
set_option maxRecDepth 100000 in
theorem am_cw_72 : lw_tbl[meX7_lots.2.2.2.2.2.2.2.1]? = some (.code meX7_lots.2.1 meX7_lots.2.2.1 meX7_lots.2.2.2.1 meX7_lots.2.2.2.2.1) := by rfl
set_option maxRecDepth 100000 in
theorem am_cw_73 : lw_tbl[meX7_image.2.2.2.2.2.2.2.1]? = some (.code meX7_image.2.1 meX7_image.2.2.1 meX7_image.2.2.2.1 meX7_image.2.2.2.2.1) := by rfl
set_option maxRecDepth 100000 in
theorem am_cw_74 : lw_tbl[meX7_on.2.2.2.2.2.2.2.1]? = some (.code meX7_on.2.1 meX7_on.2.2.1 meX7_on.2.2.2.1 meX7_on.2.2.2.2.1) := by rfl
set_option maxRecDepth 100000 in
theorem am_cw_75 : lw_tbl[meX7_count.2.2.2.2.2.2.2.1]? = some (.code meX7_count.2.1 meX7_count.2.2.1 meX7_count.2.2.2.1 meX7_count.2.2.2.2.1) := by rfl
set_option maxRecDepth 100000 in
theorem am_cw_76 : lw_tbl[meX7_refused.2.2.2.2.2.2.2.1]? = some (.code meX7_refused.2.1 meX7_refused.2.2.1 meX7_refused.2.2.2.1 meX7_refused.2.2.2.2.1) := by rfl
set_option maxRecDepth 100000 in
theorem am_cw_77 : lw_tbl[meX7_refusedLong.2.2.2.2.2.2.2.1]? = some (.code meX7_refusedLong.2.1 meX7_refusedLong.2.2.1 meX7_refusedLong.2.2.2.1 meX7_refusedLong.2.2.2.2.1) := by rfl
set_option maxRecDepth 100000 in
theorem am_cw_78 : lw_tbl[meX7_refusalsOf.2.2.2.2.2.2.2.1]? = some (.code meX7_refusalsOf.2.1 meX7_refusalsOf.2.2.1 meX7_refusalsOf.2.2.2.1 meX7_refusalsOf.2.2.2.2.1) := by rfl
set_option maxRecDepth 100000 in
theorem am_cw_79 : lw_tbl[meX7_wrongMinute.2.2.2.2.2.2.2.1]? = some (.code meX7_wrongMinute.2.1 meX7_wrongMinute.2.2.1 meX7_wrongMinute.2.2.2.1 meX7_wrongMinute.2.2.2.2.1) := by rfl
set_option maxRecDepth 100000 in
theorem am_cw_80 : lw_tbl[meX7_wrongNumber.2.2.2.2.2.2.2.1]? = some (.code meX7_wrongNumber.2.1 meX7_wrongNumber.2.2.1 meX7_wrongNumber.2.2.2.1 meX7_wrongNumber.2.2.2.2.1) := by rfl
set_option maxRecDepth 100000 in
theorem am_cw_81 : lw_tbl[meX7_wrongSearch.2.2.2.2.2.2.2.1]? = some (.code meX7_wrongSearch.2.1 meX7_wrongSearch.2.2.1 meX7_wrongSearch.2.2.2.1 meX7_wrongSearch.2.2.2.2.1) := by rfl
set_option maxRecDepth 100000 in
theorem am_cw_82 : lw_tbl[meX7_wrongWays.2.2.2.2.2.2.2.1]? = some (.code meX7_wrongWays.2.1 meX7_wrongWays.2.2.1 meX7_wrongWays.2.2.2.1 meX7_wrongWays.2.2.2.2.1) := by rfl
set_option maxRecDepth 100000 in
theorem am_cw_83 : lw_tbl[meX7_setHome.2.2.2.2.2.2.2.1]? = some (.code meX7_setHome.2.1 meX7_setHome.2.2.1 meX7_setHome.2.2.2.1 meX7_setHome.2.2.2.2.1) := by rfl
set_option maxRecDepth 100000 in
theorem am_cw_84 : lw_tbl[meX7_setPace.2.2.2.2.2.2.2.1]? = some (.code meX7_setPace.2.1 meX7_setPace.2.2.1 meX7_setPace.2.2.2.1 meX7_setPace.2.2.2.2.1) := by rfl
set_option maxRecDepth 100000 in
theorem am_cw_85 : lw_tbl[meX7_setWarm.2.2.2.2.2.2.2.1]? = some (.code meX7_setWarm.2.1 meX7_setWarm.2.2.1 meX7_setWarm.2.2.2.1 meX7_setWarm.2.2.2.2.1) := by rfl
set_option maxRecDepth 100000 in
theorem am_cw_86 : lw_tbl[meX7_reachedBy.2.2.2.2.2.2.2.1]? = some (.code meX7_reachedBy.2.1 meX7_reachedBy.2.2.1 meX7_reachedBy.2.2.2.1 meX7_reachedBy.2.2.2.2.1) := by rfl
set_option maxRecDepth 100000 in
theorem am_cw_87 : lw_tbl[meX7_getsOut.2.2.2.2.2.2.2.1]? = some (.code meX7_getsOut.2.1 meX7_getsOut.2.2.1 meX7_getsOut.2.2.2.1 meX7_getsOut.2.2.2.2.1) := by rfl
set_option maxRecDepth 100000 in
theorem am_cw_88 : lw_tbl[meX7_flooded.2.2.2.2.2.2.2.1]? = some (.code meX7_flooded.2.1 meX7_flooded.2.2.1 meX7_flooded.2.2.2.1 meX7_flooded.2.2.2.2.1) := by rfl
set_option maxRecDepth 100000 in
theorem am_cw_89 : lw_tbl[meX7_gapsOfBits.2.2.2.2.2.2.2.1]? = some (.code meX7_gapsOfBits.2.1 meX7_gapsOfBits.2.2.1 meX7_gapsOfBits.2.2.2.1 meX7_gapsOfBits.2.2.2.2.1) := by rfl
set_option maxRecDepth 100000 in
theorem am_cw_90 : lw_tbl[meX7_reachedWhenHeld.2.2.2.2.2.2.2.1]? = some (.code meX7_reachedWhenHeld.2.1 meX7_reachedWhenHeld.2.2.1 meX7_reachedWhenHeld.2.2.2.1 meX7_reachedWhenHeld.2.2.2.2.1) := by rfl
set_option maxRecDepth 100000 in
theorem am_cw_91 : lw_tbl[meX7_oneMore.2.2.2.2.2.2.2.1]? = some (.code meX7_oneMore.2.1 meX7_oneMore.2.2.1 meX7_oneMore.2.2.2.1 meX7_oneMore.2.2.2.2.1) := by rfl
set_option maxRecDepth 100000 in
theorem am_cw_92 : lw_tbl[meX7_looksTillEmpty.2.2.2.2.2.2.2.1]? = some (.code meX7_looksTillEmpty.2.1 meX7_looksTillEmpty.2.2.1 meX7_looksTillEmpty.2.2.2.1 meX7_looksTillEmpty.2.2.2.2.1) := by rfl
set_option maxRecDepth 100000 in
theorem am_cw_93 : lw_tbl[meX7_lookOften.2.2.2.2.2.2.2.1]? = some (.code meX7_lookOften.2.1 meX7_lookOften.2.2.1 meX7_lookOften.2.2.2.1 meX7_lookOften.2.2.2.2.1) := by rfl
set_option maxRecDepth 100000 in
theorem am_cw_94 : lw_tbl[meX7_looksOfAll.2.2.2.2.2.2.2.1]? = some (.code meX7_looksOfAll.2.1 meX7_looksOfAll.2.2.1 meX7_looksOfAll.2.2.2.1 meX7_looksOfAll.2.2.2.2.1) := by rfl
set_option maxRecDepth 100000 in
theorem am_cw_95 : lw_tbl[meX7_rowTellsSquares.2.2.2.2.2.2.2.1]? = some (.code meX7_rowTellsSquares.2.1 meX7_rowTellsSquares.2.2.1 meX7_rowTellsSquares.2.2.2.1 meX7_rowTellsSquares.2.2.2.2.1) := by rfl
set_option maxRecDepth 100000 in
theorem am_cw_96 : lw_tbl[meX7_squaresOfRow.2.2.2.2.2.2.2.1]? = some (.code meX7_squaresOfRow.2.1 meX7_squaresOfRow.2.2.1 meX7_squaresOfRow.2.2.2.1 meX7_squaresOfRow.2.2.2.2.1) := by rfl
set_option maxRecDepth 100000 in
theorem am_cw_97 : lw_tbl[meX7_afterTurning.2.2.2.2.2.2.2.1]? = some (.code meX7_afterTurning.2.1 meX7_afterTurning.2.2.1 meX7_afterTurning.2.2.2.1 meX7_afterTurning.2.2.2.2.1) := by rfl
set_option maxRecDepth 100000 in
theorem am_cw_98 : lw_tbl[meX7_firstWrongPair.2.2.2.2.2.2.2.1]? = some (.code meX7_firstWrongPair.2.1 meX7_firstWrongPair.2.2.1 meX7_firstWrongPair.2.2.2.1 meX7_firstWrongPair.2.2.2.2.1) := by rfl
set_option maxRecDepth 100000 in
theorem am_cw_99 : lw_tbl[meX7_homesOfTraces.2.2.2.2.2.2.2.1]? = some (.code meX7_homesOfTraces.2.1 meX7_homesOfTraces.2.2.1 meX7_homesOfTraces.2.2.2.1 meX7_homesOfTraces.2.2.2.2.1) := by rfl
set_option maxRecDepth 100000 in
theorem am_cw_100 : lw_tbl[meX7_afterWalkByLot.2.2.2.2.2.2.2.1]? = some (.code meX7_afterWalkByLot.2.1 meX7_afterWalkByLot.2.2.1 meX7_afterWalkByLot.2.2.2.1 meX7_afterWalkByLot.2.2.2.2.1) := by rfl
set_option maxRecDepth 100000 in
theorem am_cw_101 : lw_tbl[meX7_drawnDirection.2.2.2.2.2.2.2.1]? = some (.code meX7_drawnDirection.2.1 meX7_drawnDirection.2.2.1 meX7_drawnDirection.2.2.2.1 meX7_drawnDirection.2.2.2.2.1) := by rfl
set_option maxRecDepth 100000 in
theorem am_cw_102 : lw_tbl[meX7_isSquare.2.2.2.2.2.2.2.1]? = some (.code meX7_isSquare.2.1 meX7_isSquare.2.2.1 meX7_isSquare.2.2.2.1 meX7_isSquare.2.2.2.2.1) := by rfl
set_option maxRecDepth 100000 in
theorem am_cw_103 : lw_tbl[meX7_bit.2.2.2.2.2.2.2.1]? = some (.code meX7_bit.2.1 meX7_bit.2.2.1 meX7_bit.2.2.2.1 meX7_bit.2.2.2.2.1) := by rfl
set_option maxRecDepth 100000 in
theorem am_cw_104 : lw_tbl[meX7_has.2.2.2.2.2.2.2.1]? = some (.code meX7_has.2.1 meX7_has.2.2.1 meX7_has.2.2.2.1 meX7_has.2.2.2.2.1) := by rfl
set_option maxRecDepth 100000 in
theorem am_cw_105 : lw_tbl[meX7_least.2.2.2.2.2.2.2.1]? = some (.code meX7_least.2.1 meX7_least.2.2.1 meX7_least.2.2.2.1 meX7_least.2.2.2.2.1) := by rfl
set_option maxRecDepth 100000 in
theorem am_cw_106 : lw_tbl[meX7_moved.2.2.2.2.2.2.2.1]? = some (.code meX7_moved.2.1 meX7_moved.2.2.1 meX7_moved.2.2.2.1 meX7_moved.2.2.2.2.1) := by rfl
set_option maxRecDepth 100000 in
theorem am_cw_107 : lw_tbl[meX7_beside.2.2.2.2.2.2.2.1]? = some (.code meX7_beside.2.1 meX7_beside.2.2.1 meX7_beside.2.2.2.1 meX7_beside.2.2.2.2.1) := by rfl
set_option maxRecDepth 100000 in
theorem am_cw_108 : lw_tbl[meX7_yesOrNo.2.2.2.2.2.2.2.1]? = some (.code meX7_yesOrNo.2.1 meX7_yesOrNo.2.2.1 meX7_yesOrNo.2.2.2.1 meX7_yesOrNo.2.2.2.2.1) := by rfl
set_option maxRecDepth 100000 in
theorem am_cw_109 : lw_tbl[meX7_greatestDivisor.2.2.2.2.2.2.2.1]? = some (.code meX7_greatestDivisor.2.1 meX7_greatestDivisor.2.2.1 meX7_greatestDivisor.2.2.2.1 meX7_greatestDivisor.2.2.2.2.1) := by rfl
set_option maxRecDepth 100000 in
theorem am_cw_110 : lw_tbl[meX8_no.2.2.2.2.2.2.2.1]? = some (.code meX8_no.2.1 meX8_no.2.2.1 meX8_no.2.2.2.1 meX8_no.2.2.2.2.1) := by rfl
set_option maxRecDepth 100000 in
theorem am_cw_111 : lw_tbl[meX8_noLong.2.2.2.2.2.2.2.1]? = some (.code meX8_noLong.2.1 meX8_noLong.2.2.1 meX8_noLong.2.2.2.1 meX8_noLong.2.2.2.2.1) := by rfl
set_option maxRecDepth 100000 in
theorem am_cw_112 : lw_tbl[meX8_move.2.2.2.2.2.2.2.1]? = some (.code meX8_move.2.1 meX8_move.2.2.1 meX8_move.2.2.2.1 meX8_move.2.2.2.2.1) := by rfl
set_option maxRecDepth 100000 in
theorem am_cw_113 : lw_tbl[meX8_image.2.2.2.2.2.2.2.1]? = some (.code meX8_image.2.1 meX8_image.2.2.1 meX8_image.2.2.2.1 meX8_image.2.2.2.2.1) := by rfl
set_option maxRecDepth 100000 in
theorem am_cw_114 : lw_tbl[meX8_on.2.2.2.2.2.2.2.1]? = some (.code meX8_on.2.1 meX8_on.2.2.1 meX8_on.2.2.2.1 meX8_on.2.2.2.2.1) := by rfl
set_option maxRecDepth 100000 in
theorem am_cw_115 : lw_tbl[meX8_isNoSquare.2.2.2.2.2.2.2.1]? = some (.code meX8_isNoSquare.2.1 meX8_isNoSquare.2.2.1 meX8_isNoSquare.2.2.2.1 meX8_isNoSquare.2.2.2.2.1) := by rfl
set_option maxRecDepth 100000 in
theorem am_cw_116 : lw_tbl[meX8_kindOf.2.2.2.2.2.2.2.1]? = some (.code meX8_kindOf.2.1 meX8_kindOf.2.2.1 meX8_kindOf.2.2.2.1 meX8_kindOf.2.2.2.2.1) := by rfl
set_option maxRecDepth 100000 in
theorem am_cw_117 : lw_tbl[meX8_letter.2.2.2.2.2.2.2.1]? = some (.code meX8_letter.2.1 meX8_letter.2.2.1 meX8_letter.2.2.2.1 meX8_letter.2.2.2.2.1) := by rfl
set_option maxRecDepth 100000 in
theorem am_cw_118 : lw_tbl[meX8_oneOf.2.2.2.2.2.2.2.1]? = some (.code meX8_oneOf.2.1 meX8_oneOf.2.2.1 meX8_oneOf.2.2.2.1 meX8_oneOf.2.2.2.2.1) := by rfl
set_option maxRecDepth 100000 in
theorem am_cw_119 : lw_tbl[meX8_figures.2.2.2.2.2.2.2.1]? = some (.code meX8_figures.2.1 meX8_figures.2.2.1 meX8_figures.2.2.2.1 meX8_figures.2.2.2.2.1) := by rfl
set_option maxRecDepth 100000 in
theorem am_cw_120 : lw_tbl[meX8_statement.2.2.2.2.2.2.2.1]? = some (.code meX8_statement.2.1 meX8_statement.2.2.1 meX8_statement.2.2.2.1 meX8_statement.2.2.2.2.1) := by rfl
set_option maxRecDepth 100000 in
theorem am_cw_121 : lw_tbl[meX8_takes.2.2.2.2.2.2.2.1]? = some (.code meX8_takes.2.1 meX8_takes.2.2.1 meX8_takes.2.2.2.1 meX8_takes.2.2.2.2.1) := by rfl
set_option maxRecDepth 100000 in
theorem am_cw_122 : lw_tbl[meX8_read.2.2.2.2.2.2.2.1]? = some (.code meX8_read.2.1 meX8_read.2.2.1 meX8_read.2.2.2.1 meX8_read.2.2.2.2.1) := by rfl
set_option maxRecDepth 100000 in
theorem am_cw_123 : lw_tbl[meX8_garden.2.2.2.2.2.2.2.1]? = some (.code meX8_garden.2.1 meX8_garden.2.2.1 meX8_garden.2.2.2.1 meX8_garden.2.2.2.2.1) := by rfl
set_option maxRecDepth 100000 in
theorem am_cw_124 : lw_tbl[meX8_canBe.2.2.2.2.2.2.2.1]? = some (.code meX8_canBe.2.1 meX8_canBe.2.2.1 meX8_canBe.2.2.2.1 meX8_canBe.2.2.2.2.1) := by rfl
set_option maxRecDepth 100000 in
theorem am_cw_125 : lw_tbl[meX8_off.2.2.2.2.2.2.2.1]? = some (.code meX8_off.2.1 meX8_off.2.2.1 meX8_off.2.2.2.1 meX8_off.2.2.2.2.1) := by rfl
set_option maxRecDepth 100000 in
theorem am_cw_126 : lw_tbl[meX8_square.2.2.2.2.2.2.2.1]? = some (.code meX8_square.2.1 meX8_square.2.2.1 meX8_square.2.2.2.1 meX8_square.2.2.2.2.1) := by rfl
set_option maxRecDepth 100000 in
theorem am_cw_127 : lw_tbl[meX8_turnTo.2.2.2.2.2.2.2.1]? = some (.code meX8_turnTo.2.1 meX8_turnTo.2.2.1 meX8_turnTo.2.2.2.1 meX8_turnTo.2.2.2.2.1) := by rfl
set_option maxRecDepth 100000 in
theorem am_cw_128 : lw_tbl[meX8_set.2.2.2.2.2.2.2.1]? = some (.code meX8_set.2.1 meX8_set.2.2.1 meX8_set.2.2.2.1 meX8_set.2.2.2.2.1) := by rfl
set_option maxRecDepth 100000 in
theorem am_cw_129 : lw_tbl[meX8_isNoSeeker.2.2.2.2.2.2.2.1]? = some (.code meX8_isNoSeeker.2.1 meX8_isNoSeeker.2.2.1 meX8_isNoSeeker.2.2.2.1 meX8_isNoSeeker.2.2.2.2.1) := by rfl
set_option maxRecDepth 100000 in
theorem am_cw_130 : lw_tbl[meX8_seeker.2.2.2.2.2.2.2.1]? = some (.code meX8_seeker.2.1 meX8_seeker.2.2.1 meX8_seeker.2.2.2.1 meX8_seeker.2.2.2.2.1) := by rfl
set_option maxRecDepth 100000 in
theorem am_cw_131 : lw_tbl[meX8_stand.2.2.2.2.2.2.2.1]? = some (.code meX8_stand.2.1 meX8_stand.2.2.1 meX8_stand.2.2.2.1 meX8_stand.2.2.2.2.1) := by rfl
set_option maxRecDepth 100000 in
theorem am_cw_132 : lw_tbl[meX8_beside.2.2.2.2.2.2.2.1]? = some (.code meX8_beside.2.1 meX8_beside.2.2.1 meX8_beside.2.2.2.1 meX8_beside.2.2.2.2.1) := by rfl
set_option maxRecDepth 100000 in
theorem am_cw_133 : lw_tbl[meX8_walkFrom.2.2.2.2.2.2.2.1]? = some (.code meX8_walkFrom.2.1 meX8_walkFrom.2.2.1 meX8_walkFrom.2.2.2.1 meX8_walkFrom.2.2.2.2.1) := by rfl
set_option maxRecDepth 100000 in
theorem am_cw_134 : lw_tbl[meX8_steps.2.2.2.2.2.2.2.1]? = some (.code meX8_steps.2.1 meX8_steps.2.2.1 meX8_steps.2.2.2.1 meX8_steps.2.2.2.2.1) := by rfl
set_option maxRecDepth 100000 in
theorem am_cw_135 : lw_tbl[meX8_mayBeAt.2.2.2.2.2.2.2.1]? = some (.code meX8_mayBeAt.2.1 meX8_mayBeAt.2.2.1 meX8_mayBeAt.2.2.2.1 meX8_mayBeAt.2.2.2.2.1) := by rfl
set_option maxRecDepth 100000 in
theorem am_cw_136 : lw_tbl[meX8_inSet.2.2.2.2.2.2.2.1]? = some (.code meX8_inSet.2.1 meX8_inSet.2.2.1 meX8_inSet.2.2.2.1 meX8_inSet.2.2.2.2.1) := by rfl
set_option maxRecDepth 100000 in
theorem am_cw_137 : lw_tbl[meX8_mayBe.2.2.2.2.2.2.2.1]? = some (.code meX8_mayBe.2.1 meX8_mayBe.2.2.1 meX8_mayBe.2.2.2.1 meX8_mayBe.2.2.2.2.1) := by rfl
set_option maxRecDepth 100000 in
theorem am_cw_138 : lw_tbl[meX8_minutesOut.2.2.2.2.2.2.2.1]? = some (.code meX8_minutesOut.2.1 meX8_minutesOut.2.2.1 meX8_minutesOut.2.2.2.1 meX8_minutesOut.2.2.2.2.1) := by rfl
set_option maxRecDepth 100000 in
theorem am_cw_139 : lw_tbl[meX8_out.2.2.2.2.2.2.2.1]? = some (.code meX8_out.2.1 meX8_out.2.2.1 meX8_out.2.2.2.1 meX8_out.2.2.2.2.1) := by rfl
set_option maxRecDepth 100000 in
theorem am_cw_140 : lw_tbl[meX8_holdNone.2.2.2.2.2.2.2.1]? = some (.code meX8_holdNone.2.1 meX8_holdNone.2.2.1 meX8_holdNone.2.2.2.1 meX8_holdNone.2.2.2.2.1) := by rfl
set_option maxRecDepth 100000 in
theorem am_cw_141 : lw_tbl[meX8_shut.2.2.2.2.2.2.2.1]? = some (.code meX8_shut.2.1 meX8_shut.2.2.1 meX8_shut.2.2.2.1 meX8_shut.2.2.2.2.1) := by rfl
set_option maxRecDepth 100000 in
theorem am_cw_142 : lw_tbl[meX8_firstGap.2.2.2.2.2.2.2.1]? = some (.code meX8_firstGap.2.1 meX8_firstGap.2.2.1 meX8_firstGap.2.2.2.1 meX8_firstGap.2.2.2.2.1) := by rfl
set_option maxRecDepth 100000 in
theorem am_cw_143 : lw_tbl[meX8_apart.2.2.2.2.2.2.2.1]? = some (.code meX8_apart.2.1 meX8_apart.2.2.1 meX8_apart.2.2.2.1 meX8_apart.2.2.2.2.1) := by rfl
set_option maxRecDepth 100000 in
theorem am_cw_144 : lw_tbl[meX8_toRoad.2.2.2.2.2.2.2.1]? = some (.code meX8_toRoad.2.1 meX8_toRoad.2.2.1 meX8_toRoad.2.2.2.1 meX8_toRoad.2.2.2.2.1) := by rfl
set_option maxRecDepth 100000 in
theorem am_cw_145 : lw_tbl[meX8_besideInSet.2.2.2.2.2.2.2.1]? = some (.code meX8_besideInSet.2.1 meX8_besideInSet.2.2.1 meX8_besideInSet.2.2.2.1 meX8_besideInSet.2.2.2.2.1) := by rfl
set_option maxRecDepth 100000 in
theorem am_cw_146 : lw_tbl[meX8_waits.2.2.2.2.2.2.2.1]? = some (.code meX8_waits.2.1 meX8_waits.2.2.1 meX8_waits.2.2.2.1 meX8_waits.2.2.2.2.1) := by rfl
set_option maxRecDepth 100000 in
theorem am_cw_147 : lw_tbl[meX8_looks.2.2.2.2.2.2.2.1]? = some (.code meX8_looks.2.1 meX8_looks.2.2.1 meX8_looks.2.2.2.1 meX8_looks.2.2.2.2.1) := by rfl
set_option maxRecDepth 100000 in
theorem am_cw_148 : lw_tbl[meX8_passes.2.2.2.2.2.2.2.1]? = some (.code meX8_passes.2.1 meX8_passes.2.2.1 meX8_passes.2.2.2.1 meX8_passes.2.2.2.2.1) := by rfl
set_option maxRecDepth 100000 in
theorem am_cw_149 : lw_tbl[meX8_begin.2.2.2.2.2.2.2.1]? = some (.code meX8_begin.2.1 meX8_begin.2.2.1 meX8_begin.2.2.2.1 meX8_begin.2.2.2.2.1) := by rfl
set_option maxRecDepth 100000 in
theorem am_cw_150 : lw_tbl[meX8_searchBy.2.2.2.2.2.2.2.1]? = some (.code meX8_searchBy.2.1 meX8_searchBy.2.2.1 meX8_searchBy.2.2.2.1 meX8_searchBy.2.2.2.2.1) := by rfl
set_option maxRecDepth 100000 in
theorem am_cw_151 : lw_tbl[meX8_kindOfSeeker.2.2.2.2.2.2.2.1]? = some (.code meX8_kindOfSeeker.2.1 meX8_kindOfSeeker.2.2.1 meX8_kindOfSeeker.2.2.2.1 meX8_kindOfSeeker.2.2.2.2.1) := by rfl
set_option maxRecDepth 100000 in
theorem am_cw_152 : lw_tbl[meX8_search.2.2.2.2.2.2.2.1]? = some (.code meX8_search.2.1 meX8_search.2.2.1 meX8_search.2.2.2.1 meX8_search.2.2.2.2.1) := by rfl
set_option maxRecDepth 100000 in
theorem am_cw_153 : lw_tbl[meX8_refusal.2.2.2.2.2.2.2.1]? = some (.code meX8_refusal.2.1 meX8_refusal.2.2.1 meX8_refusal.2.2.2.1 meX8_refusal.2.2.2.2.1) := by rfl
set_option maxRecDepth 100000 in
theorem am_cw_154 : lw_tbl[meX8_lookOn.2.2.2.2.2.2.2.1]? = some (.code meX8_lookOn.2.1 meX8_lookOn.2.2.1 meX8_lookOn.2.2.2.1 meX8_lookOn.2.2.2.2.1) := by rfl
set_option maxRecDepth 100000 in
theorem am_cw_155 : lw_tbl[meX8_left.2.2.2.2.2.2.2.1]? = some (.code meX8_left.2.1 meX8_left.2.2.1 meX8_left.2.2.2.1 meX8_left.2.2.2.2.1) := by rfl
set_option maxRecDepth 100000 in
theorem am_cw_156 : lw_tbl[meX8_looksAt.2.2.2.2.2.2.2.1]? = some (.code meX8_looksAt.2.1 meX8_looksAt.2.2.1 meX8_looksAt.2.2.2.1 meX8_looksAt.2.2.2.2.1) := by rfl
set_option maxRecDepth 100000 in
theorem am_cw_157 : lw_tbl[meX8_bestSeeker.2.2.2.2.2.2.2.1]? = some (.code meX8_bestSeeker.2.1 meX8_bestSeeker.2.2.1 meX8_bestSeeker.2.2.2.1 meX8_bestSeeker.2.2.2.2.1) := by rfl
set_option maxRecDepth 100000 in
theorem am_cw_158 : lw_tbl[meX8_together.2.2.2.2.2.2.2.1]? = some (.code meX8_together.2.1 meX8_together.2.2.1 meX8_together.2.2.2.1 meX8_together.2.2.2.2.1) := by rfl
set_option maxRecDepth 100000 in
theorem am_cw_159 : lw_tbl[meX8_reached.2.2.2.2.2.2.2.1]? = some (.code meX8_reached.2.1 meX8_reached.2.2.1 meX8_reached.2.2.2.1 meX8_reached.2.2.2.2.1) := by rfl
set_option maxRecDepth 100000 in
theorem am_cw_160 : lw_tbl[meX8_hold.2.2.2.2.2.2.2.1]? = some (.code meX8_hold.2.1 meX8_hold.2.2.1 meX8_hold.2.2.2.1 meX8_hold.2.2.2.2.1) := by rfl
set_option maxRecDepth 100000 in
theorem am_cw_161 : lw_tbl[meX8_oneMore.2.2.2.2.2.2.2.1]? = some (.code meX8_oneMore.2.1 meX8_oneMore.2.2.1 meX8_oneMore.2.2.2.1 meX8_oneMore.2.2.2.2.1) := by rfl
set_option maxRecDepth 100000 in
theorem am_cw_162 : lw_tbl[meX8_waysOf.2.2.2.2.2.2.2.1]? = some (.code meX8_waysOf.2.1 meX8_waysOf.2.2.1 meX8_waysOf.2.2.2.1 meX8_waysOf.2.2.2.2.1) := by rfl
set_option maxRecDepth 100000 in
theorem am_cw_163 : lw_tbl[meX8_ways.2.2.2.2.2.2.2.1]? = some (.code meX8_ways.2.1 meX8_ways.2.2.1 meX8_ways.2.2.2.1 meX8_ways.2.2.2.2.1) := by rfl
set_option maxRecDepth 100000 in
theorem am_cw_164 : lw_tbl[meX8_likely.2.2.2.2.2.2.2.1]? = some (.code meX8_likely.2.1 meX8_likely.2.2.1 meX8_likely.2.2.2.1 meX8_likely.2.2.2.2.1) := by rfl
set_option maxRecDepth 100000 in
theorem am_cw_165 : lw_tbl[meX8_likeliest.2.2.2.2.2.2.2.1]? = some (.code meX8_likeliest.2.1 meX8_likeliest.2.2.1 meX8_likeliest.2.2.2.1 meX8_likeliest.2.2.2.2.1) := by rfl
set_option maxRecDepth 100000 in
theorem am_cw_166 : lw_tbl[meX8_turning.2.2.2.2.2.2.2.1]? = some (.code meX8_turning.2.1 meX8_turning.2.2.1 meX8_turning.2.2.2.1 meX8_turning.2.2.2.2.1) := by rfl
set_option maxRecDepth 100000 in
theorem am_cw_167 : lw_tbl[meX8_firstWrong.2.2.2.2.2.2.2.1]? = some (.code meX8_firstWrong.2.1 meX8_firstWrong.2.2.1 meX8_firstWrong.2.2.2.1 meX8_firstWrong.2.2.2.2.1) := by rfl
set_option maxRecDepth 100000 in
theorem am_cw_168 : lw_tbl[meX8_finds.2.2.2.2.2.2.2.1]? = some (.code meX8_finds.2.1 meX8_finds.2.2.1 meX8_finds.2.2.2.1 meX8_finds.2.2.2.2.1) := by rfl
set_option maxRecDepth 100000 in
theorem am_cw_169 : lw_tbl[meX8_row.2.2.2.2.2.2.2.1]? = some (.code meX8_row.2.1 meX8_row.2.2.1 meX8_row.2.2.2.1 meX8_row.2.2.2.2.1) := by rfl
set_option maxRecDepth 100000 in
theorem am_cw_170 : lw_tbl[meX8_looksOfRow.2.2.2.2.2.2.2.1]? = some (.code meX8_looksOfRow.2.1 meX8_looksOfRow.2.2.1 meX8_looksOfRow.2.2.2.1 meX8_looksOfRow.2.2.2.2.1) := by rfl
set_option maxRecDepth 100000 in
theorem am_cw_171 : lw_tbl[meX8_judge.2.2.2.2.2.2.2.1]? = some (.code meX8_judge.2.1 meX8_judge.2.2.1 meX8_judge.2.2.2.1 meX8_judge.2.2.2.2.1) := by rfl
set_option maxRecDepth 100000 in
theorem am_cw_172 : lw_tbl[meX8_behind.2.2.2.2.2.2.2.1]? = some (.code meX8_behind.2.1 meX8_behind.2.2.1 meX8_behind.2.2.2.1 meX8_behind.2.2.2.2.1) := by rfl
set_option maxRecDepth 100000 in
theorem am_cw_173 : lw_tbl[meX8_lots.2.2.2.2.2.2.2.1]? = some (.code meX8_lots.2.1 meX8_lots.2.2.1 meX8_lots.2.2.2.1 meX8_lots.2.2.2.2.1) := by rfl
set_option maxRecDepth 100000 in
theorem am_cw_174 : lw_tbl[meX8_count.2.2.2.2.2.2.2.1]? = some (.code meX8_count.2.1 meX8_count.2.2.1 meX8_count.2.2.2.1 meX8_count.2.2.2.2.1) := by rfl
set_option maxRecDepth 100000 in
theorem am_cw_175 : lw_tbl[meJ13_bitCount_95d88.2.2.2.2.2.2.2.1]? = some (.code meJ13_bitCount_95d88.2.1 meJ13_bitCount_95d88.2.2.1 meJ13_bitCount_95d88.2.2.2.1 meJ13_bitCount_95d88.2.2.2.2.1) := by rfl
set_option maxRecDepth 100000 in
theorem am_cw_176 : lw_tbl[meJ6_bitCount_0f7a4.2.2.2.2.2.2.2.1]? = some (.code meJ6_bitCount_0f7a4.2.1 meJ6_bitCount_0f7a4.2.2.1 meJ6_bitCount_0f7a4.2.2.2.1 meJ6_bitCount_0f7a4.2.2.2.2.1) := by rfl
set_option maxRecDepth 100000 in
theorem am_cw_177 : lw_tbl[meJ0_length_8abf5.2.2.2.2.2.2.2.1]? = some (.code meJ0_length_8abf5.2.1 meJ0_length_8abf5.2.2.1 meJ0_length_8abf5.2.2.2.1 meJ0_length_8abf5.2.2.2.2.1) := by rfl
set_option maxRecDepth 100000 in
theorem am_cw_178 : lw_tbl[meJ0_isEmpty_aae02.2.2.2.2.2.2.2.1]? = some (.code meJ0_isEmpty_aae02.2.1 meJ0_isEmpty_aae02.2.2.1 meJ0_isEmpty_aae02.2.2.2.1 meJ0_isEmpty_aae02.2.2.2.2.1) := by rfl
set_option maxRecDepth 100000 in
theorem am_cw_179 : lw_tbl[meJ0_charAt_5068e.2.2.2.2.2.2.2.1]? = some (.code meJ0_charAt_5068e.2.1 meJ0_charAt_5068e.2.2.1 meJ0_charAt_5068e.2.2.2.1 meJ0_charAt_5068e.2.2.2.2.1) := by rfl
set_option maxRecDepth 100000 in
theorem am_cw_180 : lw_tbl[meJ0_indexOf_0f7a4.2.2.2.2.2.2.2.1]? = some (.code meJ0_indexOf_0f7a4.2.1 meJ0_indexOf_0f7a4.2.2.1 meJ0_indexOf_0f7a4.2.2.2.1 meJ0_indexOf_0f7a4.2.2.2.2.1) := by rfl
set_option maxRecDepth 100000 in
theorem am_cw_181 : lw_tbl[meJ0_indexOf_7cf53.2.2.2.2.2.2.2.1]? = some (.code meJ0_indexOf_7cf53.2.1 meJ0_indexOf_7cf53.2.2.1 meJ0_indexOf_7cf53.2.2.2.1 meJ0_indexOf_7cf53.2.2.2.2.1) := by rfl
set_option maxRecDepth 100000 in
theorem am_cw_182 : lw_tbl[meJ0_coder_7d493.2.2.2.2.2.2.2.1]? = some (.code meJ0_coder_7d493.2.1 meJ0_coder_7d493.2.2.1 meJ0_coder_7d493.2.2.2.1 meJ0_coder_7d493.2.2.2.2.1) := by rfl
set_option maxRecDepth 100000 in
theorem am_cw_183 : lw_tbl[meJ0_isLatin1_aae02.2.2.2.2.2.2.2.1]? = some (.code meJ0_isLatin1_aae02.2.1 meJ0_isLatin1_aae02.2.2.1 meJ0_isLatin1_aae02.2.2.2.1 meJ0_isLatin1_aae02.2.2.2.2.1) := by rfl
set_option maxRecDepth 100000 in
theorem am_cw_184 : lw_tbl[meJ0_checkIndex_df160.2.2.2.2.2.2.2.1]? = some (.code meJ0_checkIndex_df160.2.1 meJ0_checkIndex_df160.2.2.1 meJ0_checkIndex_df160.2.2.2.1 meJ0_checkIndex_df160.2.2.2.2.1) := by rfl
set_option maxRecDepth 100000 in
theorem am_cw_185 : lw_tbl[meJ1_charAt_3b067.2.2.2.2.2.2.2.1]? = some (.code meJ1_charAt_3b067.2.1 meJ1_charAt_3b067.2.2.1 meJ1_charAt_3b067.2.2.2.1 meJ1_charAt_3b067.2.2.2.2.1) := by rfl
set_option maxRecDepth 100000 in
theorem am_cw_186 : lw_tbl[meJ1_canEncode_9a6ad.2.2.2.2.2.2.2.1]? = some (.code meJ1_canEncode_9a6ad.2.1 meJ1_canEncode_9a6ad.2.2.1 meJ1_canEncode_9a6ad.2.2.2.1 meJ1_canEncode_9a6ad.2.2.2.2.1) := by rfl
set_option maxRecDepth 100000 in
theorem am_cw_187 : lw_tbl[meJ1_indexOf_4cfef.2.2.2.2.2.2.2.1]? = some (.code meJ1_indexOf_4cfef.2.1 meJ1_indexOf_4cfef.2.2.1 meJ1_indexOf_4cfef.2.2.2.1 meJ1_indexOf_4cfef.2.2.2.2.1) := by rfl
set_option maxRecDepth 100000 in
theorem am_cw_188 : lw_tbl[meJ1_indexOfChar_4cfef.2.2.2.2.2.2.2.1]? = some (.code meJ1_indexOfChar_4cfef.2.1 meJ1_indexOfChar_4cfef.2.2.1 meJ1_indexOfChar_4cfef.2.2.2.1 meJ1_indexOfChar_4cfef.2.2.2.2.1) := by rfl
set_option maxRecDepth 100000 in
theorem am_cw_189 : lw_tbl[meJ3_checkIndex_8e157.2.2.2.2.2.2.2.1]? = some (.code meJ3_checkIndex_8e157.2.1 meJ3_checkIndex_8e157.2.2.1 meJ3_checkIndex_8e157.2.2.2.1 meJ3_checkIndex_8e157.2.2.2.2.1) := by rfl
set_option maxRecDepth 100000 in
theorem am_cw : ∀ q ∈ am_mt, lw_tbl[q.2.2.2.2.2.2.2.1]? = some (.code q.2.1 q.2.2.1 q.2.2.2.1 q.2.2.2.2.1) := by
  unfold am_mt
  exact List.forall_mem_cons.mpr ⟨am_cw_0, List.forall_mem_cons.mpr ⟨am_cw_1, List.forall_mem_cons.mpr ⟨am_cw_2, List.forall_mem_cons.mpr ⟨am_cw_3, List.forall_mem_cons.mpr ⟨am_cw_4, List.forall_mem_cons.mpr ⟨am_cw_5, List.forall_mem_cons.mpr ⟨am_cw_6, List.forall_mem_cons.mpr ⟨am_cw_7, List.forall_mem_cons.mpr ⟨am_cw_8, List.forall_mem_cons.mpr ⟨am_cw_9, List.forall_mem_cons.mpr ⟨am_cw_10, List.forall_mem_cons.mpr ⟨am_cw_11, List.forall_mem_cons.mpr ⟨am_cw_12, List.forall_mem_cons.mpr ⟨am_cw_13, List.forall_mem_cons.mpr ⟨am_cw_14, List.forall_mem_cons.mpr ⟨am_cw_15, List.forall_mem_cons.mpr ⟨am_cw_16, List.forall_mem_cons.mpr ⟨am_cw_17, List.forall_mem_cons.mpr ⟨am_cw_18, List.forall_mem_cons.mpr ⟨am_cw_19, List.forall_mem_cons.mpr ⟨am_cw_20, List.forall_mem_cons.mpr ⟨am_cw_21, List.forall_mem_cons.mpr ⟨am_cw_22, List.forall_mem_cons.mpr ⟨am_cw_23, List.forall_mem_cons.mpr ⟨am_cw_24, List.forall_mem_cons.mpr ⟨am_cw_25, List.forall_mem_cons.mpr ⟨am_cw_26, List.forall_mem_cons.mpr ⟨am_cw_27, List.forall_mem_cons.mpr ⟨am_cw_28, List.forall_mem_cons.mpr ⟨am_cw_29, List.forall_mem_cons.mpr ⟨am_cw_30, List.forall_mem_cons.mpr ⟨am_cw_31, List.forall_mem_cons.mpr ⟨am_cw_32, List.forall_mem_cons.mpr ⟨am_cw_33, List.forall_mem_cons.mpr ⟨am_cw_34, List.forall_mem_cons.mpr ⟨am_cw_35, List.forall_mem_cons.mpr ⟨am_cw_36, List.forall_mem_cons.mpr ⟨am_cw_37, List.forall_mem_cons.mpr ⟨am_cw_38, List.forall_mem_cons.mpr ⟨am_cw_39, List.forall_mem_cons.mpr ⟨am_cw_40, List.forall_mem_cons.mpr ⟨am_cw_41, List.forall_mem_cons.mpr ⟨am_cw_42, List.forall_mem_cons.mpr ⟨am_cw_43, List.forall_mem_cons.mpr ⟨am_cw_44, List.forall_mem_cons.mpr ⟨am_cw_45, List.forall_mem_cons.mpr ⟨am_cw_46, List.forall_mem_cons.mpr ⟨am_cw_47, List.forall_mem_cons.mpr ⟨am_cw_48, List.forall_mem_cons.mpr ⟨am_cw_49, List.forall_mem_cons.mpr ⟨am_cw_50, List.forall_mem_cons.mpr ⟨am_cw_51, List.forall_mem_cons.mpr ⟨am_cw_52, List.forall_mem_cons.mpr ⟨am_cw_53, List.forall_mem_cons.mpr ⟨am_cw_54, List.forall_mem_cons.mpr ⟨am_cw_55, List.forall_mem_cons.mpr ⟨am_cw_56, List.forall_mem_cons.mpr ⟨am_cw_57, List.forall_mem_cons.mpr ⟨am_cw_58, List.forall_mem_cons.mpr ⟨am_cw_59, List.forall_mem_cons.mpr ⟨am_cw_60, List.forall_mem_cons.mpr ⟨am_cw_61, List.forall_mem_cons.mpr ⟨am_cw_62, List.forall_mem_cons.mpr ⟨am_cw_63, List.forall_mem_cons.mpr ⟨am_cw_64, List.forall_mem_cons.mpr ⟨am_cw_65, List.forall_mem_cons.mpr ⟨am_cw_66, List.forall_mem_cons.mpr ⟨am_cw_67, List.forall_mem_cons.mpr ⟨am_cw_68, List.forall_mem_cons.mpr ⟨am_cw_69, List.forall_mem_cons.mpr ⟨am_cw_70, List.forall_mem_cons.mpr ⟨am_cw_71, List.forall_mem_cons.mpr ⟨am_cw_72, List.forall_mem_cons.mpr ⟨am_cw_73, List.forall_mem_cons.mpr ⟨am_cw_74, List.forall_mem_cons.mpr ⟨am_cw_75, List.forall_mem_cons.mpr ⟨am_cw_76, List.forall_mem_cons.mpr ⟨am_cw_77, List.forall_mem_cons.mpr ⟨am_cw_78, List.forall_mem_cons.mpr ⟨am_cw_79, List.forall_mem_cons.mpr ⟨am_cw_80, List.forall_mem_cons.mpr ⟨am_cw_81, List.forall_mem_cons.mpr ⟨am_cw_82, List.forall_mem_cons.mpr ⟨am_cw_83, List.forall_mem_cons.mpr ⟨am_cw_84, List.forall_mem_cons.mpr ⟨am_cw_85, List.forall_mem_cons.mpr ⟨am_cw_86, List.forall_mem_cons.mpr ⟨am_cw_87, List.forall_mem_cons.mpr ⟨am_cw_88, List.forall_mem_cons.mpr ⟨am_cw_89, List.forall_mem_cons.mpr ⟨am_cw_90, List.forall_mem_cons.mpr ⟨am_cw_91, List.forall_mem_cons.mpr ⟨am_cw_92, List.forall_mem_cons.mpr ⟨am_cw_93, List.forall_mem_cons.mpr ⟨am_cw_94, List.forall_mem_cons.mpr ⟨am_cw_95, List.forall_mem_cons.mpr ⟨am_cw_96, List.forall_mem_cons.mpr ⟨am_cw_97, List.forall_mem_cons.mpr ⟨am_cw_98, List.forall_mem_cons.mpr ⟨am_cw_99, List.forall_mem_cons.mpr ⟨am_cw_100, List.forall_mem_cons.mpr ⟨am_cw_101, List.forall_mem_cons.mpr ⟨am_cw_102, List.forall_mem_cons.mpr ⟨am_cw_103, List.forall_mem_cons.mpr ⟨am_cw_104, List.forall_mem_cons.mpr ⟨am_cw_105, List.forall_mem_cons.mpr ⟨am_cw_106, List.forall_mem_cons.mpr ⟨am_cw_107, List.forall_mem_cons.mpr ⟨am_cw_108, List.forall_mem_cons.mpr ⟨am_cw_109, List.forall_mem_cons.mpr ⟨am_cw_110, List.forall_mem_cons.mpr ⟨am_cw_111, List.forall_mem_cons.mpr ⟨am_cw_112, List.forall_mem_cons.mpr ⟨am_cw_113, List.forall_mem_cons.mpr ⟨am_cw_114, List.forall_mem_cons.mpr ⟨am_cw_115, List.forall_mem_cons.mpr ⟨am_cw_116, List.forall_mem_cons.mpr ⟨am_cw_117, List.forall_mem_cons.mpr ⟨am_cw_118, List.forall_mem_cons.mpr ⟨am_cw_119, List.forall_mem_cons.mpr ⟨am_cw_120, List.forall_mem_cons.mpr ⟨am_cw_121, List.forall_mem_cons.mpr ⟨am_cw_122, List.forall_mem_cons.mpr ⟨am_cw_123, List.forall_mem_cons.mpr ⟨am_cw_124, List.forall_mem_cons.mpr ⟨am_cw_125, List.forall_mem_cons.mpr ⟨am_cw_126, List.forall_mem_cons.mpr ⟨am_cw_127, List.forall_mem_cons.mpr ⟨am_cw_128, List.forall_mem_cons.mpr ⟨am_cw_129, List.forall_mem_cons.mpr ⟨am_cw_130, List.forall_mem_cons.mpr ⟨am_cw_131, List.forall_mem_cons.mpr ⟨am_cw_132, List.forall_mem_cons.mpr ⟨am_cw_133, List.forall_mem_cons.mpr ⟨am_cw_134, List.forall_mem_cons.mpr ⟨am_cw_135, List.forall_mem_cons.mpr ⟨am_cw_136, List.forall_mem_cons.mpr ⟨am_cw_137, List.forall_mem_cons.mpr ⟨am_cw_138, List.forall_mem_cons.mpr ⟨am_cw_139, List.forall_mem_cons.mpr ⟨am_cw_140, List.forall_mem_cons.mpr ⟨am_cw_141, List.forall_mem_cons.mpr ⟨am_cw_142, List.forall_mem_cons.mpr ⟨am_cw_143, List.forall_mem_cons.mpr ⟨am_cw_144, List.forall_mem_cons.mpr ⟨am_cw_145, List.forall_mem_cons.mpr ⟨am_cw_146, List.forall_mem_cons.mpr ⟨am_cw_147, List.forall_mem_cons.mpr ⟨am_cw_148, List.forall_mem_cons.mpr ⟨am_cw_149, List.forall_mem_cons.mpr ⟨am_cw_150, List.forall_mem_cons.mpr ⟨am_cw_151, List.forall_mem_cons.mpr ⟨am_cw_152, List.forall_mem_cons.mpr ⟨am_cw_153, List.forall_mem_cons.mpr ⟨am_cw_154, List.forall_mem_cons.mpr ⟨am_cw_155, List.forall_mem_cons.mpr ⟨am_cw_156, List.forall_mem_cons.mpr ⟨am_cw_157, List.forall_mem_cons.mpr ⟨am_cw_158, List.forall_mem_cons.mpr ⟨am_cw_159, List.forall_mem_cons.mpr ⟨am_cw_160, List.forall_mem_cons.mpr ⟨am_cw_161, List.forall_mem_cons.mpr ⟨am_cw_162, List.forall_mem_cons.mpr ⟨am_cw_163, List.forall_mem_cons.mpr ⟨am_cw_164, List.forall_mem_cons.mpr ⟨am_cw_165, List.forall_mem_cons.mpr ⟨am_cw_166, List.forall_mem_cons.mpr ⟨am_cw_167, List.forall_mem_cons.mpr ⟨am_cw_168, List.forall_mem_cons.mpr ⟨am_cw_169, List.forall_mem_cons.mpr ⟨am_cw_170, List.forall_mem_cons.mpr ⟨am_cw_171, List.forall_mem_cons.mpr ⟨am_cw_172, List.forall_mem_cons.mpr ⟨am_cw_173, List.forall_mem_cons.mpr ⟨am_cw_174, List.forall_mem_cons.mpr ⟨am_cw_175, List.forall_mem_cons.mpr ⟨am_cw_176, List.forall_mem_cons.mpr ⟨am_cw_177, List.forall_mem_cons.mpr ⟨am_cw_178, List.forall_mem_cons.mpr ⟨am_cw_179, List.forall_mem_cons.mpr ⟨am_cw_180, List.forall_mem_cons.mpr ⟨am_cw_181, List.forall_mem_cons.mpr ⟨am_cw_182, List.forall_mem_cons.mpr ⟨am_cw_183, List.forall_mem_cons.mpr ⟨am_cw_184, List.forall_mem_cons.mpr ⟨am_cw_185, List.forall_mem_cons.mpr ⟨am_cw_186, List.forall_mem_cons.mpr ⟨am_cw_187, List.forall_mem_cons.mpr ⟨am_cw_188, List.forall_mem_cons.mpr ⟨am_cw_189, fun _ h => absurd h List.not_mem_nil⟩⟩⟩⟩⟩⟩⟩⟩⟩⟩⟩⟩⟩⟩⟩⟩⟩⟩⟩⟩⟩⟩⟩⟩⟩⟩⟩⟩⟩⟩⟩⟩⟩⟩⟩⟩⟩⟩⟩⟩⟩⟩⟩⟩⟩⟩⟩⟩⟩⟩⟩⟩⟩⟩⟩⟩⟩⟩⟩⟩⟩⟩⟩⟩⟩⟩⟩⟩⟩⟩⟩⟩⟩⟩⟩⟩⟩⟩⟩⟩⟩⟩⟩⟩⟩⟩⟩⟩⟩⟩⟩⟩⟩⟩⟩⟩⟩⟩⟩⟩⟩⟩⟩⟩⟩⟩⟩⟩⟩⟩⟩⟩⟩⟩⟩⟩⟩⟩⟩⟩⟩⟩⟩⟩⟩⟩⟩⟩⟩⟩⟩⟩⟩⟩⟩⟩⟩⟩⟩⟩⟩⟩⟩⟩⟩⟩⟩⟩⟩⟩⟩⟩⟩⟩⟩⟩⟩⟩⟩⟩⟩⟩⟩⟩⟩⟩⟩⟩⟩⟩⟩⟩⟩⟩⟩⟩⟩⟩⟩⟩⟩⟩⟩⟩⟩⟩⟩⟩⟩⟩
set_option maxRecDepth 100000 in
theorem am_me_ok0 : (List.range 60).all am_me1 = true := by decide +kernel
set_option maxRecDepth 100000 in
theorem am_me_ok1 : (List.range 62).all (fun k => am_me1 (60 + k)) = true := by decide +kernel
set_option maxRecDepth 100000 in
theorem am_me_ok2 : (List.range 68).all (fun k => am_me1 (122 + k)) = true := by decide +kernel
theorem am_me_ok {M : Nat} (h : M < 190) : am_me1 M = true := by
  have h0 := List.all_eq_true.mp am_me_ok0
  have h1 := List.all_eq_true.mp am_me_ok1
  have h2 := List.all_eq_true.mp am_me_ok2
  by_cases a : M < 60
  · exact h0 M (List.mem_range.mpr a)
  · by_cases b : M < 122
    · have := h1 (M - 60) (List.mem_range.mpr (by omega))
      rwa [show 60 + (M - 60) = M by omega] at this
    · have := h2 (M - 122) (List.mem_range.mpr (by omega))
      rwa [show 122 + (M - 122) = M by omega] at this
/-- the length of an instruction -/
def am_ln (i : Instr) (pc nx : Nat) : Nat := match i with
  | .tableswitch _ _ _ _ | .lookupswitch _ _ => nx - pc
  | .bipush _ | .ldc _ | .iload _ | .lload _ | .aload _ | .istore _ | .lstore _ | .astore _ => 2
  | .sipush _ | .ldc_w _ | .ldc2_w _ | .iinc _ _ | .goto _ | .if_icmp _ _ | .ifCond _ _ | .getfield _ | .putfield _ | .getstatic _ | .invokestatic _ | .invokevirtual _ => 3
  | _ => 1
def am_swT (pc : Nat) : Int → List Int → List (Int32 × Nat) → Bool
  | _, [], [] => true
  | lo, o :: os, (k, t) :: r => decide (k.toInt = lo) && decide ((pc : Int) + o = (t : Int)) && am_swT pc (lo + 1) os r
  | _, _, _ => false
def am_swL (pc : Nat) : List (Int × Int) → List (Int32 × Nat) → Bool
  | [], [] => true
  | (a, o) :: os, (k, t) :: r => decide (k.toInt = a) && decide ((pc : Int) + o = (t : Int)) && am_swL pc os r
  | _, _ => false
def am_tie2 (oc nL : Nat) (ret : Option FieldType) (pc : Nat) (i : Instr) (a : Nat) (v : Value) (tb : List (Int32 × Nat)) : Bool := match i with
  | .iconst n => decide (v = .int (Int32.ofInt n))
  | .bipush n => decide (v = .int (Int8.ofInt n).toInt32)
  | .sipush n => decide (v = .int (Int16.ofInt n).toInt32)
  | .lconst n => decide (v = .long (Int64.ofNat (n : Nat)))
  | .ldc ix => (match v with
    | .int c => am_ci.any (fun e => decide (e.1 = oc ∧ e.2.1 = ix ∧ e.2.2.1 = c))
    | .ref k => decide (oc = 5 ∧ 1000 ≤ k ∧ (am_at am_st (k - 1000)).map (fun e => e.1) = some ix)
    | _ => false)
  | .ldc_w ix => (match v with
    | .int c => am_ci.any (fun e => decide (e.1 = oc ∧ e.2.1 = ix ∧ e.2.2.1 = c))
    | _ => false)
  | .ldc2_w ix => (match v with
    | .long c => am_cj.any (fun e => decide (e.1 = oc ∧ e.2.1 = ix ∧ e.2.2.1 = c))
    | _ => false)
  | .iload k | .lload k | .aload k => decide (a = k)
  | .iload_n k | .lload_n k | .aload_n k => decide (a = (k : Nat))
  | .istore k | .astore k => decide (a = k ∧ a < nL)
  | .istore_n k | .astore_n k => decide (a = (k : Nat) ∧ a < nL)
  | .lstore k => decide (a = k ∧ a + 1 < nL)
  | .lstore_n k => decide (a = (k : Nat) ∧ a + 1 < nL)
  | .iinc k n => decide (a = k ∧ a < nL ∧ v = .int (Int32.ofInt n))
  | .goto off | .if_icmp _ off | .ifCond _ off => decide ((pc : Int) + off = (a : Int))
  | .tableswitch d lo hi offs => decide ((pc : Int) + d = (a : Int) ∧ hi = lo + (offs.size : Int) - 1 ∧ tb.length < 1000) && am_swT pc lo offs.toList tb
  | .lookupswitch d ps => decide ((pc : Int) + d = (a : Int) ∧ (ps.toList.zip (ps.toList.drop 1)).all (fun (a, next) => a.1 < next.1) = true) && am_swL pc ps.toList tb
  | .getstatic ix => decide ((oc = 20 ∧ ix = 38 ∧ v = .int 1) ∨ (oc = 20 ∧ ix = 1053 ∧ v = .null))
  | .getfield ix => (match v with
    | .ref ci => bif Nat.beq ci 20 then decide (oc = 20 ∧ ((ix = 9 ∧ a = 0) ∨ (ix = 15 ∧ a = 1))) else am_fl.any (fun e => decide (e.1 = oc ∧ e.2.1 = ix ∧ e.2.2.1 = ci ∧ e.2.2.2.1 = a))
    | _ => false)
  | .putfield ix => (match v with
    | .ref ci => am_fl.any (fun e => decide (e.1 = oc ∧ e.2.1 = ix ∧ e.2.2.1 = ci ∧ e.2.2.2.1 = a))
    | _ => false)
  | .invokestatic ix => bif Nat.ble 999 a then (match a with
      | 999 => decide ((oc = 1 ∧ ix = 34) ∨ (oc = 0 ∧ ix = 24))
      | 1000 => decide ((oc = 7 ∧ ix = 331) ∨ (oc = 8 ∧ ix = 151) ∨ (oc = 24 ∧ ix = 92))
      | 1001 => decide ((oc = 7 ∧ ix = 179) ∨ (oc = 8 ∧ ix = 140) ∨ (oc = 24 ∧ ix = 38))
      | 1002 => decide (oc = 8 ∧ ix = 154)
      | _ => false) else (match v with
      | .ref n => am_ml.any (fun e => decide (e.1 = oc ∧ e.2.1 = ix ∧ e.2.2.1 = a)) && decide ((am_me a).2.2.2.2.2.1 = true ∧ (am_me a).2.2.2.2.2.2.1 = n)
      | _ => false)
  | .invokevirtual ix => (match v with
      | .ref n => am_ml.any (fun e => decide (e.1 = oc ∧ e.2.1 = ix ∧ e.2.2.1 = a)) && decide ((am_me a).2.2.2.2.2.1 = false ∧ (am_me a).2.2.2.2.2.2.1 = n % 10 ∧ (am_me a).1 + 1 = n / 10)
      | _ => false)
  | .ireturn => (match a with | 0 => decide (ret = some .int) | 1 => decide (ret = some .boolean ∨ ret = some .byte) | _ => decide (ret = some .char))
  | .lreturn => decide (ret = some .long)
  | .areturn => decide (ret = some (.object "java/lang/String"))
  | .return_ => decide (ret = none)
  | _ => true
def am_tie (oc : Nat) (b : ByteArray) (nL : Nat) (ret : Option FieldType) (q : Nat × am_I) : Bool :=
  match q with
  | (pc, i, a, v, nx, tb) => decide (decode b pc = .ok (i, am_ln i pc nx)) && Nat.beq nx (pc + am_ln i pc nx) && am_tie2 oc nL ret pc i a v tb
def am_kOk (M : Nat) : Bool := (am_code M).all (am_tie (am_me M).1 (am_me M).2.2.1 (am_me M).2.2.2.1 (am_me M).2.2.2.2.1)
set_option maxRecDepth 100000 in
theorem am_k_0 : (List.range 8).all (fun k => am_kOk (0 + k)) = true := by decide +kernel
set_option maxRecDepth 100000 in
theorem am_k_8 : (List.range 8).all (fun k => am_kOk (8 + k)) = true := by decide +kernel
set_option maxRecDepth 100000 in
theorem am_k_16 : (List.range 8).all (fun k => am_kOk (16 + k)) = true := by decide +kernel
set_option maxRecDepth 100000 in
theorem am_k_24 : (List.range 8).all (fun k => am_kOk (24 + k)) = true := by decide +kernel
set_option maxRecDepth 100000 in
theorem am_k_32 : (List.range 8).all (fun k => am_kOk (32 + k)) = true := by decide +kernel
set_option maxRecDepth 100000 in
theorem am_k_40 : (List.range 8).all (fun k => am_kOk (40 + k)) = true := by decide +kernel
set_option maxRecDepth 100000 in
theorem am_k_48 : (List.range 8).all (fun k => am_kOk (48 + k)) = true := by decide +kernel
set_option maxRecDepth 100000 in
theorem am_k_56 : (List.range 8).all (fun k => am_kOk (56 + k)) = true := by decide +kernel
set_option maxRecDepth 100000 in
theorem am_k_64 : (List.range 8).all (fun k => am_kOk (64 + k)) = true := by decide +kernel
set_option maxRecDepth 100000 in
theorem am_k_72 : (List.range 8).all (fun k => am_kOk (72 + k)) = true := by decide +kernel
set_option maxRecDepth 100000 in
theorem am_k_80 : (List.range 8).all (fun k => am_kOk (80 + k)) = true := by decide +kernel
set_option maxRecDepth 100000 in
theorem am_k_88 : (List.range 8).all (fun k => am_kOk (88 + k)) = true := by decide +kernel
set_option maxRecDepth 100000 in
theorem am_k_96 : (List.range 8).all (fun k => am_kOk (96 + k)) = true := by decide +kernel
set_option maxRecDepth 100000 in
theorem am_k_104 : (List.range 8).all (fun k => am_kOk (104 + k)) = true := by decide +kernel
set_option maxRecDepth 100000 in
theorem am_k_112 : (List.range 8).all (fun k => am_kOk (112 + k)) = true := by decide +kernel
set_option maxRecDepth 100000 in
theorem am_k_120 : (List.range 8).all (fun k => am_kOk (120 + k)) = true := by decide +kernel
set_option maxRecDepth 100000 in
theorem am_k_128 : (List.range 8).all (fun k => am_kOk (128 + k)) = true := by decide +kernel
set_option maxRecDepth 100000 in
theorem am_k_136 : (List.range 8).all (fun k => am_kOk (136 + k)) = true := by decide +kernel
set_option maxRecDepth 100000 in
theorem am_k_144 : (List.range 8).all (fun k => am_kOk (144 + k)) = true := by decide +kernel
set_option maxRecDepth 100000 in
theorem am_k_152 : (List.range 8).all (fun k => am_kOk (152 + k)) = true := by decide +kernel
set_option maxRecDepth 100000 in
theorem am_k_160 : (List.range 8).all (fun k => am_kOk (160 + k)) = true := by decide +kernel
set_option maxRecDepth 100000 in
theorem am_k_168 : (List.range 8).all (fun k => am_kOk (168 + k)) = true := by decide +kernel
set_option maxRecDepth 100000 in
theorem am_k_176 : (List.range 8).all (fun k => am_kOk (176 + k)) = true := by decide +kernel
set_option maxRecDepth 100000 in
theorem am_k_184 : (List.range 6).all (fun k => am_kOk (184 + k)) = true := by decide +kernel
theorem am_k_ok {M : Nat} (h : M < 190) : am_kOk M = true := by
  by_cases h8 : M < 8
  · have := List.all_eq_true.mp am_k_0 (M - 0) (List.mem_range.mpr (by omega))
    rwa [show 0 + (M - 0) = M by omega] at this
  by_cases h16 : M < 16
  · have := List.all_eq_true.mp am_k_8 (M - 8) (List.mem_range.mpr (by omega))
    rwa [show 8 + (M - 8) = M by omega] at this
  by_cases h24 : M < 24
  · have := List.all_eq_true.mp am_k_16 (M - 16) (List.mem_range.mpr (by omega))
    rwa [show 16 + (M - 16) = M by omega] at this
  by_cases h32 : M < 32
  · have := List.all_eq_true.mp am_k_24 (M - 24) (List.mem_range.mpr (by omega))
    rwa [show 24 + (M - 24) = M by omega] at this
  by_cases h40 : M < 40
  · have := List.all_eq_true.mp am_k_32 (M - 32) (List.mem_range.mpr (by omega))
    rwa [show 32 + (M - 32) = M by omega] at this
  by_cases h48 : M < 48
  · have := List.all_eq_true.mp am_k_40 (M - 40) (List.mem_range.mpr (by omega))
    rwa [show 40 + (M - 40) = M by omega] at this
  by_cases h56 : M < 56
  · have := List.all_eq_true.mp am_k_48 (M - 48) (List.mem_range.mpr (by omega))
    rwa [show 48 + (M - 48) = M by omega] at this
  by_cases h64 : M < 64
  · have := List.all_eq_true.mp am_k_56 (M - 56) (List.mem_range.mpr (by omega))
    rwa [show 56 + (M - 56) = M by omega] at this
  by_cases h72 : M < 72
  · have := List.all_eq_true.mp am_k_64 (M - 64) (List.mem_range.mpr (by omega))
    rwa [show 64 + (M - 64) = M by omega] at this
  by_cases h80 : M < 80
  · have := List.all_eq_true.mp am_k_72 (M - 72) (List.mem_range.mpr (by omega))
    rwa [show 72 + (M - 72) = M by omega] at this
  by_cases h88 : M < 88
  · have := List.all_eq_true.mp am_k_80 (M - 80) (List.mem_range.mpr (by omega))
    rwa [show 80 + (M - 80) = M by omega] at this
  by_cases h96 : M < 96
  · have := List.all_eq_true.mp am_k_88 (M - 88) (List.mem_range.mpr (by omega))
    rwa [show 88 + (M - 88) = M by omega] at this
  by_cases h104 : M < 104
  · have := List.all_eq_true.mp am_k_96 (M - 96) (List.mem_range.mpr (by omega))
    rwa [show 96 + (M - 96) = M by omega] at this
  by_cases h112 : M < 112
  · have := List.all_eq_true.mp am_k_104 (M - 104) (List.mem_range.mpr (by omega))
    rwa [show 104 + (M - 104) = M by omega] at this
  by_cases h120 : M < 120
  · have := List.all_eq_true.mp am_k_112 (M - 112) (List.mem_range.mpr (by omega))
    rwa [show 112 + (M - 112) = M by omega] at this
  by_cases h128 : M < 128
  · have := List.all_eq_true.mp am_k_120 (M - 120) (List.mem_range.mpr (by omega))
    rwa [show 120 + (M - 120) = M by omega] at this
  by_cases h136 : M < 136
  · have := List.all_eq_true.mp am_k_128 (M - 128) (List.mem_range.mpr (by omega))
    rwa [show 128 + (M - 128) = M by omega] at this
  by_cases h144 : M < 144
  · have := List.all_eq_true.mp am_k_136 (M - 136) (List.mem_range.mpr (by omega))
    rwa [show 136 + (M - 136) = M by omega] at this
  by_cases h152 : M < 152
  · have := List.all_eq_true.mp am_k_144 (M - 144) (List.mem_range.mpr (by omega))
    rwa [show 144 + (M - 144) = M by omega] at this
  by_cases h160 : M < 160
  · have := List.all_eq_true.mp am_k_152 (M - 152) (List.mem_range.mpr (by omega))
    rwa [show 152 + (M - 152) = M by omega] at this
  by_cases h168 : M < 168
  · have := List.all_eq_true.mp am_k_160 (M - 160) (List.mem_range.mpr (by omega))
    rwa [show 160 + (M - 160) = M by omega] at this
  by_cases h176 : M < 176
  · have := List.all_eq_true.mp am_k_168 (M - 168) (List.mem_range.mpr (by omega))
    rwa [show 168 + (M - 168) = M by omega] at this
  by_cases h184 : M < 184
  · have := List.all_eq_true.mp am_k_176 (M - 176) (List.mem_range.mpr (by omega))
    rwa [show 176 + (M - 176) = M by omega] at this
  by_cases h190 : M < 190
  · have := List.all_eq_true.mp am_k_184 (M - 184) (List.mem_range.mpr (by omega))
    rwa [show 184 + (M - 184) = M by omega] at this
  omega
