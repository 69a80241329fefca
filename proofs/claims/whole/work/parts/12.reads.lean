/-! calls found by the receiver's class: the tables' rows -/
theorem lUX10_149_9 : zall [.methodLink RX10 149 ⟨"PpmTrees$Writer", "begin", "()V"⟩, .sameMethod "PpmTrees$Writer" "PpmTrees$Coder" "begin" "()V", .selects RX9 ⟨"PpmTrees$Writer", "begin", "()V"⟩ yX1_begin, .instanceMethod yX1_begin, .initialized (yX1_begin).cls] = true := by decide +kernel
theorem dUX10_149 : Cond.declares ⟨"PpmTrees$Coder", "begin", "()V"⟩ ∈ zNest := by decide +kernel
theorem lUX8_56_3 : zall [.methodLink RX8 56 ⟨"PpmTrees$Speaker", "say", "(LPpmTrees$Choices;)I"⟩, .sameMethod "PpmTrees$Speaker" "PpmTrees$Speaker" "say" "(LPpmTrees$Choices;)I", .selects RX2 ⟨"PpmTrees$Speaker", "say", "(LPpmTrees$Choices;)I"⟩ yX7_say, .instanceMethod yX7_say, .initialized (yX7_say).cls] = true := by decide +kernel
theorem lUX8_56_7 : zall [.methodLink RX8 56 ⟨"PpmTrees$Speaker", "say", "(LPpmTrees$Choices;)I"⟩, .sameMethod "PpmTrees$Speaker" "PpmTrees$Speaker" "say" "(LPpmTrees$Choices;)I", .selects RX6 ⟨"PpmTrees$Speaker", "say", "(LPpmTrees$Choices;)I"⟩ yX7_say, .instanceMethod yX7_say, .initialized (yX7_say).cls] = true := by decide +kernel
theorem lUX8_56_9 : zall [.methodLink RX8 56 ⟨"PpmTrees$Speaker", "say", "(LPpmTrees$Choices;)I"⟩, .sameMethod "PpmTrees$Speaker" "PpmTrees$Speaker" "say" "(LPpmTrees$Choices;)I", .selects RX9 ⟨"PpmTrees$Speaker", "say", "(LPpmTrees$Choices;)I"⟩ yX7_say, .instanceMethod yX7_say, .initialized (yX7_say).cls] = true := by decide +kernel
theorem lUX7_7_3 : zall [.methodLink RX7 7 ⟨"PpmTrees$Speaker", "choose", "(LPpmTrees$Choices;)I"⟩, .sameMethod "PpmTrees$Speaker" "PpmTrees$Speaker" "choose" "(LPpmTrees$Choices;)I", .selects RX2 ⟨"PpmTrees$Speaker", "choose", "(LPpmTrees$Choices;)I"⟩ yX2_choose, .instanceMethod yX2_choose, .initialized (yX2_choose).cls] = true := by decide +kernel
theorem lUX7_7_7 : zall [.methodLink RX7 7 ⟨"PpmTrees$Speaker", "choose", "(LPpmTrees$Choices;)I"⟩, .sameMethod "PpmTrees$Speaker" "PpmTrees$Speaker" "choose" "(LPpmTrees$Choices;)I", .selects RX6 ⟨"PpmTrees$Speaker", "choose", "(LPpmTrees$Choices;)I"⟩ yX6_choose, .instanceMethod yX6_choose, .initialized (yX6_choose).cls] = true := by decide +kernel
theorem lUX7_7_9 : zall [.methodLink RX7 7 ⟨"PpmTrees$Speaker", "choose", "(LPpmTrees$Choices;)I"⟩, .sameMethod "PpmTrees$Speaker" "PpmTrees$Speaker" "choose" "(LPpmTrees$Choices;)I", .selects RX9 ⟨"PpmTrees$Speaker", "choose", "(LPpmTrees$Choices;)I"⟩ yX9_choose, .instanceMethod yX9_choose, .initialized (yX9_choose).cls] = true := by decide +kernel
theorem dUX7_7 : Cond.declares ⟨"PpmTrees$Speaker", "choose", "(LPpmTrees$Choices;)I"⟩ ∈ zNest := by decide +kernel
theorem lUX6_44_7 : zall [.methodLink RX6 44 ⟨"PpmTrees$Reader", "width", "()I"⟩, .sameMethod "PpmTrees$Reader" "PpmTrees$Coder" "width" "()I", .selects RX6 ⟨"PpmTrees$Reader", "width", "()I"⟩ yX1_width, .instanceMethod yX1_width, .initialized (yX1_width).cls] = true := by decide +kernel
theorem dUX6_44 : Cond.declares ⟨"PpmTrees$Coder", "width", "()I"⟩ ∈ zNest := by decide +kernel
theorem lUX6_47_7 : zall [.methodLink RX6 47 ⟨"PpmTrees$Reader", "low", "()I"⟩, .sameMethod "PpmTrees$Reader" "PpmTrees$Coder" "low" "()I", .selects RX6 ⟨"PpmTrees$Reader", "low", "()I"⟩ yX1_low, .instanceMethod yX1_low, .initialized (yX1_low).cls] = true := by decide +kernel
theorem dUX6_47 : Cond.declares ⟨"PpmTrees$Coder", "low", "()I"⟩ ∈ zNest := by decide +kernel
theorem lUX7_26_3 : zall [.methodLink RX7 26 ⟨"PpmTrees$Speaker", "take", "(III)V"⟩, .sameMethod "PpmTrees$Speaker" "PpmTrees$Speaker" "take" "(III)V", .selects RX2 ⟨"PpmTrees$Speaker", "take", "(III)V"⟩ yX2_take, .instanceMethod yX2_take, .initialized (yX2_take).cls] = true := by decide +kernel
theorem lUX7_26_7 : zall [.methodLink RX7 26 ⟨"PpmTrees$Speaker", "take", "(III)V"⟩, .sameMethod "PpmTrees$Speaker" "PpmTrees$Speaker" "take" "(III)V", .selects RX6 ⟨"PpmTrees$Speaker", "take", "(III)V"⟩ yX1_take, .instanceMethod yX1_take, .initialized (yX1_take).cls] = true := by decide +kernel
theorem lUX7_26_9 : zall [.methodLink RX7 26 ⟨"PpmTrees$Speaker", "take", "(III)V"⟩, .sameMethod "PpmTrees$Speaker" "PpmTrees$Speaker" "take" "(III)V", .selects RX9 ⟨"PpmTrees$Speaker", "take", "(III)V"⟩ yX1_take, .instanceMethod yX1_take, .initialized (yX1_take).cls] = true := by decide +kernel
theorem dUX7_26 : Cond.declares ⟨"PpmTrees$Speaker", "take", "(III)V"⟩ ∈ zNest := by decide +kernel
theorem lUX1_35_7 : zall [.methodLink RX1 35 ⟨"PpmTrees$Coder", "width", "()I"⟩, .sameMethod "PpmTrees$Coder" "PpmTrees$Coder" "width" "()I", .selects RX6 ⟨"PpmTrees$Coder", "width", "()I"⟩ yX1_width, .instanceMethod yX1_width, .initialized (yX1_width).cls] = true := by decide +kernel
theorem lUX1_35_9 : zall [.methodLink RX1 35 ⟨"PpmTrees$Coder", "width", "()I"⟩, .sameMethod "PpmTrees$Coder" "PpmTrees$Coder" "width" "()I", .selects RX9 ⟨"PpmTrees$Coder", "width", "()I"⟩ yX1_width, .instanceMethod yX1_width, .initialized (yX1_width).cls] = true := by decide +kernel
theorem dUX1_35 : Cond.declares ⟨"PpmTrees$Coder", "width", "()I"⟩ ∈ zNest := by decide +kernel
theorem lUX1_46_7 : zall [.methodLink RX1 46 ⟨"PpmTrees$Coder", "shifted", "(I)V"⟩, .sameMethod "PpmTrees$Coder" "PpmTrees$Coder" "shifted" "(I)V", .selects RX6 ⟨"PpmTrees$Coder", "shifted", "(I)V"⟩ yX6_shifted, .instanceMethod yX6_shifted, .initialized (yX6_shifted).cls] = true := by decide +kernel
theorem lUX1_46_9 : zall [.methodLink RX1 46 ⟨"PpmTrees$Coder", "shifted", "(I)V"⟩, .sameMethod "PpmTrees$Coder" "PpmTrees$Coder" "shifted" "(I)V", .selects RX9 ⟨"PpmTrees$Coder", "shifted", "(I)V"⟩ yX9_shifted, .instanceMethod yX9_shifted, .initialized (yX9_shifted).cls] = true := by decide +kernel
theorem dUX1_46 : Cond.declares ⟨"PpmTrees$Coder", "shifted", "(I)V"⟩ ∈ zNest := by decide +kernel
theorem lUX10_163_9 : zall [.methodLink RX10 163 ⟨"PpmTrees$Writer", "finish", "()V"⟩, .sameMethod "PpmTrees$Writer" "PpmTrees$Coder" "finish" "()V", .selects RX9 ⟨"PpmTrees$Writer", "finish", "()V"⟩ yX1_finish, .instanceMethod yX1_finish, .initialized (yX1_finish).cls] = true := by decide +kernel
theorem dUX10_163 : Cond.declares ⟨"PpmTrees$Coder", "finish", "()V"⟩ ∈ zNest := by decide +kernel
theorem lUX10_166_9 : zall [.methodLink RX10 166 ⟨"PpmTrees$Writer", "bits", "()I"⟩, .sameMethod "PpmTrees$Writer" "PpmTrees$Coder" "bits" "()I", .selects RX9 ⟨"PpmTrees$Writer", "bits", "()I"⟩ yX1_bits, .instanceMethod yX1_bits, .initialized (yX1_bits).cls] = true := by decide +kernel
theorem dUX10_166 : Cond.declares ⟨"PpmTrees$Coder", "bits", "()I"⟩ ∈ zNest := by decide +kernel
theorem dUX6_15 : Cond.declares ⟨"PpmTrees$Coder", "begin", "()V"⟩ ∈ zNest := by decide +kernel
theorem lUX10_209_7 : zall [.methodLink RX10 209 ⟨"PpmTrees$Reader", "finish", "()V"⟩, .sameMethod "PpmTrees$Reader" "PpmTrees$Coder" "finish" "()V", .selects RX6 ⟨"PpmTrees$Reader", "finish", "()V"⟩ yX1_finish, .instanceMethod yX1_finish, .initialized (yX1_finish).cls] = true := by decide +kernel
theorem dUX10_209 : Cond.declares ⟨"PpmTrees$Coder", "finish", "()V"⟩ ∈ zNest := by decide +kernel
theorem lUX6_36_7 : zall [.methodLink RX6 36 ⟨"PpmTrees$Reader", "written", "()LPpmTrees$Octets;"⟩, .sameMethod "PpmTrees$Reader" "PpmTrees$Coder" "written" "()LPpmTrees$Octets;", .selects RX6 ⟨"PpmTrees$Reader", "written", "()LPpmTrees$Octets;"⟩ yX1_written, .instanceMethod yX1_written, .initialized (yX1_written).cls] = true := by decide +kernel
theorem dUX6_36 : Cond.declares ⟨"PpmTrees$Coder", "written", "()LPpmTrees$Octets;"⟩ ∈ zNest := by decide +kernel
/-! reads and small writes of PackReport, Teller, Meter, Writer, Coder -/
abbrev rX5_signs : Room := ⟨0, 0, 0, 0⟩
def SX5_signs (G : zC) : zS := fun as h n K => ∃ (a : Nat) (fs : List Value) (x : Int32), as = [.ref a] ∧ h a = some (zO 6 fs) ∧ fs[2]? = some (.int x) ∧ K (some (.int x)) h n
set_option maxRecDepth 100000 in
theorem tvX5_signs {G : zC} {as : List Value} {h : zH} {n : Nat} {K : zP} (hs : SX5_signs G as h n K) : (∃ b fs r, as = .ref b :: r ∧ h b = some (.inr (6, fs))) ∧ zCt G rX5_signs mX5_signs as h n K := by
  obtain ⟨a, fs, x, rfl, hk, hv, hK⟩ := hs
  refine ⟨⟨_, _, _, rfl, hk⟩, zCt.of (by decide) (Nat.le_of_ble_eq_true rfl) ?_⟩
  refine z_aload_n dX5_signs_0 rfl ?_
  refine z_getfield dX5_signs_1 fX5_18_6 rfl hk hv ?_
  exact z_ireturn dX5_signs_4 trivial (Nat.le_of_ble_eq_true rfl) (Nat.le_of_ble_eq_true rfl) hK
abbrev rX5_bits : Room := ⟨0, 0, 0, 0⟩
def SX5_bits (G : zC) : zS := fun as h n K => ∃ (a : Nat) (fs : List Value) (x : Int32), as = [.ref a] ∧ h a = some (zO 6 fs) ∧ fs[3]? = some (.int x) ∧ K (some (.int x)) h n
set_option maxRecDepth 100000 in
theorem tvX5_bits {G : zC} {as : List Value} {h : zH} {n : Nat} {K : zP} (hs : SX5_bits G as h n K) : (∃ b fs r, as = .ref b :: r ∧ h b = some (.inr (6, fs))) ∧ zCt G rX5_bits mX5_bits as h n K := by
  obtain ⟨a, fs, x, rfl, hk, hv, hK⟩ := hs
  refine ⟨⟨_, _, _, rfl, hk⟩, zCt.of (by decide) (Nat.le_of_ble_eq_true rfl) ?_⟩
  refine z_aload_n dX5_bits_0 rfl ?_
  refine z_getfield dX5_bits_1 fX5_22_6 rfl hk hv ?_
  exact z_ireturn dX5_bits_4 trivial (Nat.le_of_ble_eq_true rfl) (Nat.le_of_ble_eq_true rfl) hK
abbrev rX5_escapes : Room := ⟨0, 0, 0, 0⟩
def SX5_escapes (G : zC) : zS := fun as h n K => ∃ (a : Nat) (fs : List Value) (x : Int32), as = [.ref a] ∧ h a = some (zO 6 fs) ∧ fs[4]? = some (.int x) ∧ K (some (.int x)) h n
set_option maxRecDepth 100000 in
theorem tvX5_escapes {G : zC} {as : List Value} {h : zH} {n : Nat} {K : zP} (hs : SX5_escapes G as h n K) : (∃ b fs r, as = .ref b :: r ∧ h b = some (.inr (6, fs))) ∧ zCt G rX5_escapes mX5_escapes as h n K := by
  obtain ⟨a, fs, x, rfl, hk, hv, hK⟩ := hs
  refine ⟨⟨_, _, _, rfl, hk⟩, zCt.of (by decide) (Nat.le_of_ble_eq_true rfl) ?_⟩
  refine z_aload_n dX5_escapes_0 rfl ?_
  refine z_getfield dX5_escapes_1 fX5_25_6 rfl hk hv ?_
  exact z_ireturn dX5_escapes_4 trivial (Nat.le_of_ble_eq_true rfl) (Nat.le_of_ble_eq_true rfl) hK
abbrev rX5_restarts : Room := ⟨0, 0, 0, 0⟩
def SX5_restarts (G : zC) : zS := fun as h n K => ∃ (a : Nat) (fs : List Value) (x : Int32), as = [.ref a] ∧ h a = some (zO 6 fs) ∧ fs[5]? = some (.int x) ∧ K (some (.int x)) h n
set_option maxRecDepth 100000 in
theorem tvX5_restarts {G : zC} {as : List Value} {h : zH} {n : Nat} {K : zP} (hs : SX5_restarts G as h n K) : (∃ b fs r, as = .ref b :: r ∧ h b = some (.inr (6, fs))) ∧ zCt G rX5_restarts mX5_restarts as h n K := by
  obtain ⟨a, fs, x, rfl, hk, hv, hK⟩ := hs
  refine ⟨⟨_, _, _, rfl, hk⟩, zCt.of (by decide) (Nat.le_of_ble_eq_true rfl) ?_⟩
  refine z_aload_n dX5_restarts_0 rfl ?_
  refine z_getfield dX5_restarts_1 fX5_28_6 rfl hk hv ?_
  exact z_ireturn dX5_restarts_4 trivial (Nat.le_of_ble_eq_true rfl) (Nat.le_of_ble_eq_true rfl) hK
abbrev rX8_excludedMany : Room := ⟨0, 0, 0, 0⟩
def SX8_excludedMany (G : zC) : zS := fun as h n K => ∃ (a : Nat) (fs : List Value) (x : Int32), as = [.ref a] ∧ h a = some (zO 8 fs) ∧ fs[3]? = some (.int x) ∧ K (some (.int x)) h n
set_option maxRecDepth 100000 in
theorem tvX8_excludedMany {G : zC} {as : List Value} {h : zH} {n : Nat} {K : zP} (hs : SX8_excludedMany G as h n K) : (∃ b fs r, as = .ref b :: r ∧ h b = some (.inr (8, fs))) ∧ zCt G rX8_excludedMany mX8_excludedMany as h n K := by
  obtain ⟨a, fs, x, rfl, hk, hv, hK⟩ := hs
  refine ⟨⟨_, _, _, rfl, hk⟩, zCt.of (by decide) (Nat.le_of_ble_eq_true rfl) ?_⟩
  refine z_aload_n dX8_excludedMany_0 rfl ?_
  refine z_getfield dX8_excludedMany_1 fX8_22_8 rfl hk hv ?_
  exact z_ireturn dX8_excludedMany_4 trivial (Nat.le_of_ble_eq_true rfl) (Nat.le_of_ble_eq_true rfl) hK
abbrev rX8_escapes : Room := ⟨0, 0, 0, 0⟩
def SX8_escapes (G : zC) : zS := fun as h n K => ∃ (a : Nat) (fs : List Value) (x : Int32), as = [.ref a] ∧ h a = some (zO 8 fs) ∧ fs[4]? = some (.int x) ∧ K (some (.int x)) h n
set_option maxRecDepth 100000 in
theorem tvX8_escapes {G : zC} {as : List Value} {h : zH} {n : Nat} {K : zP} (hs : SX8_escapes G as h n K) : (∃ b fs r, as = .ref b :: r ∧ h b = some (.inr (8, fs))) ∧ zCt G rX8_escapes mX8_escapes as h n K := by
  obtain ⟨a, fs, x, rfl, hk, hv, hK⟩ := hs
  refine ⟨⟨_, _, _, rfl, hk⟩, zCt.of (by decide) (Nat.le_of_ble_eq_true rfl) ?_⟩
  refine z_aload_n dX8_escapes_0 rfl ?_
  refine z_getfield dX8_escapes_1 fX8_26_8 rfl hk hv ?_
  exact z_ireturn dX8_escapes_4 trivial (Nat.le_of_ble_eq_true rfl) (Nat.le_of_ble_eq_true rfl) hK
abbrev rX8_foundIn : Room := ⟨0, 0, 0, 0⟩
def SX8_foundIn (G : zC) : zS := fun as h n K => ∃ (a : Nat) (fs : List Value) (x : Int32), as = [.ref a] ∧ h a = some (zO 8 fs) ∧ fs[5]? = some (.int x) ∧ K (some (.int x)) h n
set_option maxRecDepth 100000 in
theorem tvX8_foundIn {G : zC} {as : List Value} {h : zH} {n : Nat} {K : zP} (hs : SX8_foundIn G as h n K) : (∃ b fs r, as = .ref b :: r ∧ h b = some (.inr (8, fs))) ∧ zCt G rX8_foundIn mX8_foundIn as h n K := by
  obtain ⟨a, fs, x, rfl, hk, hv, hK⟩ := hs
  refine ⟨⟨_, _, _, rfl, hk⟩, zCt.of (by decide) (Nat.le_of_ble_eq_true rfl) ?_⟩
  refine z_aload_n dX8_foundIn_0 rfl ?_
  refine z_getfield dX8_foundIn_1 fX8_29_8 rfl hk hv ?_
  exact z_ireturn dX8_foundIn_4 trivial (Nat.le_of_ble_eq_true rfl) (Nat.le_of_ble_eq_true rfl) hK
abbrev rX2_sum : Room := ⟨0, 0, 0, 0⟩
def SX2_sum (G : zC) : zS := fun as h n K => ∃ (a : Nat) (fs : List Value) (x : Int32), as = [.ref a] ∧ h a = some (zO 3 fs) ∧ fs[1]? = some (.int x) ∧ K (some (.int x)) h n
set_option maxRecDepth 100000 in
theorem tvX2_sum {G : zC} {as : List Value} {h : zH} {n : Nat} {K : zP} (hs : SX2_sum G as h n K) : (∃ b fs r, as = .ref b :: r ∧ h b = some (.inr (3, fs))) ∧ zCt G rX2_sum mX2_sum as h n K := by
  obtain ⟨a, fs, x, rfl, hk, hv, hK⟩ := hs
  refine ⟨⟨_, _, _, rfl, hk⟩, zCt.of (by decide) (Nat.le_of_ble_eq_true rfl) ?_⟩
  refine z_aload_n dX2_sum_0 rfl ?_
  refine z_getfield dX2_sum_1 fX2_15_3 rfl hk hv ?_
  exact z_ireturn dX2_sum_4 trivial (Nat.le_of_ble_eq_true rfl) (Nat.le_of_ble_eq_true rfl) hK
abbrev rX1_bits_7 : Room := ⟨0, 0, 0, 0⟩
def SX1_bits_7 (G : zC) : zS := fun as h n K => ∃ (a : Nat) (fs : List Value) (x : Int32), as = [.ref a] ∧ h a = some (zO 7 fs) ∧ fs[1]? = some (.int x) ∧ K (some (.int x)) h n
set_option maxRecDepth 100000 in
theorem tvX1_bits_7 {G : zC} {as : List Value} {h : zH} {n : Nat} {K : zP} (hs : SX1_bits_7 G as h n K) : (∃ b fs r, as = .ref b :: r ∧ h b = some (.inr (7, fs))) ∧ zCt G rX1_bits_7 mX1_bits as h n K := by
  obtain ⟨a, fs, x, rfl, hk, hv, hK⟩ := hs
  refine ⟨⟨_, _, _, rfl, hk⟩, zCt.of (by decide) (Nat.le_of_ble_eq_true rfl) ?_⟩
  refine z_aload_n dX1_bits_0 rfl ?_
  refine z_getfield dX1_bits_1 fX1_21_7 rfl hk hv ?_
  exact z_ireturn dX1_bits_4 trivial (Nat.le_of_ble_eq_true rfl) (Nat.le_of_ble_eq_true rfl) hK
abbrev rX1_low_7 : Room := ⟨0, 0, 0, 0⟩
def SX1_low_7 (G : zC) : zS := fun as h n K => ∃ (a : Nat) (fs : List Value) (x : Int32), as = [.ref a] ∧ h a = some (zO 7 fs) ∧ fs[2]? = some (.int x) ∧ K (some (.int x)) h n
set_option maxRecDepth 100000 in
theorem tvX1_low_7 {G : zC} {as : List Value} {h : zH} {n : Nat} {K : zP} (hs : SX1_low_7 G as h n K) : (∃ b fs r, as = .ref b :: r ∧ h b = some (.inr (7, fs))) ∧ zCt G rX1_low_7 mX1_low as h n K := by
  obtain ⟨a, fs, x, rfl, hk, hv, hK⟩ := hs
  refine ⟨⟨_, _, _, rfl, hk⟩, zCt.of (by decide) (Nat.le_of_ble_eq_true rfl) ?_⟩
  refine z_aload_n dX1_low_0 rfl ?_
  refine z_getfield dX1_low_1 fX1_25_7 rfl hk hv ?_
  exact z_ireturn dX1_low_4 trivial (Nat.le_of_ble_eq_true rfl) (Nat.le_of_ble_eq_true rfl) hK
abbrev rX1_written_7 : Room := ⟨0, 0, 0, 0⟩
def SX1_written_7 (G : zC) : zS := fun as h n K => ∃ (a : Nat) (fs : List Value) (x : Nat), as = [.ref a] ∧ h a = some (zO 7 fs) ∧ fs[0]? = some (.ref x) ∧ K (some (.ref x)) h n
set_option maxRecDepth 100000 in
theorem tvX1_written_7 {G : zC} {as : List Value} {h : zH} {n : Nat} {K : zP} (hs : SX1_written_7 G as h n K) : (∃ b fs r, as = .ref b :: r ∧ h b = some (.inr (7, fs))) ∧ zCt G rX1_written_7 mX1_written as h n K := by
  obtain ⟨a, fs, x, rfl, hk, hv, hK⟩ := hs
  refine ⟨⟨_, _, _, rfl, hk⟩, zCt.of (by decide) (Nat.le_of_ble_eq_true rfl) ?_⟩
  refine z_aload_n dX1_written_0 rfl ?_
  refine z_getfield dX1_written_1 fX1_9_7 rfl hk hv ?_
  exact z_areturn dX1_written_4 rfl (Nat.le_of_ble_eq_true rfl) (Nat.le_of_ble_eq_true rfl) hK
abbrev rX1_bits_9 : Room := ⟨0, 0, 0, 0⟩
def SX1_bits_9 (G : zC) : zS := fun as h n K => ∃ (a : Nat) (fs : List Value) (x : Int32), as = [.ref a] ∧ h a = some (zO 9 fs) ∧ fs[1]? = some (.int x) ∧ K (some (.int x)) h n
set_option maxRecDepth 100000 in
theorem tvX1_bits_9 {G : zC} {as : List Value} {h : zH} {n : Nat} {K : zP} (hs : SX1_bits_9 G as h n K) : (∃ b fs r, as = .ref b :: r ∧ h b = some (.inr (9, fs))) ∧ zCt G rX1_bits_9 mX1_bits as h n K := by
  obtain ⟨a, fs, x, rfl, hk, hv, hK⟩ := hs
  refine ⟨⟨_, _, _, rfl, hk⟩, zCt.of (by decide) (Nat.le_of_ble_eq_true rfl) ?_⟩
  refine z_aload_n dX1_bits_0 rfl ?_
  refine z_getfield dX1_bits_1 fX1_21_9 rfl hk hv ?_
  exact z_ireturn dX1_bits_4 trivial (Nat.le_of_ble_eq_true rfl) (Nat.le_of_ble_eq_true rfl) hK
abbrev rX1_low_9 : Room := ⟨0, 0, 0, 0⟩
def SX1_low_9 (G : zC) : zS := fun as h n K => ∃ (a : Nat) (fs : List Value) (x : Int32), as = [.ref a] ∧ h a = some (zO 9 fs) ∧ fs[2]? = some (.int x) ∧ K (some (.int x)) h n
set_option maxRecDepth 100000 in
theorem tvX1_low_9 {G : zC} {as : List Value} {h : zH} {n : Nat} {K : zP} (hs : SX1_low_9 G as h n K) : (∃ b fs r, as = .ref b :: r ∧ h b = some (.inr (9, fs))) ∧ zCt G rX1_low_9 mX1_low as h n K := by
  obtain ⟨a, fs, x, rfl, hk, hv, hK⟩ := hs
  refine ⟨⟨_, _, _, rfl, hk⟩, zCt.of (by decide) (Nat.le_of_ble_eq_true rfl) ?_⟩
  refine z_aload_n dX1_low_0 rfl ?_
  refine z_getfield dX1_low_1 fX1_25_9 rfl hk hv ?_
  exact z_ireturn dX1_low_4 trivial (Nat.le_of_ble_eq_true rfl) (Nat.le_of_ble_eq_true rfl) hK
abbrev rX1_written_9 : Room := ⟨0, 0, 0, 0⟩
def SX1_written_9 (G : zC) : zS := fun as h n K => ∃ (a : Nat) (fs : List Value) (x : Nat), as = [.ref a] ∧ h a = some (zO 9 fs) ∧ fs[0]? = some (.ref x) ∧ K (some (.ref x)) h n
set_option maxRecDepth 100000 in
theorem tvX1_written_9 {G : zC} {as : List Value} {h : zH} {n : Nat} {K : zP} (hs : SX1_written_9 G as h n K) : (∃ b fs r, as = .ref b :: r ∧ h b = some (.inr (9, fs))) ∧ zCt G rX1_written_9 mX1_written as h n K := by
  obtain ⟨a, fs, x, rfl, hk, hv, hK⟩ := hs
  refine ⟨⟨_, _, _, rfl, hk⟩, zCt.of (by decide) (Nat.le_of_ble_eq_true rfl) ?_⟩
  refine z_aload_n dX1_written_0 rfl ?_
  refine z_getfield dX1_written_1 fX1_9_9 rfl hk hv ?_
  exact z_areturn dX1_written_4 rfl (Nat.le_of_ble_eq_true rfl) (Nat.le_of_ble_eq_true rfl) hK
abbrev rX9_want : Room := ⟨0, 0, 0, 0⟩
def SX9_want (G : zC) : zS := fun as h n K => ∃ (a : Nat) (v0 v1 v2 v3 v4 v5 : Value) (x : Int32), as = [.ref a, .int x] ∧ h a = some (zO 9 [v0, v1, v2, v3, v4, v5]) ∧ ∀ h', h' a = some (zO 9 [v0, v1, v2, v3, v4, .int x]) → (∀ q, q ≠ a → h' q = h q) → K none h' n
set_option maxRecDepth 100000 in
theorem tvX9_want {G : zC} {as : List Value} {h : zH} {n : Nat} {K : zP} (hs : SX9_want G as h n K) : (∃ b fs r, as = .ref b :: r ∧ h b = some (.inr (9, fs))) ∧ zCt G rX9_want mX9_want as h n K := by
  obtain ⟨a, v0, v1, v2, v3, v4, v5, x, rfl, hk, hK⟩ := hs
  refine ⟨⟨_, _, _, rfl, hk⟩, zCt.of (by decide) (Nat.le_of_ble_eq_true rfl) ?_⟩
  refine z_aload_n dX9_want_0 rfl ?_
  refine z_iload_n dX9_want_1 rfl ?_
  refine z_putfield dX9_want_2 fX9_7_9 rfl (fun q => absurd q (by decide)) (by first | assumption | exact zget_eq | exact zget_ne (by first | assumption | exact Ne.symm (by assumption) | omega) (by first | assumption | exact zget_eq | exact zget_ne (by first | assumption | exact Ne.symm (by assumption) | omega) (by first | assumption | exact zget_eq | exact zget_ne (by first | assumption | exact Ne.symm (by assumption) | omega) (by first | assumption | exact zget_eq)))) (Nat.le_of_ble_eq_true rfl) (Or.inl ⟨rfl, _, rfl⟩) ?_
  refine z_vreturn dX9_want_5 rfl (Nat.le_of_ble_eq_true rfl) (Nat.le_of_ble_eq_true rfl) ?_
  exact hK _ (by simp [va_up]) (fun q hq => by simp [va_up, hq])
abbrev rX9_shifted : Room := ⟨0, 0, 0, 0⟩
def SX9_shifted (G : zC) : zS := fun as h n K => ∃ (a : Nat) (fs : List Value) (x : Int32), as = [.ref a, .int x] ∧ h a = some (zO 9 fs) ∧ K none h n
set_option maxRecDepth 100000 in
theorem tvX9_shifted {G : zC} {as : List Value} {h : zH} {n : Nat} {K : zP} (hs : SX9_shifted G as h n K) : (∃ b fs r, as = .ref b :: r ∧ h b = some (.inr (9, fs))) ∧ zCt G rX9_shifted mX9_shifted as h n K := by
  obtain ⟨a, fs, x, rfl, hk, hK⟩ := hs
  refine ⟨⟨_, _, _, rfl, hk⟩, zCt.of (by decide) (Nat.le_of_ble_eq_true rfl) ?_⟩
  refine z_vreturn dX9_shifted_0 rfl (Nat.le_of_ble_eq_true rfl) (Nat.le_of_ble_eq_true rfl) ?_
  exact hK
abbrev rX2_begin : Room := ⟨0, 0, 0, 0⟩
def SX2_begin (G : zC) : zS := fun as h n K => ∃ (a : Nat) (v0 v1 : Value) (x : Int32), as = [.ref a, .int x] ∧ h a = some (zO 3 [v0, v1]) ∧ ∀ h', h' a = some (zO 3 [.int x, .int 0]) → (∀ q, q ≠ a → h' q = h q) → K none h' n
set_option maxRecDepth 100000 in
theorem tvX2_begin {G : zC} {as : List Value} {h : zH} {n : Nat} {K : zP} (hs : SX2_begin G as h n K) : (∃ b fs r, as = .ref b :: r ∧ h b = some (.inr (3, fs))) ∧ zCt G rX2_begin mX2_begin as h n K := by
  obtain ⟨a, v0, v1, x, rfl, hk, hK⟩ := hs
  refine ⟨⟨_, _, _, rfl, hk⟩, zCt.of (by decide) (Nat.le_of_ble_eq_true rfl) ?_⟩
  refine z_aload_n dX2_begin_0 rfl ?_
  refine z_iload_n dX2_begin_1 rfl ?_
  refine z_putfield dX2_begin_2 fX2_9_3 rfl (fun q => absurd q (by decide)) (by first | assumption | exact zget_eq | exact zget_ne (by first | assumption | exact Ne.symm (by assumption) | omega) (by first | assumption | exact zget_eq | exact zget_ne (by first | assumption | exact Ne.symm (by assumption) | omega) (by first | assumption | exact zget_eq | exact zget_ne (by first | assumption | exact Ne.symm (by assumption) | omega) (by first | assumption | exact zget_eq)))) (Nat.le_of_ble_eq_true rfl) (Or.inl ⟨rfl, _, rfl⟩) ?_
  refine z_aload_n dX2_begin_5 rfl ?_
  refine z_iconst (w := 0) dX2_begin_6 (by decide) ?_
  refine z_putfield dX2_begin_7 fX2_15_3 rfl (fun q => absurd q (by decide)) (by first | assumption | exact zget_eq | exact zget_ne (by first | assumption | exact Ne.symm (by assumption) | omega) (by first | assumption | exact zget_eq | exact zget_ne (by first | assumption | exact Ne.symm (by assumption) | omega) (by first | assumption | exact zget_eq | exact zget_ne (by first | assumption | exact Ne.symm (by assumption) | omega) (by first | assumption | exact zget_eq)))) (Nat.le_of_ble_eq_true rfl) (Or.inl ⟨rfl, _, rfl⟩) ?_
  refine z_vreturn dX2_begin_10 rfl (Nat.le_of_ble_eq_true rfl) (Nat.le_of_ble_eq_true rfl) ?_
  exact hK _ (by simp [va_up]) (fun q hq => by simp [va_up, hq])
abbrev rX5_begin : Room := ⟨0, 0, 0, 0⟩
def SX5_begin (G : zC) : zS := fun as h n K => ∃ (a : Nat) (v0 v1 v2 v3 v4 v5 : Value), as = [.ref a] ∧ h a = some (zO 6 [v0, v1, v2, v3, v4, v5]) ∧ ∀ h', h' a = some (zO 6 [v0, v1, .int 0, .int 0, .int 0, .int 0]) → (∀ q, q ≠ a → h' q = h q) → K none h' n
set_option maxRecDepth 100000 in
theorem tvX5_begin {G : zC} {as : List Value} {h : zH} {n : Nat} {K : zP} (hs : SX5_begin G as h n K) : (∃ b fs r, as = .ref b :: r ∧ h b = some (.inr (6, fs))) ∧ zCt G rX5_begin mX5_begin as h n K := by
  obtain ⟨a, v0, v1, v2, v3, v4, v5, rfl, hk, hK⟩ := hs
  refine ⟨⟨_, _, _, rfl, hk⟩, zCt.of (by decide) (Nat.le_of_ble_eq_true rfl) ?_⟩
  refine z_aload_n dX5_begin_0 rfl ?_
  refine z_iconst (w := 0) dX5_begin_1 (by decide) ?_
  refine z_putfield dX5_begin_2 fX5_18_6 rfl (fun q => absurd q (by decide)) (by first | assumption | exact zget_eq | exact zget_ne (by first | assumption | exact Ne.symm (by assumption) | omega) (by first | assumption | exact zget_eq | exact zget_ne (by first | assumption | exact Ne.symm (by assumption) | omega) (by first | assumption | exact zget_eq | exact zget_ne (by first | assumption | exact Ne.symm (by assumption) | omega) (by first | assumption | exact zget_eq)))) (Nat.le_of_ble_eq_true rfl) (Or.inl ⟨rfl, _, rfl⟩) ?_
  refine z_aload_n dX5_begin_5 rfl ?_
  refine z_iconst (w := 0) dX5_begin_6 (by decide) ?_
  refine z_putfield dX5_begin_7 fX5_22_6 rfl (fun q => absurd q (by decide)) (by first | assumption | exact zget_eq | exact zget_ne (by first | assumption | exact Ne.symm (by assumption) | omega) (by first | assumption | exact zget_eq | exact zget_ne (by first | assumption | exact Ne.symm (by assumption) | omega) (by first | assumption | exact zget_eq | exact zget_ne (by first | assumption | exact Ne.symm (by assumption) | omega) (by first | assumption | exact zget_eq)))) (Nat.le_of_ble_eq_true rfl) (Or.inl ⟨rfl, _, rfl⟩) ?_
  refine z_aload_n dX5_begin_10 rfl ?_
  refine z_iconst (w := 0) dX5_begin_11 (by decide) ?_
  refine z_putfield dX5_begin_12 fX5_25_6 rfl (fun q => absurd q (by decide)) (by first | assumption | exact zget_eq | exact zget_ne (by first | assumption | exact Ne.symm (by assumption) | omega) (by first | assumption | exact zget_eq | exact zget_ne (by first | assumption | exact Ne.symm (by assumption) | omega) (by first | assumption | exact zget_eq | exact zget_ne (by first | assumption | exact Ne.symm (by assumption) | omega) (by first | assumption | exact zget_eq)))) (Nat.le_of_ble_eq_true rfl) (Or.inl ⟨rfl, _, rfl⟩) ?_
  refine z_aload_n dX5_begin_15 rfl ?_
  refine z_iconst (w := 0) dX5_begin_16 (by decide) ?_
  refine z_putfield dX5_begin_17 fX5_28_6 rfl (fun q => absurd q (by decide)) (by first | assumption | exact zget_eq | exact zget_ne (by first | assumption | exact Ne.symm (by assumption) | omega) (by first | assumption | exact zget_eq | exact zget_ne (by first | assumption | exact Ne.symm (by assumption) | omega) (by first | assumption | exact zget_eq | exact zget_ne (by first | assumption | exact Ne.symm (by assumption) | omega) (by first | assumption | exact zget_eq)))) (Nat.le_of_ble_eq_true rfl) (Or.inl ⟨rfl, _, rfl⟩) ?_
  refine z_vreturn dX5_begin_20 rfl (Nat.le_of_ble_eq_true rfl) (Nat.le_of_ble_eq_true rfl) ?_
  exact hK _ (by simp [va_up]) (fun q hq => by simp [va_up, hq])
abbrev rX5_noteRestart : Room := ⟨0, 0, 0, 0⟩
def SX5_noteRestart (G : zC) : zS := fun as h n K => ∃ (a : Nat) (v0 v1 v2 v3 v4 : Value) (x : Int32), as = [.ref a] ∧ h a = some (zO 6 [v0, v1, v2, v3, v4, .int x]) ∧ ∀ h', h' a = some (zO 6 [v0, v1, v2, v3, v4, .int (x + 1)]) → (∀ q, q ≠ a → h' q = h q) → K none h' n
set_option maxRecDepth 100000 in
theorem tvX5_noteRestart {G : zC} {as : List Value} {h : zH} {n : Nat} {K : zP} (hs : SX5_noteRestart G as h n K) : (∃ b fs r, as = .ref b :: r ∧ h b = some (.inr (6, fs))) ∧ zCt G rX5_noteRestart mX5_noteRestart as h n K := by
  obtain ⟨a, v0, v1, v2, v3, v4, x, rfl, hk, hK⟩ := hs
  refine ⟨⟨_, _, _, rfl, hk⟩, zCt.of (by decide) (Nat.le_of_ble_eq_true rfl) ?_⟩
  refine z_aload_n dX5_noteRestart_0 rfl ?_
  refine z_dup dX5_noteRestart_1 rfl ?_
  refine z_getfield dX5_noteRestart_2 fX5_28_6 rfl (by first | assumption | exact zget_eq | exact zget_ne (by first | assumption | exact Ne.symm (by assumption) | omega) (by first | assumption | exact zget_eq | exact zget_ne (by first | assumption | exact Ne.symm (by assumption) | omega) (by first | assumption | exact zget_eq | exact zget_ne (by first | assumption | exact Ne.symm (by assumption) | omega) (by first | assumption | exact zget_eq)))) rfl ?_
  refine z_iconst (w := 1) dX5_noteRestart_5 (by decide) ?_
  refine z_iadd dX5_noteRestart_6 ?_
  refine z_putfield dX5_noteRestart_7 fX5_28_6 rfl (fun q => absurd q (by decide)) (by first | assumption | exact zget_eq | exact zget_ne (by first | assumption | exact Ne.symm (by assumption) | omega) (by first | assumption | exact zget_eq | exact zget_ne (by first | assumption | exact Ne.symm (by assumption) | omega) (by first | assumption | exact zget_eq | exact zget_ne (by first | assumption | exact Ne.symm (by assumption) | omega) (by first | assumption | exact zget_eq)))) (Nat.le_of_ble_eq_true rfl) (Or.inl ⟨rfl, _, rfl⟩) ?_
  refine z_vreturn dX5_noteRestart_10 rfl (Nat.le_of_ble_eq_true rfl) (Nat.le_of_ble_eq_true rfl) ?_
  exact hK _ (by simp [va_up]) (fun q hq => by simp [va_up, hq])
abbrev rX5_noteBits : Room := ⟨0, 0, 0, 0⟩
def SX5_noteBits (G : zC) : zS := fun as h n K => ∃ (a : Nat) (v0 v1 v2 v3 v4 v5 : Value) (x : Int32), as = [.ref a, .int x] ∧ h a = some (zO 6 [v0, v1, v2, v3, v4, v5]) ∧ ∀ h', h' a = some (zO 6 [v0, v1, v2, .int x, v4, v5]) → (∀ q, q ≠ a → h' q = h q) → K none h' n
set_option maxRecDepth 100000 in
theorem tvX5_noteBits {G : zC} {as : List Value} {h : zH} {n : Nat} {K : zP} (hs : SX5_noteBits G as h n K) : (∃ b fs r, as = .ref b :: r ∧ h b = some (.inr (6, fs))) ∧ zCt G rX5_noteBits mX5_noteBits as h n K := by
  obtain ⟨a, v0, v1, v2, v3, v4, v5, x, rfl, hk, hK⟩ := hs
  refine ⟨⟨_, _, _, rfl, hk⟩, zCt.of (by decide) (Nat.le_of_ble_eq_true rfl) ?_⟩
  refine z_aload_n dX5_noteBits_0 rfl ?_
  refine z_iload_n dX5_noteBits_1 rfl ?_
  refine z_putfield dX5_noteBits_2 fX5_22_6 rfl (fun q => absurd q (by decide)) (by first | assumption | exact zget_eq | exact zget_ne (by first | assumption | exact Ne.symm (by assumption) | omega) (by first | assumption | exact zget_eq | exact zget_ne (by first | assumption | exact Ne.symm (by assumption) | omega) (by first | assumption | exact zget_eq | exact zget_ne (by first | assumption | exact Ne.symm (by assumption) | omega) (by first | assumption | exact zget_eq)))) (Nat.le_of_ble_eq_true rfl) (Or.inl ⟨rfl, _, rfl⟩) ?_
  refine z_vreturn dX5_noteBits_5 rfl (Nat.le_of_ble_eq_true rfl) (Nat.le_of_ble_eq_true rfl) ?_
  exact hK _ (by simp [va_up]) (fun q hq => by simp [va_up, hq])
abbrev rX5_excludedOf : Room := ⟨1, 0, 0, 40⟩
def SX5_excludedOf (G : zC) : zS := fun as h n K => ∃ (a r m : Nat) (v1 v2 v3 v4 v5 : Value) (f : Nat → Int32) (i : Nat), as = [.ref a, .int (nI i)] ∧ h a = some (zO 6 [.ref r, v1, v2, v3, v4, v5]) ∧ h r = some (zI G m f) ∧ m < 2147483648 ∧ i < m ∧ K (some (.int (f i))) h n
set_option maxRecDepth 100000 in
theorem tvX5_excludedOf {G : zC} {as : List Value} {h : zH} {n : Nat} {K : zP} (hs : SX5_excludedOf G as h n K) : (∃ b fs r, as = .ref b :: r ∧ h b = some (.inr (6, fs))) ∧ zCt G rX5_excludedOf mX5_excludedOf as h n K := by
  obtain ⟨a, r, m, v1, v2, v3, v4, v5, f, i, rfl, hk, hr, hm, hi, hK⟩ := hs
  refine ⟨⟨_, _, _, rfl, hk⟩, zCt.of (by decide) (Nat.le_of_ble_eq_true rfl) ?_⟩
  refine z_aload_n dX5_excludedOf_0 rfl ?_
  refine z_getfield dX5_excludedOf_1 fX5_9_6 rfl (by first | assumption | exact zget_eq | exact zget_ne (by first | assumption | exact Ne.symm (by assumption) | omega) (by first | assumption | exact zget_eq | exact zget_ne (by first | assumption | exact Ne.symm (by assumption) | omega) (by first | assumption | exact zget_eq | exact zget_ne (by first | assumption | exact Ne.symm (by assumption) | omega) (by first | assumption | exact zget_eq)))) rfl ?_
  refine z_iload_n dX5_excludedOf_4 rfl ?_
  refine zcall2 (zck_SN (R' := rX10_at) (M' := mX10_at) (fun _ _ _ _ => tX10_at) kX10_at lX5_46 nX5_46 (by decide +kernel) rfl) dX5_excludedOf_5 (Nat.le_of_ble_eq_true rfl) (Nat.le_of_ble_eq_true rfl) (Nat.le_of_ble_eq_true rfl) ?_
  refine ⟨_, _, _, _, rfl, (by first | assumption | exact zget_eq | exact zget_ne (by first | assumption | exact Ne.symm (by assumption) | omega) (by first | assumption | exact zget_eq | exact zget_ne (by first | assumption | exact Ne.symm (by assumption) | omega) (by first | assumption | exact zget_eq | exact zget_ne (by first | assumption | exact Ne.symm (by assumption) | omega) (by first | assumption | exact zget_eq)))), (by first | assumption | omega), ?_⟩
  refine z_ireturn dX5_excludedOf_8 trivial (Nat.le_of_ble_eq_true rfl) (Nat.le_of_ble_eq_true rfl) ?_
  rw [zat_in hi hm]
  exact hK
abbrev rX5_contextOf : Room := ⟨1, 0, 0, 40⟩
def SX5_contextOf (G : zC) : zS := fun as h n K => ∃ (a r m : Nat) (v0 v2 v3 v4 v5 : Value) (f : Nat → Int32) (i : Nat), as = [.ref a, .int (nI i)] ∧ h a = some (zO 6 [v0, .ref r, v2, v3, v4, v5]) ∧ h r = some (zI G m f) ∧ m < 2147483648 ∧ i < m ∧ K (some (.int (f i))) h n
set_option maxRecDepth 100000 in
theorem tvX5_contextOf {G : zC} {as : List Value} {h : zH} {n : Nat} {K : zP} (hs : SX5_contextOf G as h n K) : (∃ b fs r, as = .ref b :: r ∧ h b = some (.inr (6, fs))) ∧ zCt G rX5_contextOf mX5_contextOf as h n K := by
  obtain ⟨a, r, m, v0, v2, v3, v4, v5, f, i, rfl, hk, hr, hm, hi, hK⟩ := hs
  refine ⟨⟨_, _, _, rfl, hk⟩, zCt.of (by decide) (Nat.le_of_ble_eq_true rfl) ?_⟩
  refine z_aload_n dX5_contextOf_0 rfl ?_
  refine z_getfield dX5_contextOf_1 fX5_15_6 rfl (by first | assumption | exact zget_eq | exact zget_ne (by first | assumption | exact Ne.symm (by assumption) | omega) (by first | assumption | exact zget_eq | exact zget_ne (by first | assumption | exact Ne.symm (by assumption) | omega) (by first | assumption | exact zget_eq | exact zget_ne (by first | assumption | exact Ne.symm (by assumption) | omega) (by first | assumption | exact zget_eq)))) rfl ?_
  refine z_iload_n dX5_contextOf_4 rfl ?_
  refine zcall2 (zck_SN (R' := rX10_at) (M' := mX10_at) (fun _ _ _ _ => tX10_at) kX10_at lX5_46 nX5_46 (by decide +kernel) rfl) dX5_contextOf_5 (Nat.le_of_ble_eq_true rfl) (Nat.le_of_ble_eq_true rfl) (Nat.le_of_ble_eq_true rfl) ?_
  refine ⟨_, _, _, _, rfl, (by first | assumption | exact zget_eq | exact zget_ne (by first | assumption | exact Ne.symm (by assumption) | omega) (by first | assumption | exact zget_eq | exact zget_ne (by first | assumption | exact Ne.symm (by assumption) | omega) (by first | assumption | exact zget_eq | exact zget_ne (by first | assumption | exact Ne.symm (by assumption) | omega) (by first | assumption | exact zget_eq)))), (by first | assumption | omega), ?_⟩
  refine z_ireturn dX5_contextOf_8 trivial (Nat.le_of_ble_eq_true rfl) (Nat.le_of_ble_eq_true rfl) ?_
  rw [zat_in hi hm]
  exact hK
abbrev rX8_lowestToLearn : Room := ⟨0, 0, 0, 0⟩
def SX8_lowestToLearn (G : zC) : zS := fun as h n K => ∃ (a : Nat) (v0 v1 v2 v3 v4 : Value) (x : Int32), as = [.ref a] ∧ h a = some (zO 8 [v0, v1, v2, v3, v4, .int x]) ∧ K (some (.int (if x = -1 then 0 else x))) h n
set_option maxRecDepth 100000 in
theorem tvX8_lowestToLearn {G : zC} {as : List Value} {h : zH} {n : Nat} {K : zP} (hs : SX8_lowestToLearn G as h n K) : (∃ b fs r, as = .ref b :: r ∧ h b = some (.inr (8, fs))) ∧ zCt G rX8_lowestToLearn mX8_lowestToLearn as h n K := by
  obtain ⟨a, v0, v1, v2, v3, v4, x, rfl, hk, hK⟩ := hs
  refine ⟨⟨_, _, _, rfl, hk⟩, zCt.of (by decide) (Nat.le_of_ble_eq_true rfl) ?_⟩
  refine z_aload_n dX8_lowestToLearn_0 rfl ?_
  refine z_getfield dX8_lowestToLearn_1 fX8_29_8 rfl (by first | assumption | exact zget_eq | exact zget_ne (by first | assumption | exact Ne.symm (by assumption) | omega) (by first | assumption | exact zget_eq | exact zget_ne (by first | assumption | exact Ne.symm (by assumption) | omega) (by first | assumption | exact zget_eq | exact zget_ne (by first | assumption | exact Ne.symm (by assumption) | omega) (by first | assumption | exact zget_eq)))) rfl ?_
  refine z_iconst (w := -1) dX8_lowestToLearn_4 (by decide) ?_
  refine z_icmp_ne (t := 12) dX8_lowestToLearn_5 (by decide) (fun q5 => ?_) (fun q5 => ?_)
  · rw [if_neg q5] at hK
    refine z_aload_n dX8_lowestToLearn_12 rfl ?_
    refine z_getfield dX8_lowestToLearn_13 fX8_29_8 rfl (by first | assumption | exact zget_eq | exact zget_ne (by first | assumption | exact Ne.symm (by assumption) | omega) (by first | assumption | exact zget_eq | exact zget_ne (by first | assumption | exact Ne.symm (by assumption) | omega) (by first | assumption | exact zget_eq | exact zget_ne (by first | assumption | exact Ne.symm (by assumption) | omega) (by first | assumption | exact zget_eq)))) rfl ?_
    refine z_ireturn dX8_lowestToLearn_16 trivial (Nat.le_of_ble_eq_true rfl) (Nat.le_of_ble_eq_true rfl) ?_
    exact hK
  · rw [if_pos q5] at hK
    refine z_iconst (w := 0) dX8_lowestToLearn_8 (by decide) ?_
    refine z_goto (t := 16) dX8_lowestToLearn_9 (by decide) ?_
    refine z_ireturn dX8_lowestToLearn_16 trivial (Nat.le_of_ble_eq_true rfl) (Nat.le_of_ble_eq_true rfl) ?_
    exact hK
