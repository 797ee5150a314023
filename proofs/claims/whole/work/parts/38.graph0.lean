theorem fiX0_addState_X0 : ∀ w ∈ u_ws RX0 TX0 9, w ∈ wsX0_addState := by decide +kernel
theorem fiX0_aheadOfNext_X0 : ∀ w ∈ u_ws RX0 TX0 9, w ∈ wsX0_aheadOfNext := by decide +kernel
theorem fiX0_aheadOfNext_X1 : ∀ w ∈ u_ws RX1 TX1 5, w ∈ wsX0_aheadOfNext := by decide +kernel
theorem fiX0_countStops_X0 : ∀ w ∈ u_ws RX0 TX0 9, w ∈ wsX0_countStops := by decide +kernel
theorem fiX0_enabledIn_X0 : ∀ w ∈ u_ws RX0 TX0 9, w ∈ wsX0_enabledIn := by decide +kernel
theorem fiX0_enabledIn_X1 : ∀ w ∈ u_ws RX1 TX1 5, w ∈ wsX0_enabledIn := by decide +kernel
theorem fiX0_stateOf_X0 : ∀ w ∈ u_ws RX0 TX0 9, w ∈ wsX0_stateOf := by decide +kernel
theorem fiX0_staysPossible_X0 : ∀ w ∈ u_ws RX0 TX0 9, w ∈ wsX0_staysPossible := by decide +kernel
theorem flX0_addState_48 : Cond.fieldLink RX0 48 RX0 (TX0 1).2.1 (TX0 1).2.2.1 ∈ wsX0_addState := by decide +kernel
theorem flX0_addState_11 : Cond.fieldLink RX0 11 RX0 (TX0 2).2.1 (TX0 2).2.2.1 ∈ wsX0_addState := by decide +kernel
theorem flX0_addState_19 : Cond.fieldLink RX0 19 RX0 (TX0 4).2.1 (TX0 4).2.2.1 ∈ wsX0_addState := by decide +kernel
theorem flX0_addState_23 : Cond.fieldLink RX0 23 RX0 (TX0 5).2.1 (TX0 5).2.2.1 ∈ wsX0_addState := by decide +kernel
theorem flX0_addState_26 : Cond.fieldLink RX0 26 RX0 (TX0 6).2.1 (TX0 6).2.2.1 ∈ wsX0_addState := by decide +kernel
theorem flX0_addState_32 : Cond.fieldLink RX0 32 RX0 (TX0 8).2.1 (TX0 8).2.2.1 ∈ wsX0_addState := by decide +kernel
theorem flX0_aheadOfNext_35 : Cond.fieldLink RX0 35 RX0 (TX0 0).2.1 (TX0 0).2.2.1 ∈ wsX0_aheadOfNext := by decide +kernel
theorem flX0_aheadOfNext_16 : Cond.fieldLink RX0 16 RX0 (TX0 3).2.1 (TX0 3).2.2.1 ∈ wsX0_aheadOfNext := by decide +kernel
theorem flX0_aheadOfNext_29 : Cond.fieldLink RX0 29 RX0 (TX0 7).2.1 (TX0 7).2.2.1 ∈ wsX0_aheadOfNext := by decide +kernel
theorem flX0_countStops_48 : Cond.fieldLink RX0 48 RX0 (TX0 1).2.1 (TX0 1).2.2.1 ∈ wsX0_countStops := by decide +kernel
theorem flX0_enabledIn_35 : Cond.fieldLink RX0 35 RX0 (TX0 0).2.1 (TX0 0).2.2.1 ∈ wsX0_enabledIn := by decide +kernel
theorem flX0_enabledIn_16 : Cond.fieldLink RX0 16 RX0 (TX0 3).2.1 (TX0 3).2.2.1 ∈ wsX0_enabledIn := by decide +kernel
theorem flX0_stateOf_48 : Cond.fieldLink RX0 48 RX0 (TX0 1).2.1 (TX0 1).2.2.1 ∈ wsX0_stateOf := by decide +kernel
theorem flX0_stateOf_11 : Cond.fieldLink RX0 11 RX0 (TX0 2).2.1 (TX0 2).2.2.1 ∈ wsX0_stateOf := by decide +kernel
theorem flX0_staysPossible_48 : Cond.fieldLink RX0 48 RX0 (TX0 1).2.1 (TX0 1).2.2.1 ∈ wsX0_staysPossible := by decide +kernel
theorem flX0_staysPossible_29 : Cond.fieldLink RX0 29 RX0 (TX0 7).2.1 (TX0 7).2.2.1 ∈ wsX0_staysPossible := by decide +kernel
def fnd (Pf : Nat → Prop) [DecidablePred Pf] : Nat → Nat → Int
  | 0, _ => -2
  | k + 1, i => if Pf i then i else fnd Pf k (i + 1)
theorem fnd_spec (Pf : Nat → Prop) [DecidablePred Pf] : ∀ (k i : Nat), (fnd Pf k i = -2 ∧ ∀ j, i ≤ j → j < i + k → ¬ Pf j) ∨ ∃ j, i ≤ j ∧ j < i + k ∧ fnd Pf k i = j ∧ Pf j ∧ ∀ z, i ≤ z → z < j → ¬ Pf z
  | 0, i => Or.inl ⟨rfl, fun j h1 h2 => absurd h2 (by omega)⟩
  | k + 1, i => by
    unfold fnd
    split
    · exact Or.inr ⟨i, by omega, by omega, rfl, by assumption, fun z h1 h2 => absurd h2 (by omega)⟩
    · rename_i hn
      rcases fnd_spec Pf k (i + 1) with ⟨h1, h2⟩ | ⟨j, h1, h2, h3, h4, h5⟩
      · refine Or.inl ⟨h1, fun j h3 h4 => ?_⟩
        by_cases h : j = i
        · rw [h]; exact hn
        · exact h2 j (by omega) (by omega)
      · refine Or.inr ⟨j, by omega, by omega, h3, h4, fun z h6 h7 => ?_⟩
        by_cases h : z = i
        · rw [h]; exact hn
        · exact h5 z (by omega) h7
def fndS (μ : St) (g a : Nat) : Int := fnd (fun i => ∀ q : Nat, q < 6 → μ (130 + i) q = μ a q) g 0
set_option maxHeartbeats 4000000 in
set_option maxRecDepth 100000 in
theorem c_stateOf {l : Launch} (hlf : l.stackTraces = false) (D : va_G) (cy : Nat → ClassId) (B : Nat) {μ : St} {g a : Nat} (hg : g ≤ 40) (hs : μ 128 1 = g) (ka : kd a = 5) (na : ln a = 6) (la : a < 233) : PC l D cy B yX0_stateOf wsX0_stateOf (r0 1) [.ref (B + 128), .ref (B + a)] μ (ret1 (fndS μ g a) μ) noX := by
  refine PC.pre (fun hR => ?_)
  refine q_start (cc := cX0_stateOf) (maxL := 3) (ret := (some .int)) hlf (by decide +kernel) rfl (by simp [Value.category]) (Nat.le_of_ble_eq_true rfl) ?_
  intro p e s m args below meth c C hret hno
  show PW p l e (r0 1) s m args below meth c D cy B 3 0 0 _ 0 [some (.ref (B + 128)), some (.ref (B + a)), none] [] μ
  have L : ∀ i : Nat, i ≤ g → fnd (fun i => ∀ q : Nat, q < 6 → μ (130 + i) q = μ a q) (g - i) i = fndS μ g a → PW p l e (r0 1) s m args below meth c D cy B 3 0 0 (vx_MQ below (Qp D cy B (ret1 (fndS μ g a) μ)) (Xp D cy B noX) args s (r0 1).cells (r0 1).slots (fun q => B ≤ q)) 2 [some (.ref (B + 128)), some (.ref (B + a)), some (iN i)] [] μ := by
    refine up_to g _ (fun i hi ih hI => ?_)
    refine q_iload_n (pc := 2) C dX0_stateOf_2 rfl rfl ?_
    refine q_aload_n (pc := 3) C dX0_stateOf_3 rfl rfl ?_
    refine q_getI (pc := 4) (ci := 0) (k := 1) (ki := 1) C rfl rfl fiX0_stateOf_X0 (by decide) k128 (by decide) rfl (by decide) flX0_stateOf_48 rfl rfl dX0_stateOf_4 ?_
    refine q_icmp_ge (pc := 7) (tgt := 31) C (by first | exact hR _ _ | exact hRo _ _ | assumption | exact ⟨by omega, by omega⟩) (by first | exact hR _ _ | exact hRo _ _ | assumption | exact ⟨by omega, by omega⟩) dX0_stateOf_7 (by decide) (fun hc => ?_) (fun hc => ?_)
    · have hgi : g - i = 0 := by omega
      rw [hgi] at hI
      refine q_bipush (pc := 31) C (by decide +kernel) dX0_stateOf_31 ?_
      exact q_iret (pc := 33) C hret ⟨by rw [← hI]; rfl, rfl⟩ (by decide) (by decide) dX0_stateOf_33
    · have hgi : g - i = (g - (i + 1)) + 1 := by omega
      rw [hgi] at hI
      unfold fnd at hI
      refine q_aload_n (pc := 10) C dX0_stateOf_10 rfl rfl ?_
      refine q_getR (pc := 11) (ci := 0) (k := 2) (r := 129) C rfl fiX0_stateOf_X0 (by decide) k128 (by decide) rfl (by decide) flX0_stateOf_11 rfl rfl dX0_stateOf_11 ?_
      refine q_iload_n (pc := 14) C dX0_stateOf_14 rfl rfl ?_
      first | refine q_aaloadN (pc := 15) C k129 n129 (by decide) (by decide) (by omega) rfl dX0_stateOf_15 ?_ | refine q_aaload (pc := 15) C k129 n129 (by decide) (by decide) (by omega) (by omega) rfl dX0_stateOf_15 ?_
      refine q_aload_n (pc := 16) C dX0_stateOf_16 rfl rfl ?_
      refine q_callSN (pc := 17) (As := [_, _]) (rest := []) C (c_same hlf D cy B (a := 130 + i) (b := a) (k_r129 (by omega)) (n_r129 (by omega)) (l_r129 (by omega)) ka na la) ⟨va_cnB (host := "CoverTrees") (index := 85) 2 C.2.2.2.2.1 gX0_stateOf_X3_same_n85 rfl rfl rfl (C.2.2.2.2.2.1.2.2.1 (RX0, 85, yX3_same) (by decide +kernel)) (C.2.2.2.2.1 _ (by decide +kernel)) (by decide +kernel) ⟨Nat.le_of_ble_eq_true rfl, Nat.le_of_ble_eq_true rfl⟩, C.2.2.2.2.1 _ (by decide +kernel), trivial⟩ rfl rfl (by first | decide | simp [Value.category]) dX0_stateOf_17 (by decide) (fun _ _ h => h.elim) (fun v μ9 hv => ?_)
      have e8 := hv.1
      have e9 := hv.2.symm
      clear hv
      subst e8
      subst e9
      dsimp only [Option.toList, List.cons_append, List.nil_append]
      have hz := bI_01 (∀ q : Nat, q < 6 → μ (130 + i) q = μ a q)
      refine q_if_eq (pc := 20) (tgt := 25) C (by first | exact hR _ _ | exact hRo _ _ | assumption | exact ⟨by omega, by omega⟩) dX0_stateOf_20 (by decide) (fun hd => ?_) (fun hd => ?_)
      · rw [if_neg (bI_0.mp hd)] at hI
        refine q_iinc (pc := 25) (lv2 := [_, _, _]) C dX0_stateOf_25 (by decide) rfl rfl ?_
        refine q_goto (pc := 28) (tgt := 2) C dX0_stateOf_28 (by decide) ?_
        exact ih (by omega) hI
      · rw [if_pos (bI_1.mp (by omega))] at hI
        refine q_iload_n (pc := 23) C dX0_stateOf_23 rfl rfl ?_
        exact q_iret (pc := 24) C hret ⟨by rw [← hI], rfl⟩ (by decide) (by decide) dX0_stateOf_24
  refine q_iconst (pc := 0) C dX0_stateOf_0 ?_
  refine q_istore_n (pc := 1) (lv2 := [_, _, _]) C dX0_stateOf_1 rfl (by decide) rfl ?_
  exact L 0 (by omega) rfl
def asS (μ : St) (g : Nat) (f b d : Int) : St := updS (updS (updS (updS (cpS μ (130 + g) 215) 211 g f) 212 g b) 213 g d) 128 1 ((g : Int) + 1)
set_option maxHeartbeats 4000000 in
set_option maxRecDepth 100000 in
theorem c_addState {l : Launch} (hlf : l.stackTraces = false) (D : va_G) (cy : Nat → ClassId) (B : Nat) {μ : St} {g : Nat} {f b d : Int} (hg : g < 40) (hs : μ 128 1 = g) (hf : InR f) (hb : InR b) (hd : InR d) : PC l D cy B yX0_addState wsX0_addState (r0 2) [.ref (B + 128), iN f, iN b, iN d] μ (fun r μ2 => r = some (iN g) ∧ μ2 = asS μ g f b d) noX := by
  refine PC.pre (fun hR => ?_)
  refine q_start (cc := cX0_addState) (maxL := 5) (ret := (some .int)) hlf (by decide +kernel) rfl (by simp [Value.category]) (Nat.le_of_ble_eq_true rfl) ?_
  intro p e s m args below meth c C hret hno
  show PW p l e (r0 2) s m args below meth c D cy B 5 0 0 _ 0 [some (.ref (B + 128)), some (iN f), some (iN b), some (iN d), none] [] μ
  refine q_aload_n (pc := 0) C dX0_addState_0 rfl rfl ?_
  refine q_getI (pc := 1) (ci := 0) (k := 1) (ki := 1) C rfl rfl fiX0_addState_X0 (by decide) k128 (by decide) rfl (by decide) flX0_addState_48 rfl rfl dX0_addState_1 ?_
  rw [hs]
  refine q_istore (pc := 4) (lv2 := [_, _, _, _, _]) C dX0_addState_4 (by decide) rfl ?_
  refine q_aload_n (pc := 6) C dX0_addState_6 rfl rfl ?_
  refine q_getR (pc := 7) (ci := 0) (k := 2) (r := 129) C rfl fiX0_addState_X0 (by decide) k128 (by decide) rfl (by decide) flX0_addState_11 rfl rfl dX0_addState_7 ?_
  refine q_iload (pc := 10) C dX0_addState_10 rfl ?_
  first | refine q_aaloadN (pc := 12) C k129 n129 (by decide) (by decide) (by omega) rfl dX0_addState_12 ?_ | refine q_aaload (pc := 12) C k129 n129 (by decide) (by decide) (by omega) (by omega) rfl dX0_addState_12 ?_
  refine q_aload_n (pc := 13) C dX0_addState_13 rfl rfl ?_
  refine q_getR (pc := 14) (ci := 0) (k := 8) (r := 215) C rfl fiX0_addState_X0 (by decide) k128 (by decide) rfl (by decide) flX0_addState_32 rfl rfl dX0_addState_14 ?_
  refine q_callSN (pc := 17) (As := [_, _]) (rest := []) C (c_copyInto hlf D cy B (a := 130 + g) (b := 215) (k_r129 hg) (n_r129 hg) (l_r129 hg) k215 n215 (by decide)) ⟨va_cnB (host := "CoverTrees") (index := 44) 2 C.2.2.2.2.1 gX0_addState_X3_copyInto_n44 rfl rfl rfl (C.2.2.2.2.2.1.2.2.1 (RX0, 44, yX3_copyInto) (by decide +kernel)) (C.2.2.2.2.1 _ (by decide +kernel)) (by decide +kernel) ⟨Nat.le_of_ble_eq_true rfl, Nat.le_of_ble_eq_true rfl⟩, C.2.2.2.2.1 _ (by decide +kernel), trivial⟩ rfl rfl (by first | decide | simp [Value.category]) dX0_addState_17 (by decide) (fun _ _ h => h.elim) (fun v μ9 hv => ?_)
  have e8 := hv.1
  have e9 := hv.2.symm
  clear hv
  subst e8
  subst e9
  dsimp only [Option.toList, List.cons_append, List.nil_append]
  have e22 : cpS μ (130 + g) 215 128 1 = g := by rw [cpS_ap, if_neg (by omega), hs]
  refine q_aload_n (pc := 20) C dX0_addState_20 rfl rfl ?_
  refine q_getR (pc := 21) (ci := 0) (k := 4) (r := 211) C rfl fiX0_addState_X0 (by decide) k128 (by decide) rfl (by decide) flX0_addState_19 rfl rfl dX0_addState_21 ?_
  refine q_iload (pc := 24) C dX0_addState_24 rfl ?_
  refine q_iload_n (pc := 26) C dX0_addState_26 rfl rfl ?_
  refine q_iastore (pc := 27) C k211 n211 (by decide) (by decide) (by omega) (by omega) (by first | exact hR _ _ | exact hRo _ _ | assumption | exact ⟨by omega, by omega⟩) dX0_addState_27 ?_
  refine q_aload_n (pc := 28) C dX0_addState_28 rfl rfl ?_
  refine q_getR (pc := 29) (ci := 0) (k := 5) (r := 212) C rfl fiX0_addState_X0 (by decide) k128 (by decide) rfl (by decide) flX0_addState_23 rfl rfl dX0_addState_29 ?_
  refine q_iload (pc := 32) C dX0_addState_32 rfl ?_
  refine q_iload_n (pc := 34) C dX0_addState_34 rfl rfl ?_
  refine q_iastore (pc := 35) C k212 n212 (by decide) (by decide) (by omega) (by omega) (by first | exact hR _ _ | exact hRo _ _ | assumption | exact ⟨by omega, by omega⟩) dX0_addState_35 ?_
  refine q_aload_n (pc := 36) C dX0_addState_36 rfl rfl ?_
  refine q_getR (pc := 37) (ci := 0) (k := 6) (r := 213) C rfl fiX0_addState_X0 (by decide) k128 (by decide) rfl (by decide) flX0_addState_26 rfl rfl dX0_addState_37 ?_
  refine q_iload (pc := 40) C dX0_addState_40 rfl ?_
  refine q_iload_n (pc := 42) C dX0_addState_42 rfl rfl ?_
  refine q_iastore (pc := 43) C k213 n213 (by decide) (by decide) (by omega) (by omega) (by first | exact hR _ _ | exact hRo _ _ | assumption | exact ⟨by omega, by omega⟩) dX0_addState_43 ?_
  refine q_aload_n (pc := 44) C dX0_addState_44 rfl rfl ?_
  refine q_dup (pc := 45) C rfl dX0_addState_45 ?_
  refine q_getI (pc := 46) (ci := 0) (k := 1) (ki := 1) C rfl rfl fiX0_addState_X0 (by decide) k128 (by decide) rfl (by decide) flX0_addState_48 rfl rfl dX0_addState_46 ?_
  simp only [updS_ap, Nat.reduceEqDiff, Int.reduceEq, Int.toNat_natCast, false_and, true_and, and_false, and_true, and_self, if_false, if_true, ↓reduceIte]
  rw [e22]
  refine q_iconst (pc := 49) C dX0_addState_49 ?_
  refine q_iadd (pc := 50) C dX0_addState_50 ?_
  refine q_put (pc := 51) (ci := 0) (k := 1) (ki := 1) (ty0 := tyX0) C rfl rfl fiX0_addState_X0 (by decide) k128 (by decide) rfl (by decide) flX0_addState_48 rfl tyX0_ok nmX0 rfl rfl rfl (by first | exact hR _ _ | exact hRo _ _ | assumption | exact ⟨by omega, by omega⟩) dX0_addState_51 ?_
  refine q_iload (pc := 54) C dX0_addState_54 rfl ?_
  exact q_iret (pc := 56) C hret ⟨rfl, rfl⟩ (by decide) (by decide) dX0_addState_56
/- bits -/
theorem b_or (x y : Nat) : Int32.ofInt (x : Int) ||| Int32.ofInt (y : Int) = Int32.ofInt ((x ||| y : Nat) : Int) := by
  rw [Int32.ofInt_eq_ofNat, Int32.ofInt_eq_ofNat, Int32.ofInt_eq_ofNat]
  apply Int32.toBitVec_inj.mp
  rw [Int32.toBitVec_or]
  show BitVec.ofNat 32 x ||| BitVec.ofNat 32 y = BitVec.ofNat 32 (x ||| y)
  apply BitVec.eq_of_toNat_eq
  simp [Nat.or_mod_two_pow]
theorem b_and (x y : Nat) : Int32.ofInt (x : Int) &&& Int32.ofInt (y : Int) = Int32.ofInt ((x &&& y : Nat) : Int) := by
  rw [Int32.ofInt_eq_ofNat, Int32.ofInt_eq_ofNat, Int32.ofInt_eq_ofNat]
  apply Int32.toBitVec_inj.mp
  rw [Int32.toBitVec_and]
  show BitVec.ofNat 32 x &&& BitVec.ofNat 32 y = BitVec.ofNat 32 (x &&& y)
  apply BitVec.eq_of_toNat_eq
  simp [Nat.and_mod_two_pow]
theorem b_shl {t : Nat} (h : t < 8) : Int32.ofInt 1 <<< (Int32.ofInt (t : Int) &&& 31) = Int32.ofInt ((2 ^ t : Nat) : Int) := by
  have : t = 0 ∨ t = 1 ∨ t = 2 ∨ t = 3 ∨ t = 4 ∨ t = 5 ∨ t = 6 ∨ t = 7 := by omega
  rcases this with e | e | e | e | e | e | e | e <;> subst e <;> decide +kernel
theorem b_lt {x y : Nat} (hx : x < 256) (hy : y < 256) : x ||| y < 256 := Nat.or_lt_two_pow (n := 8) hx hy
theorem b_p {t : Nat} (h : t < 8) : 2 ^ t < 256 := Nat.pow_lt_pow_right (a := 2) (by decide) (show t < 8 from h)
theorem b_bit (w t : Nat) : (w &&& 2 ^ t = 0) ↔ ¬ w.testBit t = true := by
  constructor
  · intro h hb
    have h1 : (w &&& 2 ^ t).testBit t = true := by
      rw [Nat.testBit_and, hb, Nat.testBit_two_pow]
      simp
    rw [h] at h1
    simp at h1
  · intro h
    apply Nat.eq_of_testBit_eq
    intro i
    rw [Nat.testBit_and, Nat.testBit_two_pow, Nat.zero_testBit]
    by_cases e1 : t = i
    · subst e1
      simp [h]
    · simp [e1]
def enB (μ : St) (k : Nat) : Nat → Nat
  | 0 => 0
  | t + 1 => if μ (171 + k) t = -2 then enB μ k t else enB μ k t ||| 2 ^ t
theorem enB_lt (μ : St) (k : Nat) : ∀ t : Nat, t ≤ 8 → enB μ k t < 256
  | 0, _ => by show 0 < 256; decide
  | t + 1, h => by
    unfold enB
    split
    · exact enB_lt μ k t (by omega)
    · exact b_lt (enB_lt μ k t (by omega)) (b_p (by omega))
theorem enB_bit (μ : St) (k : Nat) : ∀ (t u : Nat), (enB μ k t).testBit u = true ↔ u < t ∧ ¬ μ (171 + k) u = -2
  | 0, u => by simp [enB]
  | t + 1, u => by
    unfold enB
    split
    · rename_i h
      rw [enB_bit μ k t u]
      constructor
      · exact fun z => ⟨by omega, z.2⟩
      · rintro ⟨h1, h2⟩
        refine ⟨?_, h2⟩
        by_cases e1 : u = t
        · subst e1; exact absurd h h2
        · omega
    · rename_i h
      rw [Nat.testBit_or, Bool.or_eq_true, enB_bit μ k t u, Nat.testBit_two_pow]
      constructor
      · rintro (⟨h1, h2⟩ | h1)
        · exact ⟨by omega, h2⟩
        · have h1 : t = u := by simpa using h1
          subst h1
          exact ⟨by omega, h⟩
      · rintro ⟨h1, h2⟩
        by_cases e1 : t = u
        · exact Or.inr (by simpa using e1)
        · exact Or.inl ⟨by omega, h2⟩
set_option maxHeartbeats 4000000 in
set_option maxRecDepth 100000 in
theorem c_enabledIn {l : Launch} (hlf : l.stackTraces = false) (D : va_G) (cy : Nat → ClassId) (B : Nat) {μ : St} {k T : Nat} (hk : k < 40) (hT : T ≤ 8) (hs : μ 1 1 = T) : PC l D cy B yX0_enabledIn wsX0_enabledIn (r0 0) [.ref (B + 128), iN k] μ (ret1 (enB μ k T) μ) noX := by
  refine PC.pre (fun hR => ?_)
  refine q_start (cc := cX0_enabledIn) (maxL := 4) (ret := (some .int)) hlf (by decide +kernel) rfl (by simp [Value.category]) (Nat.le_of_ble_eq_true rfl) ?_
  intro p e s m args below meth c C hret hno
  show PW p l e (r0 0) s m args below meth c D cy B 4 0 0 _ 0 [some (.ref (B + 128)), some (iN k), none, none] [] μ
  have L : ∀ i : Nat, i ≤ T → PW p l e (r0 0) s m args below meth c D cy B 4 0 0 (vx_MQ below (Qp D cy B (ret1 (enB μ k T) μ)) (Xp D cy B noX) args s (r0 0).cells (r0 0).slots (fun q => B ≤ q)) 4 [some (.ref (B + 128)), some (iN k), some (iN (enB μ k i)), some (iN i)] [] μ := by
    refine up_to T _ (fun i hi ih => ?_)
    refine q_iload_n (pc := 4) C dX0_enabledIn_4 rfl rfl ?_
    refine q_aload_n (pc := 5) C dX0_enabledIn_5 rfl rfl ?_
    refine q_getR (pc := 6) (ci := 0) (k := 0) (r := 1) C rfl fiX0_enabledIn_X0 (by decide) k128 (by decide) rfl (by decide) flX0_enabledIn_35 rfl rfl dX0_enabledIn_6 ?_
    refine q_getIN (pc := 9) (ci := 1) (k := 1) (ki := 1) C rfl rfl fiX0_enabledIn_X1 (by decide) k1 (by decide) rfl (by decide) (by decide +kernel) rfl rfl dX0_enabledIn_9 ?_
    refine q_icmp_ge (pc := 12) (tgt := 40) C (by first | exact hR _ _ | exact hRo _ _ | assumption | exact ⟨by omega, by omega⟩) (by first | exact hR _ _ | exact hRo _ _ | assumption | exact ⟨by omega, by omega⟩) dX0_enabledIn_12 (by decide) (fun hc => ?_) (fun hc => ?_)
    · have e1 : i = T := by omega
      subst e1
      refine q_iload_n (pc := 40) C dX0_enabledIn_40 rfl rfl ?_
      exact q_iret (pc := 41) C hret ⟨rfl, rfl⟩ (by decide) (by decide) dX0_enabledIn_41
    · refine q_aload_n (pc := 15) C dX0_enabledIn_15 rfl rfl ?_
      refine q_getR (pc := 16) (ci := 0) (k := 3) (r := 170) C rfl fiX0_enabledIn_X0 (by decide) k128 (by decide) rfl (by decide) flX0_enabledIn_16 rfl rfl dX0_enabledIn_16 ?_
      refine q_iload_n (pc := 19) C dX0_enabledIn_19 rfl rfl ?_
      first | refine q_aaloadN (pc := 20) C k170 n170 (by decide) (by decide) (by omega) rfl dX0_enabledIn_20 ?_ | refine q_aaload (pc := 20) C k170 n170 (by decide) (by decide) (by omega) (by omega) rfl dX0_enabledIn_20 ?_
      refine q_iload_n (pc := 21) C dX0_enabledIn_21 rfl rfl ?_
      refine q_iaload (pc := 22) C (k_r170 (by omega)) (n_r170 (by omega)) (by decide) (l_r170 (by omega)) (by omega) (by omega) dX0_enabledIn_22 ?_
      refine q_bipush (pc := 23) C (by decide +kernel) dX0_enabledIn_23 ?_
      refine q_icmp_eq (pc := 25) (tgt := 34) C (by first | exact hR _ _ | exact hRo _ _ | assumption | exact ⟨by omega, by omega⟩) (by first | exact hR _ _ | exact hRo _ _ | assumption | exact ⟨by omega, by omega⟩) dX0_enabledIn_25 (by decide) (fun hd => ?_) (fun hd => ?_)
      · refine q_iinc (pc := 34) (lv2 := [_, _, _, _]) C dX0_enabledIn_34 (by decide) rfl rfl ?_
        refine q_goto (pc := 37) (tgt := 4) C dX0_enabledIn_37 (by decide) ?_
        have e1 : enB μ k (i + 1) = enB μ k i := by
          show (if μ (171 + k) i = -2 then enB μ k i else enB μ k i ||| 2 ^ i) = _
          rw [if_pos hd]
        rw [← e1]
        exact ih (by omega)
      · refine q_iload_n (pc := 28) C dX0_enabledIn_28 rfl rfl ?_
        refine q_iconst (pc := 29) C dX0_enabledIn_29 ?_
        refine q_iload_n (pc := 30) C dX0_enabledIn_30 rfl rfl ?_
        refine q_ishl (pc := 31) C (b_shl (t := i) (by omega)) dX0_enabledIn_31 ?_
        refine q_ior (pc := 32) C (b_or (enB μ k i) (2 ^ i)) dX0_enabledIn_32 ?_
        refine q_istore_n (pc := 33) (lv2 := [_, _, _, _]) C dX0_enabledIn_33 rfl (by decide) rfl ?_
        refine q_iinc (pc := 34) (lv2 := [_, _, _, _]) C dX0_enabledIn_34 (by decide) rfl rfl ?_
        refine q_goto (pc := 37) (tgt := 4) C dX0_enabledIn_37 (by decide) ?_
        have e1 : enB μ k (i + 1) = enB μ k i ||| 2 ^ i := by
          show (if μ (171 + k) i = -2 then enB μ k i else enB μ k i ||| 2 ^ i) = _
          rw [if_neg hd]
        rw [← e1]
        exact ih (by omega)
  refine q_iconst (pc := 0) C dX0_enabledIn_0 ?_
  refine q_istore_n (pc := 1) (lv2 := [_, _, _, _]) C dX0_enabledIn_1 rfl (by decide) rfl ?_
  refine q_iconst (pc := 2) C dX0_enabledIn_2 ?_
  refine q_istore_n (pc := 3) (lv2 := [_, _, _, _]) C dX0_enabledIn_3 rfl (by decide) rfl ?_
  exact L 0 (by omega)
def anB (μ : St) (k : Nat) : Nat → Nat
  | 0 => 0
  | t + 1 => if μ (171 + k) t = -2 then anB μ k t else anB μ k t ||| (μ 214 (μ (171 + k) t)).toNat
/- the links of the states below k stay among g states -/
def nxP (μ : St) (g k T : Nat) : Prop := ∀ t : Nat, t < T → μ (171 + k) t = -2 ∨ ∃ j : Nat, j < g ∧ μ (171 + k) t = j
def ahP (μ : St) (g : Nat) : Prop := ∀ i : Nat, i < g → ∃ w : Nat, w < 256 ∧ μ 214 i = w
theorem anB_lt {μ : St} {g k T : Nat} (h1 : nxP μ g k T) (h2 : ahP μ g) : ∀ t : Nat, t ≤ T → anB μ k t < 256
  | 0, _ => by show 0 < 256; decide
  | t + 1, h => by
    unfold anB
    split
    · exact anB_lt h1 h2 t (by omega)
    · rename_i hn
      rcases h1 t (by omega) with z | ⟨j, hj, z⟩
      · exact absurd z hn
      · obtain ⟨w, hw, e1⟩ := h2 j hj
        rw [z, e1]
        exact b_lt (anB_lt h1 h2 t (by omega)) (by simpa using hw)
theorem anB_bit {μ : St} {k : Nat} : ∀ (t u : Nat), (anB μ k t).testBit u = true ↔ ∃ v : Nat, v < t ∧ ¬ μ (171 + k) v = -2 ∧ (μ 214 (μ (171 + k) v)).toNat.testBit u = true
  | 0, u => by simp [anB]
  | t + 1, u => by
    unfold anB
    split
    · rename_i h
      rw [anB_bit t u]
      constructor
      · rintro ⟨v, h1, h2⟩
        exact ⟨v, by omega, h2⟩
      · rintro ⟨v, h1, h2, h3⟩
        by_cases e1 : v = t
        · subst e1; exact absurd h h2
        · exact ⟨v, by omega, h2, h3⟩
    · rename_i h
      rw [Nat.testBit_or, Bool.or_eq_true, anB_bit t u]
      constructor
      · rintro (⟨v, h1, h2⟩ | h1)
        · exact ⟨v, by omega, h2⟩
        · exact ⟨t, by omega, h, h1⟩
      · rintro ⟨v, h1, h2, h3⟩
        by_cases e1 : v = t
        · subst e1; exact Or.inr h3
        · exact Or.inl ⟨v, by omega, h2, h3⟩
set_option maxHeartbeats 4000000 in
set_option maxRecDepth 100000 in
theorem c_aheadOfNext {l : Launch} (hlf : l.stackTraces = false) (D : va_G) (cy : Nat → ClassId) (B : Nat) {μ : St} {g k T : Nat} (hk : k < 40) (hg : g ≤ 40) (hT : T ≤ 8) (hs : μ 1 1 = T) (hnx : nxP μ g k T) (hah : ahP μ g) : PC l D cy B yX0_aheadOfNext wsX0_aheadOfNext (r0 0) [.ref (B + 128), iN k] μ (ret1 (anB μ k T) μ) noX := by
  refine PC.pre (fun hR => ?_)
  refine q_start (cc := cX0_aheadOfNext) (maxL := 5) (ret := (some .int)) hlf (by decide +kernel) rfl (by simp [Value.category]) (Nat.le_of_ble_eq_true rfl) ?_
  intro p e s m args below meth c C hret hno
  show PW p l e (r0 0) s m args below meth c D cy B 5 0 0 _ 0 [some (.ref (B + 128)), some (iN k), none, none, none] [] μ
  have L : ∀ i : Nat, i ≤ T → PW p l e (r0 0) s m args below meth c D cy B 5 0 0 (vx_MQ below (Qp D cy B (ret1 (anB μ k T) μ)) (Xp D cy B noX) args s (r0 0).cells (r0 0).slots (fun q => B ≤ q)) 4 [some (.ref (B + 128)), some (iN k), some (iN (anB μ k i)), some (iN i), none] [] μ := by
    refine up_to T _ (fun i hi ih => ?_)
    refine q_iload_n (pc := 4) C dX0_aheadOfNext_4 rfl rfl ?_
    refine q_aload_n (pc := 5) C dX0_aheadOfNext_5 rfl rfl ?_
    refine q_getR (pc := 6) (ci := 0) (k := 0) (r := 1) C rfl fiX0_aheadOfNext_X0 (by decide) k128 (by decide) rfl (by decide) flX0_aheadOfNext_35 rfl rfl dX0_aheadOfNext_6 ?_
    refine q_getIN (pc := 9) (ci := 1) (k := 1) (ki := 1) C rfl rfl fiX0_aheadOfNext_X1 (by decide) k1 (by decide) rfl (by decide) (by decide +kernel) rfl rfl dX0_aheadOfNext_9 ?_
    refine q_icmp_ge (pc := 12) (tgt := 48) C (by first | exact hR _ _ | exact hRo _ _ | assumption | exact ⟨by omega, by omega⟩) (by first | exact hR _ _ | exact hRo _ _ | assumption | exact ⟨by omega, by omega⟩) dX0_aheadOfNext_12 (by decide) (fun hc => ?_) (fun hc => ?_)
    · have e1 : i = T := by omega
      subst e1
      refine q_iload_n (pc := 48) C dX0_aheadOfNext_48 rfl rfl ?_
      exact q_iret (pc := 49) C hret ⟨rfl, rfl⟩ (by decide) (by decide) dX0_aheadOfNext_49
    · refine q_aload_n (pc := 15) C dX0_aheadOfNext_15 rfl rfl ?_
      refine q_getR (pc := 16) (ci := 0) (k := 3) (r := 170) C rfl fiX0_aheadOfNext_X0 (by decide) k128 (by decide) rfl (by decide) flX0_aheadOfNext_16 rfl rfl dX0_aheadOfNext_16 ?_
      refine q_iload_n (pc := 19) C dX0_aheadOfNext_19 rfl rfl ?_
      first | refine q_aaloadN (pc := 20) C k170 n170 (by decide) (by decide) (by omega) rfl dX0_aheadOfNext_20 ?_ | refine q_aaload (pc := 20) C k170 n170 (by decide) (by decide) (by omega) (by omega) rfl dX0_aheadOfNext_20 ?_
      refine q_iload_n (pc := 21) C dX0_aheadOfNext_21 rfl rfl ?_
      refine q_iaload (pc := 22) C (k_r170 (by omega)) (n_r170 (by omega)) (by decide) (l_r170 (by omega)) (by omega) (by omega) dX0_aheadOfNext_22 ?_
      refine q_istore (pc := 23) (lv2 := [_, _, _, _, _]) C dX0_aheadOfNext_23 (by decide) rfl ?_
      refine q_iload (pc := 25) C dX0_aheadOfNext_25 rfl ?_
      refine q_bipush (pc := 27) C (by decide +kernel) dX0_aheadOfNext_27 ?_
      refine q_icmp_eq (pc := 29) (tgt := 42) C (by first | exact hR _ _ | exact hRo _ _ | assumption | exact ⟨by omega, by omega⟩) (by first | exact hR _ _ | exact hRo _ _ | assumption | exact ⟨by omega, by omega⟩) dX0_aheadOfNext_29 (by decide) (fun hd => ?_) (fun hd => ?_)
      · refine q_drop 4 (lv2 := [_, _, _, _, none]) rfl ?_
        refine q_iinc (pc := 42) (lv2 := [_, _, _, _, _]) C dX0_aheadOfNext_42 (by decide) rfl rfl ?_
        refine q_goto (pc := 45) (tgt := 4) C dX0_aheadOfNext_45 (by decide) ?_
        have e1 : anB μ k (i + 1) = anB μ k i := by
          show (if μ (171 + k) i = -2 then anB μ k i else anB μ k i ||| (μ 214 (μ (171 + k) i)).toNat) = _
          rw [if_pos hd]
        rw [← e1]
        exact ih (by omega)
      · have e1 : anB μ k (i + 1) = anB μ k i ||| (μ 214 (μ (171 + k) i)).toNat := by
          show (if μ (171 + k) i = -2 then anB μ k i else anB μ k i ||| (μ 214 (μ (171 + k) i)).toNat) = _
          rw [if_neg hd]
        rcases hnx i (by omega) with z | ⟨j, hj, z⟩
        · exact absurd z hd
        · obtain ⟨w, hw, z2⟩ := hah j hj
          rw [z, z2] at e1
          rw [show Int.toNat (w : Int) = w from rfl] at e1
          rw [z]
          refine q_iload_n (pc := 32) C dX0_aheadOfNext_32 rfl rfl ?_
          refine q_aload_n (pc := 33) C dX0_aheadOfNext_33 rfl rfl ?_
          refine q_getR (pc := 34) (ci := 0) (k := 7) (r := 214) C rfl fiX0_aheadOfNext_X0 (by decide) k128 (by decide) rfl (by decide) flX0_aheadOfNext_29 rfl rfl dX0_aheadOfNext_34 ?_
          refine q_iload (pc := 37) C dX0_aheadOfNext_37 rfl ?_
          refine q_iaload (pc := 39) C k214 n214 (by decide) (by decide) (by omega) (by omega) dX0_aheadOfNext_39 ?_
          rw [z2]
          refine q_ior (pc := 40) C (b_or (anB μ k i) w) dX0_aheadOfNext_40 ?_
          refine q_istore_n (pc := 41) (lv2 := [_, _, _, _, _]) C dX0_aheadOfNext_41 rfl (by decide) rfl ?_
          refine q_drop 4 (lv2 := [_, _, _, _, none]) rfl ?_
          refine q_iinc (pc := 42) (lv2 := [_, _, _, _, _]) C dX0_aheadOfNext_42 (by decide) rfl rfl ?_
          refine q_goto (pc := 45) (tgt := 4) C dX0_aheadOfNext_45 (by decide) ?_
          rw [← e1]
          exact ih (by omega)
  refine q_iconst (pc := 0) C dX0_aheadOfNext_0 ?_
  refine q_istore_n (pc := 1) (lv2 := [_, _, _, _, _]) C dX0_aheadOfNext_1 rfl (by decide) rfl ?_
  refine q_iconst (pc := 2) C dX0_aheadOfNext_2 ?_
  refine q_istore_n (pc := 3) (lv2 := [_, _, _, _, _]) C dX0_aheadOfNext_3 rfl (by decide) rfl ?_
  exact L 0 (by omega)
def cntS (μ : St) (T : Nat) : Nat → Nat
  | 0 => 0
  | i + 1 => if enB μ i T = 0 then cntS μ T i + 1 else cntS μ T i
theorem cntS_le (μ : St) (T : Nat) : ∀ i, cntS μ T i ≤ i
  | 0 => Nat.le_refl _
  | i + 1 => by
    unfold cntS
    have := cntS_le μ T i
    split <;> omega
set_option maxHeartbeats 4000000 in
set_option maxRecDepth 100000 in
theorem c_countStops {l : Launch} (hlf : l.stackTraces = false) (D : va_G) (cy : Nat → ClassId) (B : Nat) {μ : St} {g T : Nat} (hg : g ≤ 40) (hsg : μ 128 1 = g) (hT : T ≤ 8) (hs : μ 1 1 = T) : PC l D cy B yX0_countStops wsX0_countStops (r0 1) [.ref (B + 128)] μ (ret1 (cntS μ T g) μ) noX := by
  refine PC.pre (fun hR => ?_)
  refine q_start (cc := cX0_countStops) (maxL := 3) (ret := (some .int)) hlf (by decide +kernel) rfl (by simp [Value.category]) (Nat.le_of_ble_eq_true rfl) ?_
  intro p e s m args below meth c C hret hno
  show PW p l e (r0 1) s m args below meth c D cy B 3 0 0 _ 0 [some (.ref (B + 128)), none, none] [] μ
  have L : ∀ i : Nat, i ≤ g → PW p l e (r0 1) s m args below meth c D cy B 3 0 0 (vx_MQ below (Qp D cy B (ret1 (cntS μ T g) μ)) (Xp D cy B noX) args s (r0 1).cells (r0 1).slots (fun q => B ≤ q)) 4 [some (.ref (B + 128)), some (iN (cntS μ T i)), some (iN i)] [] μ := by
    refine up_to g _ (fun i hi ih => ?_)
    have hc9 := cntS_le μ T i
    have hlt := enB_lt μ i T hT
    refine q_iload_n (pc := 4) C dX0_countStops_4 rfl rfl ?_
    refine q_aload_n (pc := 5) C dX0_countStops_5 rfl rfl ?_
    refine q_getI (pc := 6) (ci := 0) (k := 1) (ki := 1) C rfl rfl fiX0_countStops_X0 (by decide) k128 (by decide) rfl (by decide) flX0_countStops_48 rfl rfl dX0_countStops_6 ?_
    refine q_icmp_ge (pc := 9) (tgt := 29) C (by first | exact hR _ _ | exact hRo _ _ | assumption | exact ⟨by omega, by omega⟩) (by first | exact hR _ _ | exact hRo _ _ | assumption | exact ⟨by omega, by omega⟩) dX0_countStops_9 (by decide) (fun hc => ?_) (fun hc => ?_)
    · have e1 : i = g := by omega
      subst e1
      refine q_iload_n (pc := 29) C dX0_countStops_29 rfl rfl ?_
      exact q_iret (pc := 30) C hret ⟨rfl, rfl⟩ (by decide) (by decide) dX0_countStops_30
    · refine q_aload_n (pc := 12) C dX0_countStops_12 rfl rfl ?_
      refine q_iload_n (pc := 13) C dX0_countStops_13 rfl rfl ?_
      refine q_callV (pc := 14) (As := [_]) (rest := []) C (c_enabledIn hlf D cy B (k := i) (T := T) (by omega) hT hs) (cwV 1 C.2.2.2.2.1 gX0_countStops_X0_enabledIn rfl rfl rfl (by decide +kernel) ⟨Nat.le_of_ble_eq_true rfl, Nat.le_of_ble_eq_true rfl⟩) (ci := 0) rfl k128 (by decide) (by decide) rfl rfl (by first | decide | simp [Value.category]) dX0_countStops_14 (by decide) (fun _ _ h => h.elim) (fun v μ9 hv => ?_)
      have e8 := hv.1
      have e9 := hv.2.symm
      clear hv
      subst e8
      subst e9
      dsimp only [Option.toList, List.cons_append, List.nil_append]
      refine q_if_ne (pc := 17) (tgt := 23) C (by first | exact hR _ _ | exact hRo _ _ | assumption | exact ⟨by omega, by omega⟩) dX0_countStops_17 (by decide) (fun hd => ?_) (fun hd => ?_)
      · refine q_iinc (pc := 23) (lv2 := [_, _, _]) C dX0_countStops_23 (by decide) rfl rfl ?_
        refine q_goto (pc := 26) (tgt := 4) C dX0_countStops_26 (by decide) ?_
        have e1 : cntS μ T (i + 1) = cntS μ T i := by
          show (if enB μ i T = 0 then cntS μ T i + 1 else cntS μ T i) = _
          rw [if_neg (by omega)]
        rw [← e1]
        exact ih (by omega)
      · have e1 : cntS μ T (i + 1) = cntS μ T i + 1 := by
          show (if enB μ i T = 0 then cntS μ T i + 1 else cntS μ T i) = _
          rw [if_pos (by omega)]
        refine q_iinc (pc := 20) (lv2 := [_, _, _]) C dX0_countStops_20 (by decide) rfl rfl ?_
        rw [show (cntS μ T i : Int) + 1 = ((cntS μ T i + 1 : Nat) : Int) by omega, ← e1]
        refine q_iinc (pc := 23) (lv2 := [_, _, _]) C dX0_countStops_23 (by decide) rfl rfl ?_
        refine q_goto (pc := 26) (tgt := 4) C dX0_countStops_26 (by decide) ?_
        exact ih (by omega)
  refine q_iconst (pc := 0) C dX0_countStops_0 ?_
  refine q_istore_n (pc := 1) (lv2 := [_, _, _]) C dX0_countStops_1 rfl (by decide) rfl ?_
  refine q_iconst (pc := 2) C dX0_countStops_2 ?_
  refine q_istore_n (pc := 3) (lv2 := [_, _, _]) C dX0_countStops_3 rfl (by decide) rfl ?_
  exact L 0 (by omega)
set_option maxHeartbeats 4000000 in
set_option maxRecDepth 100000 in
theorem c_staysPossible {l : Launch} (hlf : l.stackTraces = false) (D : va_G) (cy : Nat → ClassId) (B : Nat) {μ : St} {g t : Nat} (hg : g ≤ 40) (hsg : μ 128 1 = g) (ht : t < 8) (hah : ahP μ g) : PC l D cy B yX0_staysPossible wsX0_staysPossible (r0 0) [.ref (B + 128), iN t] μ (ret1 (bI (∀ i : Nat, i < g → (μ 214 i).toNat.testBit t = true)) μ) noX := by
  refine PC.pre (fun hR => ?_)
  refine q_start (cc := cX0_staysPossible) (maxL := 3) (ret := (some .boolean)) hlf (by decide +kernel) rfl (by simp [Value.category]) (Nat.le_of_ble_eq_true rfl) ?_
  intro p e s m args below meth c C hret hno
  show PW p l e (r0 0) s m args below meth c D cy B 3 0 0 _ 0 [some (.ref (B + 128)), some (iN t), none] [] μ
  have L : ∀ i : Nat, i ≤ g → (∀ j : Nat, j < i → (μ 214 j).toNat.testBit t = true) → PW p l e (r0 0) s m args below meth c D cy B 3 0 0 (vx_MQ below (Qp D cy B (ret1 (bI (∀ i : Nat, i < g → (μ 214 i).toNat.testBit t = true)) μ)) (Xp D cy B noX) args s (r0 0).cells (r0 0).slots (fun q => B ≤ q)) 2 [some (.ref (B + 128)), some (iN t), some (iN i)] [] μ := by
    refine up_to g _ (fun i hi ih hI => ?_)
    refine q_iload_n (pc := 2) C dX0_staysPossible_2 rfl rfl ?_
    refine q_aload_n (pc := 3) C dX0_staysPossible_3 rfl rfl ?_
    refine q_getI (pc := 4) (ci := 0) (k := 1) (ki := 1) C rfl rfl fiX0_staysPossible_X0 (by decide) k128 (by decide) rfl (by decide) flX0_staysPossible_48 rfl rfl dX0_staysPossible_4 ?_
    refine q_icmp_ge (pc := 7) (tgt := 31) C (by first | exact hR _ _ | exact hRo _ _ | assumption | exact ⟨by omega, by omega⟩) (by first | exact hR _ _ | exact hRo _ _ | assumption | exact ⟨by omega, by omega⟩) dX0_staysPossible_7 (by decide) (fun hc => ?_) (fun hc => ?_)
    · refine q_iconst (pc := 31) C dX0_staysPossible_31 ?_
      exact q_zret (pc := 32) C hret (by first | exact Or.inl rfl | exact Or.inr rfl | assumption) ⟨by rw [bI_t (fun q hq => hI q (by omega))], rfl⟩ (by decide) (by decide) dX0_staysPossible_32
    · obtain ⟨w, hw, z2⟩ := hah i (by omega)
      refine q_aload_n (pc := 10) C dX0_staysPossible_10 rfl rfl ?_
      refine q_getR (pc := 11) (ci := 0) (k := 7) (r := 214) C rfl fiX0_staysPossible_X0 (by decide) k128 (by decide) rfl (by decide) flX0_staysPossible_29 rfl rfl dX0_staysPossible_11 ?_
      refine q_iload_n (pc := 14) C dX0_staysPossible_14 rfl rfl ?_
      refine q_iaload (pc := 15) C k214 n214 (by decide) (by decide) (by omega) (by omega) dX0_staysPossible_15 ?_
      refine q_iconst (pc := 16) C dX0_staysPossible_16 ?_
      refine q_iload_n (pc := 17) C dX0_staysPossible_17 rfl rfl ?_
      refine q_ishl (pc := 18) C (b_shl (t := t) ht) dX0_staysPossible_18 ?_
      rw [z2]
      refine q_iand (pc := 19) C (b_and w (2 ^ t)) dX0_staysPossible_19 ?_
      have hle : w &&& 2 ^ t ≤ w := Nat.and_le_left
      have hbit : (w &&& 2 ^ t = 0) ↔ ¬ w.testBit t = true := by
        exact b_bit w t
      have hw2 : (μ 214 i).toNat = w := by rw [z2]; rfl
      refine q_if_ne (pc := 20) (tgt := 25) C (by first | exact hR _ _ | exact hRo _ _ | assumption | exact ⟨by omega, by omega⟩) dX0_staysPossible_20 (by decide) (fun hd => ?_) (fun hd => ?_)
      · refine q_iinc (pc := 25) (lv2 := [_, _, _]) C dX0_staysPossible_25 (by decide) rfl rfl ?_
        refine q_goto (pc := 28) (tgt := 2) C dX0_staysPossible_28 (by decide) ?_
        refine ih (by omega) (fun q hq => ?_)
        by_cases e1 : q = i
        · rw [e1, hw2]
          cases hb : w.testBit t
          · exact absurd (hbit.mpr (by rw [hb]; decide)) (by omega)
          · rfl
        · exact hI q (by omega)
      · refine q_iconst (pc := 23) C dX0_staysPossible_23 ?_
        exact q_zret (pc := 24) C hret (by first | exact Or.inl rfl | exact Or.inr rfl | assumption) ⟨by rw [bI_f (fun z => by have := z i (by omega); rw [hw2] at this; exact (hbit.mp (by omega)) this)], rfl⟩ (by decide) (by decide) dX0_staysPossible_24
  refine q_iconst (pc := 0) C dX0_staysPossible_0 ?_
  refine q_istore_n (pc := 1) (lv2 := [_, _, _]) C dX0_staysPossible_1 rfl (by decide) rfl ?_
  exact L 0 (by omega) (fun q hq => absurd hq (by omega))

