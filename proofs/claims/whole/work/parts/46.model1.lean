theorem fiX4_addNode_X4 : ∀ w ∈ u_ws RX4 TX4 22, w ∈ wsX4_addNode := by decide +kernel
theorem fiX4_below_X4 : ∀ w ∈ u_ws RX4 TX4 22, w ∈ wsX4_below := by decide +kernel
theorem fiX4_enabledAt_X4 : ∀ w ∈ u_ws RX4 TX4 22, w ∈ wsX4_enabledAt := by decide +kernel
theorem fiX4_sameAs_X4 : ∀ w ∈ u_ws RX4 TX4 22, w ∈ wsX4_sameAs := by decide +kernel
theorem flX4_addNode_66 : Cond.fieldLink RX4 66 RX4 (TX4 1).2.1 (TX4 1).2.2.1 ∈ wsX4_addNode := by decide +kernel
theorem flX4_addNode_22 : Cond.fieldLink RX4 22 RX4 (TX4 7).2.1 (TX4 7).2.2.1 ∈ wsX4_addNode := by decide +kernel
theorem flX4_addNode_26 : Cond.fieldLink RX4 26 RX4 (TX4 8).2.1 (TX4 8).2.2.1 ∈ wsX4_addNode := by decide +kernel
theorem flX4_addNode_29 : Cond.fieldLink RX4 29 RX4 (TX4 9).2.1 (TX4 9).2.2.1 ∈ wsX4_addNode := by decide +kernel
theorem flX4_addNode_32 : Cond.fieldLink RX4 32 RX4 (TX4 10).2.1 (TX4 10).2.2.1 ∈ wsX4_addNode := by decide +kernel
theorem flX4_addNode_35 : Cond.fieldLink RX4 35 RX4 (TX4 11).2.1 (TX4 11).2.2.1 ∈ wsX4_addNode := by decide +kernel
theorem flX4_addNode_38 : Cond.fieldLink RX4 38 RX4 (TX4 12).2.1 (TX4 12).2.2.1 ∈ wsX4_addNode := by decide +kernel
theorem flX4_addNode_60 : Cond.fieldLink RX4 60 RX4 (TX4 21).2.1 (TX4 21).2.2.1 ∈ wsX4_addNode := by decide +kernel
theorem flX4_below_66 : Cond.fieldLink RX4 66 RX4 (TX4 1).2.1 (TX4 1).2.2.1 ∈ wsX4_below := by decide +kernel
theorem flX4_below_26 : Cond.fieldLink RX4 26 RX4 (TX4 8).2.1 (TX4 8).2.2.1 ∈ wsX4_below := by decide +kernel
theorem flX4_below_60 : Cond.fieldLink RX4 60 RX4 (TX4 21).2.1 (TX4 21).2.2.1 ∈ wsX4_below := by decide +kernel
theorem flX4_enabledAt_66 : Cond.fieldLink RX4 66 RX4 (TX4 1).2.1 (TX4 1).2.2.1 ∈ wsX4_enabledAt := by decide +kernel
theorem flX4_enabledAt_16 : Cond.fieldLink RX4 16 RX4 (TX4 5).2.1 (TX4 5).2.2.1 ∈ wsX4_enabledAt := by decide +kernel
theorem flX4_enabledAt_26 : Cond.fieldLink RX4 26 RX4 (TX4 8).2.1 (TX4 8).2.2.1 ∈ wsX4_enabledAt := by decide +kernel
theorem flX4_sameAs_66 : Cond.fieldLink RX4 66 RX4 (TX4 1).2.1 (TX4 1).2.2.1 ∈ wsX4_sameAs := by decide +kernel
theorem flX4_sameAs_26 : Cond.fieldLink RX4 26 RX4 (TX4 8).2.1 (TX4 8).2.2.1 ∈ wsX4_sameAs := by decide +kernel
theorem flX4_sameAs_60 : Cond.fieldLink RX4 60 RX4 (TX4 21).2.1 (TX4 21).2.2.1 ∈ wsX4_sameAs := by decide +kernel
theorem bI_congr {q r : Prop} [Decidable q] [Decidable r] (h : q ↔ r) : bI q = bI r := by
  unfold bI
  by_cases z : q
  · rw [if_pos z, if_pos (h.mp z)]
  · rw [if_neg z, if_neg (fun y => z (h.mpr y))]
abbrev ix (a b : Nat) : Int := 6 * (a : Int) + (b : Int)
set_option maxHeartbeats 4000000 in
set_option maxRecDepth 100000 in
theorem m_enabledAt {l : Launch} (hlf : l.stackTraces = false) (D : va_G) (cy : Nat → ClassId) (B : Nat) {μ : St} {P n t : Nat} (hP : μ 216 1 = P) (h6 : P ≤ 6) (hn : n < 100) (ht : t < 8) : PC l D cy B yX4_enabledAt wsX4_enabledAt (r0 0) [.ref (B + 216), iN n, iN t] μ (ret1 (bI (∀ q : Nat, q < P → μ 219 (ix t q) ≤ μ 221 (ix n q))) μ) noX := by
  refine PC.pre (fun hR => ?_)
  refine q_start (cc := cX4_enabledAt) (maxL := 4) (ret := (some .boolean)) hlf (by decide +kernel) rfl (by simp [Value.category]) (Nat.le_of_ble_eq_true rfl) ?_
  intro p e s m args below meth c C hret hno
  show PW p l e (r0 0) s m args below meth c D cy B 4 0 0 _ 0 [some (.ref (B + 216)), some (iN n), some (iN t), none] [] μ
  have L : ∀ i : Nat, i ≤ P → (∀ q : Nat, q < i → μ 219 (ix t q) ≤ μ 221 (ix n q)) → PW p l e (r0 0) s m args below meth c D cy B 4 0 0 (vx_MQ below (Qp D cy B (ret1 (bI (∀ q : Nat, q < P → μ 219 (ix t q) ≤ μ 221 (ix n q))) μ)) (Xp D cy B noX) args s (r0 0).cells (r0 0).slots (fun q => B ≤ q)) 2 [some (.ref (B + 216)), some (iN n), some (iN t), some (iN i)] [] μ := by
    refine up_to P _ (fun i hi ih hI => ?_)
    refine q_iload_n (pc := 2) C dX4_enabledAt_2 rfl rfl ?_
    refine q_aload_n (pc := 3) C dX4_enabledAt_3 rfl rfl ?_
    refine q_getI (pc := 4) (ci := 4) (k := 1) (ki := 1) C rfl rfl fiX4_enabledAt_X4 (by decide) k216 (by decide) rfl (by decide) flX4_enabledAt_66 rfl rfl dX4_enabledAt_4 ?_
    refine q_icmp_ge (pc := 7) (tgt := 43) C (by first | exact hR _ _ | exact hRo _ _ | assumption | exact ⟨by omega, by omega⟩) (by first | exact hR _ _ | exact hRo _ _ | assumption | exact ⟨by omega, by omega⟩) dX4_enabledAt_7 (by decide) (fun hc => ?_) (fun hc => ?_)
    · refine q_iconst (pc := 43) C dX4_enabledAt_43 ?_
      exact q_zret (pc := 44) C hret (by first | exact Or.inl rfl | exact Or.inr rfl | assumption) ⟨by rw [bI_t (fun q hq => hI q (by omega))], rfl⟩ (by decide) (by decide) dX4_enabledAt_44
    · refine q_aload_n (pc := 10) C dX4_enabledAt_10 rfl rfl ?_
      refine q_getR (pc := 11) (ci := 4) (k := 8) (r := 221) C rfl fiX4_enabledAt_X4 (by decide) k216 (by decide) rfl (by decide) flX4_enabledAt_26 rfl rfl dX4_enabledAt_11 ?_
      refine q_bipush (pc := 14) C (by decide +kernel) dX4_enabledAt_14 ?_
      refine q_iload_n (pc := 16) C dX4_enabledAt_16 rfl rfl ?_
      refine q_imul (pc := 17) C dX4_enabledAt_17 ?_
      refine q_iload_n (pc := 18) C dX4_enabledAt_18 rfl rfl ?_
      refine q_iadd (pc := 19) C dX4_enabledAt_19 ?_
      refine q_iaload (pc := 20) C k221 n221 (by decide) (by decide) (by omega) (by omega) dX4_enabledAt_20 ?_
      refine q_aload_n (pc := 21) C dX4_enabledAt_21 rfl rfl ?_
      refine q_getR (pc := 22) (ci := 4) (k := 5) (r := 219) C rfl fiX4_enabledAt_X4 (by decide) k216 (by decide) rfl (by decide) flX4_enabledAt_16 rfl rfl dX4_enabledAt_22 ?_
      refine q_bipush (pc := 25) C (by decide +kernel) dX4_enabledAt_25 ?_
      refine q_iload_n (pc := 27) C dX4_enabledAt_27 rfl rfl ?_
      refine q_imul (pc := 28) C dX4_enabledAt_28 ?_
      refine q_iload_n (pc := 29) C dX4_enabledAt_29 rfl rfl ?_
      refine q_iadd (pc := 30) C dX4_enabledAt_30 ?_
      refine q_iaload (pc := 31) C k219 n219 (by decide) (by decide) (by omega) (by omega) dX4_enabledAt_31 ?_
      refine q_icmp_ge (pc := 32) (tgt := 37) C (by first | exact hR _ _ | exact hRo _ _ | assumption | exact ⟨by omega, by omega⟩) (by first | exact hR _ _ | exact hRo _ _ | assumption | exact ⟨by omega, by omega⟩) dX4_enabledAt_32 (by decide) (fun hd => ?_) (fun hd => ?_)
      · refine q_iinc (pc := 37) (lv2 := [_, _, _, _]) C dX4_enabledAt_37 (by decide) rfl rfl ?_
        refine q_goto (pc := 40) (tgt := 2) C dX4_enabledAt_40 (by decide) ?_
        refine ih (by omega) (fun q hq => ?_)
        by_cases e : q = i
        · rw [e]; exact hd
        · exact hI q (by omega)
      · refine q_iconst (pc := 35) C dX4_enabledAt_35 ?_
        exact q_zret (pc := 36) C hret (by first | exact Or.inl rfl | exact Or.inr rfl | assumption) ⟨by rw [bI_f (fun z => hd (z i (by omega)))], rfl⟩ (by decide) (by decide) dX4_enabledAt_36
  refine q_iconst (pc := 0) C dX4_enabledAt_0 ?_
  refine q_istore_n (pc := 1) (lv2 := [_, _, _, _]) C dX4_enabledAt_1 rfl (by decide) rfl ?_
  exact L 0 (by omega) (fun q hq => absurd hq (by omega))
set_option maxHeartbeats 4000000 in
set_option maxRecDepth 100000 in
theorem m_sameAs {l : Launch} (hlf : l.stackTraces = false) (D : va_G) (cy : Nat → ClassId) (B : Nat) {μ : St} {P n : Nat} (hP : μ 216 1 = P) (h6 : P ≤ 6) (hn : n < 100) : PC l D cy B yX4_sameAs wsX4_sameAs (r0 0) [.ref (B + 216), iN n] μ (ret1 (bI (∀ q : Nat, q < P → μ 221 (ix n q) = μ 231 q)) μ) noX := by
  refine PC.pre (fun hR => ?_)
  refine q_start (cc := cX4_sameAs) (maxL := 3) (ret := (some .boolean)) hlf (by decide +kernel) rfl (by simp [Value.category]) (Nat.le_of_ble_eq_true rfl) ?_
  intro p e s m args below meth c C hret hno
  show PW p l e (r0 0) s m args below meth c D cy B 3 0 0 _ 0 [some (.ref (B + 216)), some (iN n), none] [] μ
  have L : ∀ i : Nat, i ≤ P → (∀ q : Nat, q < i → μ 221 (ix n q) = μ 231 q) → PW p l e (r0 0) s m args below meth c D cy B 3 0 0 (vx_MQ below (Qp D cy B (ret1 (bI (∀ q : Nat, q < P → μ 221 (ix n q) = μ 231 q)) μ)) (Xp D cy B noX) args s (r0 0).cells (r0 0).slots (fun q => B ≤ q)) 2 [some (.ref (B + 216)), some (iN n), some (iN i)] [] μ := by
    refine up_to P _ (fun i hi ih hI => ?_)
    refine q_iload_n (pc := 2) C dX4_sameAs_2 rfl rfl ?_
    refine q_aload_n (pc := 3) C dX4_sameAs_3 rfl rfl ?_
    refine q_getI (pc := 4) (ci := 4) (k := 1) (ki := 1) C rfl rfl fiX4_sameAs_X4 (by decide) k216 (by decide) rfl (by decide) flX4_sameAs_66 rfl rfl dX4_sameAs_4 ?_
    refine q_icmp_ge (pc := 7) (tgt := 38) C (by first | exact hR _ _ | exact hRo _ _ | assumption | exact ⟨by omega, by omega⟩) (by first | exact hR _ _ | exact hRo _ _ | assumption | exact ⟨by omega, by omega⟩) dX4_sameAs_7 (by decide) (fun hc => ?_) (fun hc => ?_)
    · refine q_iconst (pc := 38) C dX4_sameAs_38 ?_
      exact q_zret (pc := 39) C hret (by first | exact Or.inl rfl | exact Or.inr rfl | assumption) ⟨by rw [bI_t (fun q hq => hI q (by omega))], rfl⟩ (by decide) (by decide) dX4_sameAs_39
    · refine q_aload_n (pc := 10) C dX4_sameAs_10 rfl rfl ?_
      refine q_getR (pc := 11) (ci := 4) (k := 8) (r := 221) C rfl fiX4_sameAs_X4 (by decide) k216 (by decide) rfl (by decide) flX4_sameAs_26 rfl rfl dX4_sameAs_11 ?_
      refine q_bipush (pc := 14) C (by decide +kernel) dX4_sameAs_14 ?_
      refine q_iload_n (pc := 16) C dX4_sameAs_16 rfl rfl ?_
      refine q_imul (pc := 17) C dX4_sameAs_17 ?_
      refine q_iload_n (pc := 18) C dX4_sameAs_18 rfl rfl ?_
      refine q_iadd (pc := 19) C dX4_sameAs_19 ?_
      refine q_iaload (pc := 20) C k221 n221 (by decide) (by decide) (by omega) (by omega) dX4_sameAs_20 ?_
      refine q_aload_n (pc := 21) C dX4_sameAs_21 rfl rfl ?_
      refine q_getR (pc := 22) (ci := 4) (k := 21) (r := 231) C rfl fiX4_sameAs_X4 (by decide) k216 (by decide) rfl (by decide) flX4_sameAs_60 rfl rfl dX4_sameAs_22 ?_
      refine q_iload_n (pc := 25) C dX4_sameAs_25 rfl rfl ?_
      refine q_iaload (pc := 26) C k231 n231 (by decide) (by decide) (by omega) (by omega) dX4_sameAs_26 ?_
      refine q_icmp_eq (pc := 27) (tgt := 32) C (by first | exact hR _ _ | exact hRo _ _ | assumption | exact ⟨by omega, by omega⟩) (by first | exact hR _ _ | exact hRo _ _ | assumption | exact ⟨by omega, by omega⟩) dX4_sameAs_27 (by decide) (fun hd => ?_) (fun hd => ?_)
      · refine q_iinc (pc := 32) (lv2 := [_, _, _]) C dX4_sameAs_32 (by decide) rfl rfl ?_
        refine q_goto (pc := 35) (tgt := 2) C dX4_sameAs_35 (by decide) ?_
        refine ih (by omega) (fun q hq => ?_)
        by_cases e : q = i
        · rw [e]; exact hd
        · exact hI q (by omega)
      · refine q_iconst (pc := 30) C dX4_sameAs_30 ?_
        exact q_zret (pc := 31) C hret (by first | exact Or.inl rfl | exact Or.inr rfl | assumption) ⟨by rw [bI_f (fun z => hd (z i (by omega)))], rfl⟩ (by decide) (by decide) dX4_sameAs_31
  refine q_iconst (pc := 0) C dX4_sameAs_0 ?_
  refine q_istore_n (pc := 1) (lv2 := [_, _, _]) C dX4_sameAs_1 rfl (by decide) rfl ?_
  exact L 0 (by omega) (fun q hq => absurd hq (by omega))
set_option maxHeartbeats 4000000 in
set_option maxRecDepth 100000 in
theorem m_below {l : Launch} (hlf : l.stackTraces = false) (D : va_G) (cy : Nat → ClassId) (B : Nat) {μ : St} {P n : Nat} (hP : μ 216 1 = P) (h6 : P ≤ 6) (hn : n < 100) : PC l D cy B yX4_below wsX4_below (r0 0) [.ref (B + 216), iN n] μ (ret1 (bI ((∀ q : Nat, q < P → μ 221 (ix n q) ≤ μ 231 q) ∧ ∃ q : Nat, q < P ∧ μ 221 (ix n q) < μ 231 q)) μ) noX := by
  refine PC.pre (fun hR => ?_)
  refine q_start (cc := cX4_below) (maxL := 5) (ret := (some .boolean)) hlf (by decide +kernel) rfl (by simp [Value.category]) (Nat.le_of_ble_eq_true rfl) ?_
  intro p e s m args below meth c C hret hno
  show PW p l e (r0 0) s m args below meth c D cy B 5 0 0 _ 0 [some (.ref (B + 216)), some (iN n), none, none, none] [] μ
  have L : ∀ i : Nat, i ≤ P → (∀ q : Nat, q < i → μ 221 (ix n q) ≤ μ 231 q) → PW p l e (r0 0) s m args below meth c D cy B 5 0 0 (vx_MQ below (Qp D cy B (ret1 (bI ((∀ q : Nat, q < P → μ 221 (ix n q) ≤ μ 231 q) ∧ ∃ q : Nat, q < P ∧ μ 221 (ix n q) < μ 231 q)) μ)) (Xp D cy B noX) args s (r0 0).cells (r0 0).slots (fun q => B ≤ q)) 4 [some (.ref (B + 216)), some (iN n), some (iN (bI (∃ q : Nat, q < i ∧ μ 221 (ix n q) < μ 231 q))), some (iN i), none] [] μ := by
    refine up_to P _ (fun i hi ih hI => ?_)
    have hz := bI_01 (∃ q : Nat, q < i ∧ μ 221 (ix n q) < μ 231 q)
    refine q_iload_n (pc := 4) C dX4_below_4 rfl rfl ?_
    refine q_aload_n (pc := 5) C dX4_below_5 rfl rfl ?_
    refine q_getI (pc := 6) (ci := 4) (k := 1) (ki := 1) C rfl rfl fiX4_below_X4 (by decide) k216 (by decide) rfl (by decide) flX4_below_66 rfl rfl dX4_below_6 ?_
    refine q_icmp_ge (pc := 9) (tgt := 65) C (by first | exact hR _ _ | exact hRo _ _ | assumption | exact ⟨by omega, by omega⟩) (by first | exact hR _ _ | exact hRo _ _ | assumption | exact ⟨by omega, by omega⟩) dX4_below_9 (by decide) (fun hc => ?_) (fun hc => ?_)
    · have e : i = P := by omega
      subst e
      refine q_iload_n (pc := 65) C dX4_below_65 rfl rfl ?_
      exact q_zret (pc := 66) C hret (by first | exact Or.inl rfl | exact Or.inr rfl | assumption) ⟨by rw [bI_congr (show ((∀ q : Nat, q < i → μ 221 (ix n q) ≤ μ 231 q) ∧ ∃ q : Nat, q < i ∧ μ 221 (ix n q) < μ 231 q) ↔ (∃ q : Nat, q < i ∧ μ 221 (ix n q) < μ 231 q) from ⟨fun z => z.2, fun z => ⟨hI, z⟩⟩)], rfl⟩ (by decide) (by decide) dX4_below_66
    · refine q_aload_n (pc := 12) C dX4_below_12 rfl rfl ?_
      refine q_getR (pc := 13) (ci := 4) (k := 8) (r := 221) C rfl fiX4_below_X4 (by decide) k216 (by decide) rfl (by decide) flX4_below_26 rfl rfl dX4_below_13 ?_
      refine q_bipush (pc := 16) C (by decide +kernel) dX4_below_16 ?_
      refine q_iload_n (pc := 18) C dX4_below_18 rfl rfl ?_
      refine q_imul (pc := 19) C dX4_below_19 ?_
      refine q_iload_n (pc := 20) C dX4_below_20 rfl rfl ?_
      refine q_iadd (pc := 21) C dX4_below_21 ?_
      refine q_iaload (pc := 22) C k221 n221 (by decide) (by decide) (by omega) (by omega) dX4_below_22 ?_
      refine q_istore (pc := 23) (lv2 := [_, _, _, _, _]) C dX4_below_23 (by decide) rfl ?_
      refine q_iload (pc := 25) C dX4_below_25 rfl ?_
      refine q_aload_n (pc := 27) C dX4_below_27 rfl rfl ?_
      refine q_getR (pc := 28) (ci := 4) (k := 21) (r := 231) C rfl fiX4_below_X4 (by decide) k216 (by decide) rfl (by decide) flX4_below_60 rfl rfl dX4_below_28 ?_
      refine q_iload_n (pc := 31) C dX4_below_31 rfl rfl ?_
      refine q_iaload (pc := 32) C k231 n231 (by decide) (by decide) (by omega) (by omega) dX4_below_32 ?_
      refine q_icmp_le (pc := 33) (tgt := 38) C (by first | exact hR _ _ | exact hRo _ _ | assumption | exact ⟨by omega, by omega⟩) (by first | exact hR _ _ | exact hRo _ _ | assumption | exact ⟨by omega, by omega⟩) dX4_below_33 (by decide) (fun hd => ?_) (fun hd => ?_)
      · have hI2 : ∀ q : Nat, q < i + 1 → μ 221 (ix n q) ≤ μ 231 q := by
          intro q hq
          by_cases e : q = i
          · rw [e]; exact hd
          · exact hI q (by omega)
        have J : ∀ b : Int, b = bI (∃ q : Nat, q < i + 1 ∧ μ 221 (ix n q) < μ 231 q) → PW p l e (r0 0) s m args below meth c D cy B 5 0 0 (vx_MQ below (Qp D cy B (ret1 (bI ((∀ q : Nat, q < P → μ 221 (ix n q) ≤ μ 231 q) ∧ ∃ q : Nat, q < P ∧ μ 221 (ix n q) < μ 231 q)) μ)) (Xp D cy B noX) args s (r0 0).cells (r0 0).slots (fun q => B ≤ q)) 58 [some (.ref (B + 216)), some (iN n), some (iN (bI (∃ q : Nat, q < i ∧ μ 221 (ix n q) < μ 231 q))), some (iN i), some (iN (μ 221 (ix n i)))] [iN b] μ := by
          intro b hb
          refine q_istore_n (pc := 58) (lv2 := [_, _, _, _, _]) C dX4_below_58 rfl (by decide) rfl ?_
          refine q_drop 4 (lv2 := [_, _, _, _, none]) rfl ?_
          refine q_iinc (pc := 59) (lv2 := [_, _, _, _, _]) C dX4_below_59 (by decide) rfl rfl ?_
          refine q_goto (pc := 62) (tgt := 4) C dX4_below_62 (by decide) ?_
          rw [hb]
          exact ih (by omega) hI2
        refine q_iload_n (pc := 38) C dX4_below_38 rfl rfl ?_
        refine q_if_ne (pc := 39) (tgt := 53) C (by first | exact hR _ _ | exact hRo _ _ | assumption | exact ⟨by omega, by omega⟩) dX4_below_39 (by decide) (fun he => ?_) (fun he => ?_)
        · obtain ⟨q, hq, hlt⟩ := bI_1.mp (show bI (∃ q : Nat, q < i ∧ μ 221 (ix n q) < μ 231 q) = 1 by omega)
          refine q_iconst (pc := 53) C dX4_below_53 ?_
          refine q_goto (pc := 54) (tgt := 58) C dX4_below_54 (by decide) ?_
          exact J 1 (by rw [bI_t ⟨q, by omega, hlt⟩])
        · have hno := bI_0.mp (show bI (∃ q : Nat, q < i ∧ μ 221 (ix n q) < μ 231 q) = 0 by omega)
          refine q_iload (pc := 42) C dX4_below_42 rfl ?_
          refine q_aload_n (pc := 44) C dX4_below_44 rfl rfl ?_
          refine q_getR (pc := 45) (ci := 4) (k := 21) (r := 231) C rfl fiX4_below_X4 (by decide) k216 (by decide) rfl (by decide) flX4_below_60 rfl rfl dX4_below_45 ?_
          refine q_iload_n (pc := 48) C dX4_below_48 rfl rfl ?_
          refine q_iaload (pc := 49) C k231 n231 (by decide) (by decide) (by omega) (by omega) dX4_below_49 ?_
          refine q_icmp_ge (pc := 50) (tgt := 57) C (by first | exact hR _ _ | exact hRo _ _ | assumption | exact ⟨by omega, by omega⟩) (by first | exact hR _ _ | exact hRo _ _ | assumption | exact ⟨by omega, by omega⟩) dX4_below_50 (by decide) (fun hf => ?_) (fun hf => ?_)
          · refine q_iconst (pc := 57) C dX4_below_57 ?_
            refine J 0 ?_
            rw [bI_f]
            rintro ⟨q, hq, hlt⟩
            by_cases e : q = i
            · subst e; exact absurd hlt (Int.not_lt.mpr hf)
            · exact hno ⟨q, by omega, hlt⟩
          · refine q_iconst (pc := 53) C dX4_below_53 ?_
            refine q_goto (pc := 54) (tgt := 58) C dX4_below_54 (by decide) ?_
            exact J 1 (by rw [bI_t ⟨i, by omega, Int.not_le.mp hf⟩])
      · refine q_iconst (pc := 36) C dX4_below_36 ?_
        exact q_zret (pc := 37) C hret (by first | exact Or.inl rfl | exact Or.inr rfl | assumption) ⟨by rw [bI_f (fun z => hd (z.1 i (by omega)))], rfl⟩ (by decide) (by decide) dX4_below_37
  have e0 : (0 : Int) = bI (∃ q : Nat, q < 0 ∧ μ 221 (ix n q) < μ 231 q) := by
    rw [bI_f]
    rintro ⟨q, hq, -⟩
    omega
  have L0 := L 0 (by omega) (fun q hq => absurd hq (by omega))
  rw [← e0] at L0
  refine q_iconst (pc := 0) C dX4_below_0 ?_
  refine q_istore_n (pc := 1) (lv2 := [_, _, _, _, _]) C dX4_below_1 rfl (by decide) rfl ?_
  refine q_iconst (pc := 2) C dX4_below_2 ?_
  refine q_istore_n (pc := 3) (lv2 := [_, _, _, _, _]) C dX4_below_3 rfl (by decide) rfl ?_
  exact L0
/- i places of the array b from o on hold F -/
def blkS (μ : St) (b : Nat) (o : Int) (i : Nat) (F : Int → Int) : St := fun x k => if x = b ∧ o ≤ k ∧ k < o + (i : Int) then F (k - o) else μ x k
theorem blkS_ap (μ : St) (b : Nat) (o : Int) (i : Nat) (F : Int → Int) (x : Nat) (k : Int) : blkS μ b o i F x k = if x = b ∧ o ≤ k ∧ k < o + (i : Int) then F (k - o) else μ x k := rfl
theorem blkS_0 (μ : St) (b : Nat) (o : Int) (F : Int → Int) : blkS μ b o 0 F = μ := by
  funext x k
  rw [blkS_ap, if_neg (by omega)]
theorem blkS_ne (μ : St) {b x : Nat} (o : Int) (i : Nat) (F : Int → Int) (k : Int) (h : x ≠ b) : blkS μ b o i F x k = μ x k := by
  rw [blkS_ap, if_neg (fun z => h z.1)]
theorem blkS_step (μ : St) (b : Nat) (o : Int) (i : Nat) (F : Int → Int) {v : Int} (h : v = F i) : updS (blkS μ b o i F) b (o + i) v = blkS μ b o (i + 1) F := by
  subst h
  funext x k
  rw [updS_ap, blkS_ap, blkS_ap]
  by_cases hx : x = b
  · by_cases hk : k = o + (i : Int)
    · rw [if_pos ⟨hx, hk⟩, if_pos ⟨hx, by omega, by omega⟩, hk, show o + (i : Int) - o = i by omega]
    · rw [if_neg (fun z => hk z.2)]
      by_cases hl : o ≤ k ∧ k < o + (i : Int)
      · rw [if_pos ⟨hx, hl⟩, if_pos ⟨hx, by omega, by omega⟩]
      · rw [if_neg (fun z => hl z.2), if_neg (fun z => by omega)]
  · rw [if_neg (fun z => hx z.1), if_neg (fun z => hx z.1), if_neg (fun z => hx z.1)]
abbrev cpM (μ : St) (P n : Nat) : Int := bI (∃ j : Nat, j < n ∧ ∀ q : Nat, q < P → μ 221 (ix j q) = μ 231 q)
def ad1 (μ : St) (P n : Nat) : St := blkS (updS μ 225 n (cpM μ P n)) 221 (6 * (n : Int)) P (fun k => μ 231 k)
def adN (μ : St) (P n : Nat) (u t : Int) : St := updS (updS (updS (updS (ad1 μ P n) 222 n u) 223 n t) 224 n 0) 216 7 ((n : Int) + 1)
set_option maxHeartbeats 4000000 in
set_option maxRecDepth 100000 in
theorem m_addNode {l : Launch} (hlf : l.stackTraces = false) (D : va_G) (cy : Nat → ClassId) (B : Nat) {μ : St} {P n : Nat} {u t : Int} (hP : μ 216 1 = P) (h6 : P ≤ 6) (hn : n < 100) (hs : μ 216 7 = n) (hu : InR u) (ht : InR t) : PC l D cy B yX4_addNode wsX4_addNode (r0 1) [.ref (B + 216), iN u, iN t] μ (ret0 (adN μ P n u t)) noX := by
  refine PC.pre (fun hR => ?_)
  refine q_start (cc := cX4_addNode) (maxL := 5) (ret := none) hlf (by decide +kernel) rfl (by simp [Value.category]) (Nat.le_of_ble_eq_true rfl) ?_
  intro p e s m args below meth c C hret hno
  show PW p l e (r0 1) s m args below meth c D cy B 5 0 0 _ 0 [some (.ref (B + 216)), some (iN u), some (iN t), none, none] [] μ
  have hRo := hR
  have LB : ∀ i : Nat, i ≤ P → PW p l e (r0 1) s m args below meth c D cy B 5 0 0 (vx_MQ below (Qp D cy B (ret0 (adN μ P n u t))) (Xp D cy B noX) args s (r0 1).cells (r0 1).slots (fun q => B ≤ q)) 59 [some (.ref (B + 216)), some (iN u), some (iN t), some (iN n), some (iN i)] [] (blkS (updS μ 225 n (cpM μ P n)) 221 (6 * (n : Int)) i (fun k => μ 231 k)) := by
    refine up_to P _ (fun i hi ih => ?_)
    have e1 : blkS (updS μ 225 n (cpM μ P n)) 221 (6 * (n : Int)) i (fun k => μ 231 k) 216 1 = P := by rw [blkS_ne _ _ _ _ _ (by decide), updS_ne _ _ _ _ (by decide), hP]
    have e7 : blkS (updS μ 225 n (cpM μ P n)) 221 (6 * (n : Int)) i (fun k => μ 231 k) 216 7 = n := by rw [blkS_ne _ _ _ _ _ (by decide), updS_ne _ _ _ _ (by decide), hs]
    refine q_rng (fun hR => ?_)
    refine q_iload (pc := 59) C dX4_addNode_59 rfl ?_
    refine q_aload_n (pc := 61) C dX4_addNode_61 rfl rfl ?_
    refine q_getI (pc := 62) (ci := 4) (k := 1) (ki := 1) C rfl rfl fiX4_addNode_X4 (by decide) k216 (by decide) rfl (by decide) flX4_addNode_66 rfl rfl dX4_addNode_62 ?_
    refine q_icmp_ge (pc := 65) (tgt := 93) C (by first | exact hR _ _ | exact hRo _ _ | assumption | exact ⟨by omega, by omega⟩) (by first | exact hR _ _ | exact hRo _ _ | assumption | exact ⟨by omega, by omega⟩) dX4_addNode_65 (by decide) (fun hc => ?_) (fun hc => ?_)
    · have e : i = P := by omega
      subst e
      refine q_aload_n (pc := 93) C dX4_addNode_93 rfl rfl ?_
      refine q_getR (pc := 94) (ci := 4) (k := 9) (r := 222) C rfl fiX4_addNode_X4 (by decide) k216 (by decide) rfl (by decide) flX4_addNode_29 rfl rfl dX4_addNode_94 ?_
      refine q_iload_n (pc := 97) C dX4_addNode_97 rfl rfl ?_
      refine q_iload_n (pc := 98) C dX4_addNode_98 rfl rfl ?_
      refine q_iastore (pc := 99) C k222 n222 (by decide) (by decide) (by omega) (by omega) (by first | exact hR _ _ | exact hRo _ _ | assumption | exact ⟨by omega, by omega⟩) dX4_addNode_99 ?_
      refine q_aload_n (pc := 100) C dX4_addNode_100 rfl rfl ?_
      refine q_getR (pc := 101) (ci := 4) (k := 10) (r := 223) C rfl fiX4_addNode_X4 (by decide) k216 (by decide) rfl (by decide) flX4_addNode_32 rfl rfl dX4_addNode_101 ?_
      refine q_iload_n (pc := 104) C dX4_addNode_104 rfl rfl ?_
      refine q_iload_n (pc := 105) C dX4_addNode_105 rfl rfl ?_
      refine q_iastore (pc := 106) C k223 n223 (by decide) (by decide) (by omega) (by omega) (by first | exact hR _ _ | exact hRo _ _ | assumption | exact ⟨by omega, by omega⟩) dX4_addNode_106 ?_
      refine q_aload_n (pc := 107) C dX4_addNode_107 rfl rfl ?_
      refine q_getR (pc := 108) (ci := 4) (k := 11) (r := 224) C rfl fiX4_addNode_X4 (by decide) k216 (by decide) rfl (by decide) flX4_addNode_35 rfl rfl dX4_addNode_108 ?_
      refine q_iload_n (pc := 111) C dX4_addNode_111 rfl rfl ?_
      refine q_iconst (pc := 112) C dX4_addNode_112 ?_
      refine q_iastore (pc := 113) C k224 n224 (by decide) (by decide) (by omega) (by omega) (by first | exact hR _ _ | exact hRo _ _ | assumption | exact ⟨by omega, by omega⟩) dX4_addNode_113 ?_
      refine q_aload_n (pc := 114) C dX4_addNode_114 rfl rfl ?_
      refine q_dup (pc := 115) C rfl dX4_addNode_115 ?_
      refine q_getI (pc := 116) (ci := 4) (k := 7) (ki := 7) C rfl rfl fiX4_addNode_X4 (by decide) k216 (by decide) rfl (by decide) flX4_addNode_22 rfl rfl dX4_addNode_116 ?_
      simp only [updS_ap, Nat.reduceEqDiff, Int.reduceEq, Int.toNat_natCast, false_and, true_and, and_false, and_true, and_self, if_false, if_true, ↓reduceIte]
      rw [e7]
      refine q_iconst (pc := 119) C dX4_addNode_119 ?_
      refine q_iadd (pc := 120) C dX4_addNode_120 ?_
      refine q_put (pc := 121) (ci := 4) (k := 7) (ki := 7) (ty0 := tyX4) C rfl rfl fiX4_addNode_X4 (by decide) k216 (by decide) rfl (by decide) flX4_addNode_22 rfl tyX4_ok nmX4 rfl rfl rfl (by first | exact hR _ _ | exact hRo _ _ | assumption | exact ⟨by omega, by omega⟩) dX4_addNode_121 ?_
      exact q_vret (pc := 124) C hret ⟨rfl, rfl⟩ (by decide) (by decide) dX4_addNode_124
    · refine q_aload_n (pc := 68) C dX4_addNode_68 rfl rfl ?_
      refine q_getR (pc := 69) (ci := 4) (k := 8) (r := 221) C rfl fiX4_addNode_X4 (by decide) k216 (by decide) rfl (by decide) flX4_addNode_26 rfl rfl dX4_addNode_69 ?_
      refine q_bipush (pc := 72) C (by decide +kernel) dX4_addNode_72 ?_
      refine q_iload_n (pc := 74) C dX4_addNode_74 rfl rfl ?_
      refine q_imul (pc := 75) C dX4_addNode_75 ?_
      refine q_iload (pc := 76) C dX4_addNode_76 rfl ?_
      refine q_iadd (pc := 78) C dX4_addNode_78 ?_
      refine q_aload_n (pc := 79) C dX4_addNode_79 rfl rfl ?_
      refine q_getR (pc := 80) (ci := 4) (k := 21) (r := 231) C rfl fiX4_addNode_X4 (by decide) k216 (by decide) rfl (by decide) flX4_addNode_60 rfl rfl dX4_addNode_80 ?_
      refine q_iload (pc := 83) C dX4_addNode_83 rfl ?_
      refine q_iaload (pc := 85) C k231 n231 (by decide) (by decide) (by omega) (by omega) dX4_addNode_85 ?_
      rw [blkS_ne _ _ _ _ _ (by decide), updS_ne _ _ _ _ (by decide)]
      refine q_iastore (pc := 86) C k221 n221 (by decide) (by decide) (by omega) (by omega) (by first | exact hR _ _ | exact hRo _ _ | assumption | exact ⟨by omega, by omega⟩) dX4_addNode_86 ?_
      refine q_mu (blkS_step _ 221 (6 * (n : Int)) i (fun k => μ 231 k) rfl) ?_
      refine q_iinc (pc := 87) (lv2 := [_, _, _, _, _]) C dX4_addNode_87 (by decide) rfl rfl ?_
      refine q_goto (pc := 90) (tgt := 59) C dX4_addNode_90 (by decide) ?_
      exact ih (by omega)
  have LA : ∀ i : Nat, i ≤ n → PW p l e (r0 1) s m args below meth c D cy B 5 0 0 (vx_MQ below (Qp D cy B (ret0 (adN μ P n u t))) (Xp D cy B noX) args s (r0 1).cells (r0 1).slots (fun q => B ≤ q)) 15 [some (.ref (B + 216)), some (iN u), some (iN t), some (iN n), some (iN i)] [] (updS μ 225 n (cpM μ P i)) := by
    refine up_to n _ (fun i hi ih => ?_)
    have hb0 : cpM μ P i = 0 ∨ cpM μ P i = 1 := bI_01 _
    refine q_rng (fun hR => ?_)
    refine q_iload (pc := 15) C dX4_addNode_15 rfl ?_
    refine q_iload_n (pc := 17) C dX4_addNode_17 rfl rfl ?_
    refine q_icmp_ge (pc := 18) (tgt := 56) C (by first | exact hR _ _ | exact hRo _ _ | assumption | exact ⟨by omega, by omega⟩) (by first | exact hR _ _ | exact hRo _ _ | assumption | exact ⟨by omega, by omega⟩) dX4_addNode_18 (by decide) (fun hc => ?_) (fun hc => ?_)
    · have e : i = n := by omega
      subst e
      refine q_iconst (pc := 56) C dX4_addNode_56 ?_
      refine q_istore (pc := 57) (lv2 := [_, _, _, _, _]) C dX4_addNode_57 (by decide) rfl ?_
      refine q_mu (blkS_0 _ 221 (6 * (i : Int)) (fun k => μ 231 k)).symm ?_
      exact LB 0 (by omega)
    · have J : ∀ b : Int, b = cpM μ P (i + 1) → PW p l e (r0 1) s m args below meth c D cy B 5 0 0 (vx_MQ below (Qp D cy B (ret0 (adN μ P n u t))) (Xp D cy B noX) args s (r0 1).cells (r0 1).slots (fun q => B ≤ q)) 49 [some (.ref (B + 216)), some (iN u), some (iN t), some (iN n), some (iN i)] [iN b, iN n, .ref (B + 225)] (updS μ 225 n (cpM μ P i)) := by
        intro b hb
        have hb2 := bI_01 (∃ j : Nat, j < i + 1 ∧ ∀ q : Nat, q < P → μ 221 (ix j q) = μ 231 q)
        have hb3 : b = 0 ∨ b = 1 := by rw [hb]; exact hb2
        refine q_bastore (pc := 49) C k225 n225 (by decide) (by decide) (by omega) (by omega) (by first | exact hR _ _ | exact hRo _ _ | assumption | exact ⟨by omega, by omega⟩) (by first | exact Or.inl rfl | exact Or.inr rfl | assumption) dX4_addNode_49 ?_
        refine q_mu (μ2 := updS μ 225 n (cpM μ P (i + 1))) (by rw [hb]; funext x k; rw [updS_ap, updS_ap, updS_ap]; split <;> rfl) ?_
        refine q_iinc (pc := 50) (lv2 := [_, _, _, _, _]) C dX4_addNode_50 (by decide) rfl rfl ?_
        refine q_goto (pc := 53) (tgt := 15) C dX4_addNode_53 (by decide) ?_
        exact ih (by omega)
      have hsm : (∀ q : Nat, q < P → updS μ 225 n (cpM μ P i) 221 (ix i q) = updS μ 225 n (cpM μ P i) 231 q) ↔ ∀ q : Nat, q < P → μ 221 (ix i q) = μ 231 q := by
        constructor
        · intro z q hq
          have := z q hq
          rw [updS_ne _ _ _ _ (by decide), updS_ne _ _ _ _ (by decide)] at this
          exact this
        · intro z q hq
          rw [updS_ne _ _ _ _ (by decide), updS_ne _ _ _ _ (by decide)]
          exact z q hq
      have hb4 := bI_01 (∀ q : Nat, q < P → updS μ 225 n (cpM μ P i) 221 (ix i q) = updS μ 225 n (cpM μ P i) 231 q)
      refine q_aload_n (pc := 21) C dX4_addNode_21 rfl rfl ?_
      refine q_getR (pc := 22) (ci := 4) (k := 12) (r := 225) C rfl fiX4_addNode_X4 (by decide) k216 (by decide) rfl (by decide) flX4_addNode_38 rfl rfl dX4_addNode_22 ?_
      refine q_iload_n (pc := 25) C dX4_addNode_25 rfl rfl ?_
      refine q_aload_n (pc := 26) C dX4_addNode_26 rfl rfl ?_
      refine q_getR (pc := 27) (ci := 4) (k := 12) (r := 225) C rfl fiX4_addNode_X4 (by decide) k216 (by decide) rfl (by decide) flX4_addNode_38 rfl rfl dX4_addNode_27 ?_
      refine q_iload_n (pc := 30) C dX4_addNode_30 rfl rfl ?_
      refine q_baload (pc := 31) C k225 n225 (by decide) (by decide) (by omega) (by omega) dX4_addNode_31 ?_
      rw [updS_self]
      refine q_if_ne (pc := 32) (tgt := 44) C (by first | exact hR _ _ | exact hRo _ _ | assumption | exact ⟨by omega, by omega⟩) dX4_addNode_32 (by decide) (fun hd => ?_) (fun hd => ?_)
      · refine q_iconst (pc := 44) C dX4_addNode_44 ?_
        refine q_goto (pc := 45) (tgt := 49) C dX4_addNode_45 (by decide) ?_
        refine J 1 ?_
        obtain ⟨j, hj, hj2⟩ := bI_1.mp (show cpM μ P i = 1 by omega)
        exact (bI_t ⟨j, by omega, hj2⟩).symm
      · have hno := bI_0.mp (show cpM μ P i = 0 by omega)
        refine q_aload_n (pc := 35) C dX4_addNode_35 rfl rfl ?_
        refine q_iload (pc := 36) C dX4_addNode_36 rfl ?_
        refine q_callV (pc := 38) (As := [_]) (rest := [_, _]) C (m_sameAs hlf D cy B (P := P) (n := i) (by rw [updS_ne _ _ _ _ (by decide), hP]) h6 (by omega)) (cwV 1 C.2.2.2.2.1 gX4_addNode_X4_sameAs rfl rfl rfl (by decide +kernel) ⟨Nat.le_of_ble_eq_true rfl, Nat.le_of_ble_eq_true rfl⟩) (ci := 4) rfl k216 (by decide) (by decide) rfl rfl (by first | decide | simp [Value.category]) dX4_addNode_38 (by decide) (fun _ _ h => h.elim) (fun v μ9 hv => ?_)
        have e8 := hv.1
        have e9 := hv.2.symm
        clear hv
        subst e8
        subst e9
        dsimp only [Option.toList, List.cons_append, List.nil_append]
        refine q_if_eq (pc := 41) (tgt := 48) C (by first | exact hR _ _ | exact hRo _ _ | assumption | exact ⟨by omega, by omega⟩) dX4_addNode_41 (by decide) (fun he => ?_) (fun he => ?_)
        · refine q_iconst (pc := 48) C dX4_addNode_48 ?_
          refine J 0 (bI_f ?_).symm
          rintro ⟨j, hj, hj2⟩
          by_cases e : j = i
          · subst e
            exact bI_0.mp he (hsm.mpr hj2)
          · exact hno ⟨j, by omega, hj2⟩
        · refine q_iconst (pc := 44) C dX4_addNode_44 ?_
          refine q_goto (pc := 45) (tgt := 49) C dX4_addNode_45 (by decide) ?_
          refine J 1 (bI_t ⟨i, by omega, hsm.mp (bI_1.mp (by omega))⟩).symm
  refine q_aload_n (pc := 0) C dX4_addNode_0 rfl rfl ?_
  refine q_getI (pc := 1) (ci := 4) (k := 7) (ki := 7) C rfl rfl fiX4_addNode_X4 (by decide) k216 (by decide) rfl (by decide) flX4_addNode_22 rfl rfl dX4_addNode_1 ?_
  rw [hs]
  refine q_istore_n (pc := 4) (lv2 := [_, _, _, _, _]) C dX4_addNode_4 rfl (by decide) rfl ?_
  refine q_aload_n (pc := 5) C dX4_addNode_5 rfl rfl ?_
  refine q_getR (pc := 6) (ci := 4) (k := 12) (r := 225) C rfl fiX4_addNode_X4 (by decide) k216 (by decide) rfl (by decide) flX4_addNode_38 rfl rfl dX4_addNode_6 ?_
  refine q_iload_n (pc := 9) C dX4_addNode_9 rfl rfl ?_
  refine q_iconst (pc := 10) C dX4_addNode_10 ?_
  refine q_bastore (pc := 11) C k225 n225 (by decide) (by decide) (by omega) (by omega) (by first | exact hR _ _ | exact hRo _ _ | assumption | exact ⟨by omega, by omega⟩) (by first | exact Or.inl rfl | exact Or.inr rfl | assumption) dX4_addNode_11 ?_
  refine q_mu (μ2 := updS μ 225 n (cpM μ P 0)) (by rw [show cpM μ P 0 = 0 from bI_f (by rintro ⟨j, hj, -⟩; omega)]) ?_
  refine q_iconst (pc := 12) C dX4_addNode_12 ?_
  refine q_istore (pc := 13) (lv2 := [_, _, _, _, _]) C dX4_addNode_13 (by decide) rfl ?_
  exact LA 0 (by omega)

