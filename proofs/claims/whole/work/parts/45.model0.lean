theorem fiX4_arc_X4 : ∀ w ∈ u_ws RX4 TX4 22, w ∈ wsX4_arc := by decide +kernel
theorem fiX4_discard_X4 : ∀ w ∈ u_ws RX4 TX4 22, w ∈ wsX4_discard := by decide +kernel
theorem fiX4_noPlace_X4 : ∀ w ∈ u_ws RX4 TX4 22, w ∈ wsX4_noPlace := by decide +kernel
theorem fiX4_noTransition_X4 : ∀ w ∈ u_ws RX4 TX4 22, w ∈ wsX4_noTransition := by decide +kernel
theorem fiX4_place_X4 : ∀ w ∈ u_ws RX4 TX4 22, w ∈ wsX4_place := by decide +kernel
theorem fiX4_thrown_X4 : ∀ w ∈ u_ws RX4 TX4 22, w ∈ wsX4_thrown := by decide +kernel
theorem fiX4_tokens_X4 : ∀ w ∈ u_ws RX4 TX4 22, w ∈ wsX4_tokens := by decide +kernel
theorem fiX4_transition_X4 : ∀ w ∈ u_ws RX4 TX4 22, w ∈ wsX4_transition := by decide +kernel
theorem fiX4_want_X4 : ∀ w ∈ u_ws RX4 TX4 22, w ∈ wsX4_want := by decide +kernel
theorem flX4_arc_63 : Cond.fieldLink RX4 63 RX4 (TX4 0).2.1 (TX4 0).2.2.1 ∈ wsX4_arc := by decide +kernel
theorem flX4_arc_16 : Cond.fieldLink RX4 16 RX4 (TX4 5).2.1 (TX4 5).2.2.1 ∈ wsX4_arc := by decide +kernel
theorem flX4_arc_19 : Cond.fieldLink RX4 19 RX4 (TX4 6).2.1 (TX4 6).2.2.1 ∈ wsX4_arc := by decide +kernel
theorem flX4_discard_22 : Cond.fieldLink RX4 22 RX4 (TX4 7).2.1 (TX4 7).2.2.1 ∈ wsX4_discard := by decide +kernel
theorem flX4_discard_42 : Cond.fieldLink RX4 42 RX4 (TX4 15).2.1 (TX4 15).2.2.1 ∈ wsX4_discard := by decide +kernel
theorem flX4_noPlace_66 : Cond.fieldLink RX4 66 RX4 (TX4 1).2.1 (TX4 1).2.2.1 ∈ wsX4_noPlace := by decide +kernel
theorem flX4_noTransition_69 : Cond.fieldLink RX4 69 RX4 (TX4 2).2.1 (TX4 2).2.2.1 ∈ wsX4_noTransition := by decide +kernel
theorem flX4_place_63 : Cond.fieldLink RX4 63 RX4 (TX4 0).2.1 (TX4 0).2.2.1 ∈ wsX4_place := by decide +kernel
theorem flX4_place_66 : Cond.fieldLink RX4 66 RX4 (TX4 1).2.1 (TX4 1).2.2.1 ∈ wsX4_place := by decide +kernel
theorem flX4_place_7 : Cond.fieldLink RX4 7 RX4 (TX4 3).2.1 (TX4 3).2.2.1 ∈ wsX4_place := by decide +kernel
theorem flX4_place_13 : Cond.fieldLink RX4 13 RX4 (TX4 4).2.1 (TX4 4).2.2.1 ∈ wsX4_place := by decide +kernel
theorem flX4_place_16 : Cond.fieldLink RX4 16 RX4 (TX4 5).2.1 (TX4 5).2.2.1 ∈ wsX4_place := by decide +kernel
theorem flX4_place_19 : Cond.fieldLink RX4 19 RX4 (TX4 6).2.1 (TX4 6).2.2.1 ∈ wsX4_place := by decide +kernel
theorem flX4_thrown_63 : Cond.fieldLink RX4 63 RX4 (TX4 0).2.1 (TX4 0).2.2.1 ∈ wsX4_thrown := by decide +kernel
theorem flX4_tokens_63 : Cond.fieldLink RX4 63 RX4 (TX4 0).2.1 (TX4 0).2.2.1 ∈ wsX4_tokens := by decide +kernel
theorem flX4_tokens_7 : Cond.fieldLink RX4 7 RX4 (TX4 3).2.1 (TX4 3).2.2.1 ∈ wsX4_tokens := by decide +kernel
theorem flX4_transition_63 : Cond.fieldLink RX4 63 RX4 (TX4 0).2.1 (TX4 0).2.2.1 ∈ wsX4_transition := by decide +kernel
theorem flX4_transition_69 : Cond.fieldLink RX4 69 RX4 (TX4 2).2.1 (TX4 2).2.2.1 ∈ wsX4_transition := by decide +kernel
theorem flX4_want_63 : Cond.fieldLink RX4 63 RX4 (TX4 0).2.1 (TX4 0).2.2.1 ∈ wsX4_want := by decide +kernel
theorem flX4_want_13 : Cond.fieldLink RX4 13 RX4 (TX4 4).2.1 (TX4 4).2.2.1 ∈ wsX4_want := by decide +kernel
theorem updS_same {μ : St} {a : Nat} {k v : Int} (h : μ a k = v) : updS μ a k v = μ := by
  funext b j
  rw [updS_ap]
  split
  · rename_i z
    rw [z.1, z.2, h]
  · rfl
def mdS (μ : St) : St := updS (updS μ 216 7 (-1)) 216 15 (-1)
theorem mdS_ne (μ : St) {x : Nat} (h : x ≠ 216) (k : Int) : mdS μ x k = μ x k := by
  unfold mdS
  rw [updS_ne _ _ _ _ h, updS_ne _ _ _ _ h]
theorem mdS_nk (μ : St) {k : Int} (h1 : k ≠ 7) (h2 : k ≠ 15) : mdS μ 216 k = μ 216 k := by
  unfold mdS
  rw [updS_nk _ _ _ _ h2, updS_nk _ _ _ _ h1]
set_option maxHeartbeats 4000000 in
set_option maxRecDepth 100000 in
theorem m_thrown {l : Launch} (hlf : l.stackTraces = false) (D : va_G) (cy : Nat → ClassId) (B : Nat) {μ : St}  : PC l D cy B yX4_thrown wsX4_thrown (r0 0) [.ref (B + 216)] μ (ret1 (μ 216 0) μ) noX := by
  refine PC.pre (fun hR => ?_)
  refine q_start (cc := cX4_thrown) (maxL := 1) (ret := (some .int)) hlf (by decide +kernel) rfl (by simp [Value.category]) (Nat.le_of_ble_eq_true rfl) ?_
  intro p e s m args below meth c C hret hno
  show PW p l e (r0 0) s m args below meth c D cy B 1 0 0 _ 0 [some (.ref (B + 216))] [] μ
  refine q_aload_n (pc := 0) C dX4_thrown_0 rfl rfl ?_
  refine q_getI (pc := 1) (ci := 4) (k := 0) (ki := 0) C rfl rfl fiX4_thrown_X4 (by decide) k216 (by decide) rfl (by decide) flX4_thrown_63 rfl rfl dX4_thrown_1 ?_
  exact q_iret (pc := 4) C hret ⟨rfl, rfl⟩ (by decide) (by decide) dX4_thrown_4
set_option maxHeartbeats 4000000 in
set_option maxRecDepth 100000 in
theorem m_discard {l : Launch} (hlf : l.stackTraces = false) (D : va_G) (cy : Nat → ClassId) (B : Nat) {μ : St}  : PC l D cy B yX4_discard wsX4_discard (r0 0) [.ref (B + 216)] μ (ret0 (mdS μ)) noX := by
  refine PC.pre (fun hR => ?_)
  refine q_start (cc := cX4_discard) (maxL := 1) (ret := none) hlf (by decide +kernel) rfl (by simp [Value.category]) (Nat.le_of_ble_eq_true rfl) ?_
  intro p e s m args below meth c C hret hno
  show PW p l e (r0 0) s m args below meth c D cy B 1 0 0 _ 0 [some (.ref (B + 216))] [] μ
  refine q_aload_n (pc := 0) C dX4_discard_0 rfl rfl ?_
  refine q_iconst (pc := 1) C dX4_discard_1 ?_
  refine q_put (pc := 2) (ci := 4) (k := 7) (ki := 7) (ty0 := tyX4) C rfl rfl fiX4_discard_X4 (by decide) k216 (by decide) rfl (by decide) flX4_discard_22 rfl tyX4_ok nmX4 rfl rfl rfl (by first | exact hR _ _ | exact hRo _ _ | assumption | exact ⟨by omega, by omega⟩) dX4_discard_2 ?_
  refine q_aload_n (pc := 5) C dX4_discard_5 rfl rfl ?_
  refine q_iconst (pc := 6) C dX4_discard_6 ?_
  refine q_put (pc := 7) (ci := 4) (k := 15) (ki := 15) (ty0 := tyX4) C rfl rfl fiX4_discard_X4 (by decide) k216 (by decide) rfl (by decide) flX4_discard_42 rfl tyX4_ok nmX4 rfl rfl rfl (by first | exact hR _ _ | exact hRo _ _ | assumption | exact ⟨by omega, by omega⟩) dX4_discard_7 ?_
  exact q_vret (pc := 10) C hret ⟨rfl, rfl⟩ (by decide) (by decide) dX4_discard_10
set_option maxHeartbeats 4000000 in
set_option maxRecDepth 100000 in
theorem m_noPlace {l : Launch} (hlf : l.stackTraces = false) (D : va_G) (cy : Nat → ClassId) (B : Nat) {μ : St} {P : Nat} {n : Int} (hn : InR n) (hP : μ 216 1 = P) : PC l D cy B yX4_noPlace wsX4_noPlace (r0 0) [.ref (B + 216), iN n] μ (ret1 (bI (¬ (0 ≤ n ∧ n < P))) μ) noX := by
  refine PC.pre (fun hR => ?_)
  refine q_start (cc := cX4_noPlace) (maxL := 2) (ret := (some .boolean)) hlf (by decide +kernel) rfl (by simp [Value.category]) (Nat.le_of_ble_eq_true rfl) ?_
  intro p e s m args below meth c C hret hno
  show PW p l e (r0 0) s m args below meth c D cy B 2 0 0 _ 0 [some (.ref (B + 216)), some (iN n)] [] μ
  refine q_iload_n (pc := 0) C dX4_noPlace_0 rfl rfl ?_
  refine q_if_lt (pc := 1) (tgt := 12) C (by first | exact hR _ _ | exact hRo _ _ | assumption | exact ⟨by omega, by omega⟩) dX4_noPlace_1 (by decide) (fun hc => ?_) (fun hc => ?_)
  · refine q_iconst (pc := 12) C dX4_noPlace_12 ?_
    refine q_goto (pc := 13) (tgt := 17) C dX4_noPlace_13 (by decide) ?_
    exact q_zret (pc := 17) C hret (by first | exact Or.inl rfl | exact Or.inr rfl | assumption) ⟨by rw [bI_t (by omega)], rfl⟩ (by decide) (by decide) dX4_noPlace_17
  · refine q_iload_n (pc := 4) C dX4_noPlace_4 rfl rfl ?_
    refine q_aload_n (pc := 5) C dX4_noPlace_5 rfl rfl ?_
    refine q_getI (pc := 6) (ci := 4) (k := 1) (ki := 1) C rfl rfl fiX4_noPlace_X4 (by decide) k216 (by decide) rfl (by decide) flX4_noPlace_66 rfl rfl dX4_noPlace_6 ?_
    refine q_icmp_lt (pc := 9) (tgt := 16) C (by first | exact hR _ _ | exact hRo _ _ | assumption | exact ⟨by omega, by omega⟩) (by first | exact hR _ _ | exact hRo _ _ | assumption | exact ⟨by omega, by omega⟩) dX4_noPlace_9 (by decide) (fun hd => ?_) (fun hd => ?_)
    · refine q_iconst (pc := 16) C dX4_noPlace_16 ?_
      exact q_zret (pc := 17) C hret (by first | exact Or.inl rfl | exact Or.inr rfl | assumption) ⟨by rw [bI_f (by omega)], rfl⟩ (by decide) (by decide) dX4_noPlace_17
    · refine q_iconst (pc := 12) C dX4_noPlace_12 ?_
      refine q_goto (pc := 13) (tgt := 17) C dX4_noPlace_13 (by decide) ?_
      exact q_zret (pc := 17) C hret (by first | exact Or.inl rfl | exact Or.inr rfl | assumption) ⟨by rw [bI_t (by omega)], rfl⟩ (by decide) (by decide) dX4_noPlace_17
set_option maxHeartbeats 4000000 in
set_option maxRecDepth 100000 in
theorem m_noTransition {l : Launch} (hlf : l.stackTraces = false) (D : va_G) (cy : Nat → ClassId) (B : Nat) {μ : St} {T : Nat} {n : Int} (hn : InR n) (hT : μ 216 2 = T) : PC l D cy B yX4_noTransition wsX4_noTransition (r0 0) [.ref (B + 216), iN n] μ (ret1 (bI (¬ (0 ≤ n ∧ n < T))) μ) noX := by
  refine PC.pre (fun hR => ?_)
  refine q_start (cc := cX4_noTransition) (maxL := 2) (ret := (some .boolean)) hlf (by decide +kernel) rfl (by simp [Value.category]) (Nat.le_of_ble_eq_true rfl) ?_
  intro p e s m args below meth c C hret hno
  show PW p l e (r0 0) s m args below meth c D cy B 2 0 0 _ 0 [some (.ref (B + 216)), some (iN n)] [] μ
  refine q_iload_n (pc := 0) C dX4_noTransition_0 rfl rfl ?_
  refine q_if_lt (pc := 1) (tgt := 12) C (by first | exact hR _ _ | exact hRo _ _ | assumption | exact ⟨by omega, by omega⟩) dX4_noTransition_1 (by decide) (fun hc => ?_) (fun hc => ?_)
  · refine q_iconst (pc := 12) C dX4_noTransition_12 ?_
    refine q_goto (pc := 13) (tgt := 17) C dX4_noTransition_13 (by decide) ?_
    exact q_zret (pc := 17) C hret (by first | exact Or.inl rfl | exact Or.inr rfl | assumption) ⟨by rw [bI_t (by omega)], rfl⟩ (by decide) (by decide) dX4_noTransition_17
  · refine q_iload_n (pc := 4) C dX4_noTransition_4 rfl rfl ?_
    refine q_aload_n (pc := 5) C dX4_noTransition_5 rfl rfl ?_
    refine q_getI (pc := 6) (ci := 4) (k := 2) (ki := 2) C rfl rfl fiX4_noTransition_X4 (by decide) k216 (by decide) rfl (by decide) flX4_noTransition_69 rfl rfl dX4_noTransition_6 ?_
    refine q_icmp_lt (pc := 9) (tgt := 16) C (by first | exact hR _ _ | exact hRo _ _ | assumption | exact ⟨by omega, by omega⟩) (by first | exact hR _ _ | exact hRo _ _ | assumption | exact ⟨by omega, by omega⟩) dX4_noTransition_9 (by decide) (fun hd => ?_) (fun hd => ?_)
    · refine q_iconst (pc := 16) C dX4_noTransition_16 ?_
      exact q_zret (pc := 17) C hret (by first | exact Or.inl rfl | exact Or.inr rfl | assumption) ⟨by rw [bI_f (by omega)], rfl⟩ (by decide) (by decide) dX4_noTransition_17
    · refine q_iconst (pc := 12) C dX4_noTransition_12 ?_
      refine q_goto (pc := 13) (tgt := 17) C dX4_noTransition_13 (by decide) ?_
      exact q_zret (pc := 17) C hret (by first | exact Or.inl rfl | exact Or.inr rfl | assumption) ⟨by rw [bI_t (by omega)], rfl⟩ (by decide) (by decide) dX4_noTransition_17
set_option maxHeartbeats 4000000 in
set_option maxRecDepth 100000 in
theorem m_told {l : Launch} (hlf : l.stackTraces = false) (D : va_G) (cy : Nat → ClassId) (B : Nat) {μ : St} {x : Int} (hx : InR x) : PC l D cy B yX4_told wsX4_told (r0 0) [iN x] μ (ret1 (if x = 1000000000 then -1 else x) μ) noX := by
  refine PC.pre (fun hR => ?_)
  refine q_start (cc := cX4_told) (maxL := 1) (ret := (some .int)) hlf (by decide +kernel) rfl (by simp [Value.category]) (Nat.le_of_ble_eq_true rfl) ?_
  intro p e s m args below meth c C hret hno
  show PW p l e (r0 0) s m args below meth c D cy B 1 0 0 _ 0 [some (iN x)] [] μ
  obtain ⟨hx1, hx2⟩ := id hx
  refine q_iload_n (pc := 0) C dX4_told_0 rfl rfl ?_
  refine q_ldc (pc := 1) (n := 1000000000) (x := (1000000000 : Int32)) C (by decide +kernel) (by decide +kernel) dX4_told_1 ?_
  refine q_icmp_ne (pc := 3) (tgt := 10) C (by first | exact hR _ _ | exact hRo _ _ | assumption | exact ⟨by omega, by omega⟩) (by first | exact hR _ _ | exact hRo _ _ | assumption | exact ⟨by omega, by omega⟩) dX4_told_3 (by decide) (fun hc => ?_) (fun hc => ?_)
  · refine q_iload_n (pc := 10) C dX4_told_10 rfl rfl ?_
    exact q_iret (pc := 11) C hret ⟨by rw [if_neg hc], rfl⟩ (by decide) (by decide) dX4_told_11
  · refine q_iconst (pc := 6) C dX4_told_6 ?_
    refine q_goto (pc := 7) (tgt := 11) C dX4_told_7 (by decide) ?_
    exact q_iret (pc := 11) C hret ⟨by rw [if_pos hc], rfl⟩ (by decide) (by decide) dX4_told_11
set_option maxHeartbeats 4000000 in
set_option maxRecDepth 100000 in
theorem m_place {l : Launch} (hlf : l.stackTraces = false) (D : va_G) (cy : Nat → ClassId) (B : Nat) {μ : St} {P : Nat} {t : Int} (ht : InR t) (hP : μ 216 1 = P) (h6 : P ≤ 6) (hz : P < 6 → μ 218 P = 0 ∧ ∀ u : Nat, u < 8 → μ 219 (6 * (u : Int) + (P : Int)) = 0 ∧ μ 220 (6 * (u : Int) + (P : Int)) = 0) : PC l D cy B yX4_place wsX4_place (r0 1) [.ref (B + 216), iN t] μ (qv (fun v μ2 => (¬ (0 ≤ t ∧ t ≤ 9) ∧ μ2 = updS μ 216 0 1) ∨ ((0 ≤ t ∧ t ≤ 9) ∧ P = 6 ∧ μ2 = updS μ 216 0 2) ∨ ((0 ≤ t ∧ t ≤ 9) ∧ P < 6 ∧ v = P ∧ μ2 = updS (updS (mdS (updS μ 216 0 0)) 217 P t) 216 1 (P + 1)))) noX := by
  refine PC.pre (fun hR => ?_)
  refine q_start (cc := cX4_place) (maxL := 3) (ret := (some .int)) hlf (by decide +kernel) rfl (by simp [Value.category]) (Nat.le_of_ble_eq_true rfl) ?_
  intro p e s m args below meth c C hret hno
  show PW p l e (r0 1) s m args below meth c D cy B 3 0 0 _ 0 [some (.ref (B + 216)), some (iN t), none] [] μ
  have J : ∀ c9 : Int, (c9 = 1 ∧ ¬ (0 ≤ t ∧ t ≤ 9)) ∨ (c9 = 2 ∧ (0 ≤ t ∧ t ≤ 9) ∧ P = 6) ∨ (c9 = 0 ∧ (0 ≤ t ∧ t ≤ 9) ∧ P < 6) → PW p l e (r0 1) s m args below meth c D cy B 3 0 0 (vx_MQ below (Qp D cy B (qv (fun v μ2 => (¬ (0 ≤ t ∧ t ≤ 9) ∧ μ2 = updS μ 216 0 1) ∨ ((0 ≤ t ∧ t ≤ 9) ∧ P = 6 ∧ μ2 = updS μ 216 0 2) ∨ ((0 ≤ t ∧ t ≤ 9) ∧ P < 6 ∧ v = P ∧ μ2 = updS (updS (mdS (updS μ 216 0 0)) 217 P t) 216 1 (P + 1))))) (Xp D cy B noX) args s (r0 1).cells (r0 1).slots (fun q => B ≤ q)) 29 [some (.ref (B + 216)), some (iN t), none] [iN c9, .ref (B + 216)] μ := by
    intro c9 hc9
    have hr9 : InR c9 := ⟨by omega, by omega⟩
    refine q_put (pc := 29) (ci := 4) (k := 0) (ki := 0) (ty0 := tyX4) C rfl rfl fiX4_place_X4 (by decide) k216 (by decide) rfl (by decide) flX4_place_63 rfl tyX4_ok nmX4 rfl rfl rfl (by first | exact hR _ _ | exact hRo _ _ | assumption | exact ⟨by omega, by omega⟩) dX4_place_29 ?_
    refine q_aload_n (pc := 32) C dX4_place_32 rfl rfl ?_
    refine q_getI (pc := 33) (ci := 4) (k := 0) (ki := 0) C rfl rfl fiX4_place_X4 (by decide) k216 (by decide) rfl (by decide) flX4_place_63 rfl rfl dX4_place_33 ?_
    simp only [updS_ap, Nat.reduceEqDiff, Int.reduceEq, Int.toNat_natCast, false_and, true_and, and_false, and_true, and_self, if_false, if_true, ↓reduceIte]
    refine q_if_le (pc := 36) (tgt := 41) C (by first | exact hR _ _ | exact hRo _ _ | assumption | exact ⟨by omega, by omega⟩) dX4_place_36 (by decide) (fun hq => ?_) (fun hq => ?_)
    · have h0 : c9 = 0 := by omega
      subst h0
      have hP6 : P < 6 := by omega
      obtain ⟨hz1, hz2⟩ := hz hP6
      refine q_aload_n (pc := 41) C dX4_place_41 rfl rfl ?_
      refine q_callV (pc := 42) (As := []) (rest := []) C (m_discard hlf D cy B) (cwV 0 C.2.2.2.2.1 gX4_place_X4_discard rfl rfl rfl (by decide +kernel) ⟨Nat.le_of_ble_eq_true rfl, Nat.le_of_ble_eq_true rfl⟩) (ci := 4) rfl k216 (by decide) (by decide) rfl rfl (by first | decide | simp [Value.category]) dX4_place_42 (by decide) (fun _ _ h => h.elim) (fun v μ9 hv => ?_)
      have e8 := hv.1
      have e9 := hv.2.symm
      clear hv
      subst e8
      subst e9
      dsimp only [Option.toList, List.cons_append, List.nil_append]
      have e1 : mdS (updS μ 216 0 0) 216 1 = P := by rw [mdS_nk _ (by decide) (by decide), updS_nk _ _ _ _ (by decide), hP]
      refine q_aload_n (pc := 45) C dX4_place_45 rfl rfl ?_
      refine q_getR (pc := 46) (ci := 4) (k := 3) (r := 217) C rfl fiX4_place_X4 (by decide) k216 (by decide) rfl (by decide) flX4_place_7 rfl rfl dX4_place_46 ?_
      refine q_aload_n (pc := 49) C dX4_place_49 rfl rfl ?_
      refine q_getI (pc := 50) (ci := 4) (k := 1) (ki := 1) C rfl rfl fiX4_place_X4 (by decide) k216 (by decide) rfl (by decide) flX4_place_66 rfl rfl dX4_place_50 ?_
      rw [e1]
      refine q_iload_n (pc := 53) C dX4_place_53 rfl rfl ?_
      refine q_iastore (pc := 54) C k217 n217 (by decide) (by decide) (by omega) (by omega) (by first | exact hR _ _ | exact hRo _ _ | assumption | exact ⟨by omega, by omega⟩) dX4_place_54 ?_
      refine q_aload_n (pc := 55) C dX4_place_55 rfl rfl ?_
      refine q_getR (pc := 56) (ci := 4) (k := 4) (r := 218) C rfl fiX4_place_X4 (by decide) k216 (by decide) rfl (by decide) flX4_place_13 rfl rfl dX4_place_56 ?_
      refine q_aload_n (pc := 59) C dX4_place_59 rfl rfl ?_
      refine q_getI (pc := 60) (ci := 4) (k := 1) (ki := 1) C rfl rfl fiX4_place_X4 (by decide) k216 (by decide) rfl (by decide) flX4_place_66 rfl rfl dX4_place_60 ?_
      simp only [updS_ap, Nat.reduceEqDiff, Int.reduceEq, Int.toNat_natCast, false_and, true_and, and_false, and_true, and_self, if_false, if_true, ↓reduceIte]
      rw [e1]
      refine q_iconst (pc := 63) C dX4_place_63 ?_
      refine q_iastore (pc := 64) C k218 n218 (by decide) (by decide) (by omega) (by omega) (by first | exact hR _ _ | exact hRo _ _ | assumption | exact ⟨by omega, by omega⟩) dX4_place_64 ?_
      refine q_mu (updS_same (by rw [updS_ne _ _ _ _ (by decide), mdS_ne _ (by decide), updS_ne _ _ _ _ (by decide)]; exact hz1)) ?_
      have hs1 : updS (mdS (updS μ 216 0 0)) 217 P t 216 1 = P := by rw [updS_ne _ _ _ _ (by decide), e1]
      have L : ∀ u : Nat, u ≤ 8 → PW p l e (r0 1) s m args below meth c D cy B 3 0 0 (vx_MQ below (Qp D cy B (qv (fun v μ2 => (¬ (0 ≤ t ∧ t ≤ 9) ∧ μ2 = updS μ 216 0 1) ∨ ((0 ≤ t ∧ t ≤ 9) ∧ P = 6 ∧ μ2 = updS μ 216 0 2) ∨ ((0 ≤ t ∧ t ≤ 9) ∧ P < 6 ∧ v = P ∧ μ2 = updS (updS (mdS (updS μ 216 0 0)) 217 P t) 216 1 (P + 1))))) (Xp D cy B noX) args s (r0 1).cells (r0 1).slots (fun q => B ≤ q)) 67 [some (.ref (B + 216)), some (iN t), some (iN u)] [] (updS (mdS (updS μ 216 0 0)) 217 P t) := by
        refine up_to 8 _ (fun u hu ih => ?_)
        refine q_iload_n (pc := 67) C dX4_place_67 rfl rfl ?_
        refine q_bipush (pc := 68) C (by decide +kernel) dX4_place_68 ?_
        refine q_icmp_ge (pc := 70) (tgt := 109) C (by first | exact hR _ _ | exact hRo _ _ | assumption | exact ⟨by omega, by omega⟩) (by first | exact hR _ _ | exact hRo _ _ | assumption | exact ⟨by omega, by omega⟩) dX4_place_70 (by decide) (fun hc => ?_) (fun hc => ?_)
        · refine q_aload_n (pc := 109) C dX4_place_109 rfl rfl ?_
          refine q_dup (pc := 110) C rfl dX4_place_110 ?_
          refine q_getI (pc := 111) (ci := 4) (k := 1) (ki := 1) C rfl rfl fiX4_place_X4 (by decide) k216 (by decide) rfl (by decide) flX4_place_66 rfl rfl dX4_place_111 ?_
          rw [hs1]
          refine q_iconst (pc := 114) C dX4_place_114 ?_
          refine q_iadd (pc := 115) C dX4_place_115 ?_
          refine q_put (pc := 116) (ci := 4) (k := 1) (ki := 1) (ty0 := tyX4) C rfl rfl fiX4_place_X4 (by decide) k216 (by decide) rfl (by decide) flX4_place_66 rfl tyX4_ok nmX4 rfl rfl rfl (by first | exact hR _ _ | exact hRo _ _ | assumption | exact ⟨by omega, by omega⟩) dX4_place_116 ?_
          refine q_aload_n (pc := 119) C dX4_place_119 rfl rfl ?_
          refine q_getI (pc := 120) (ci := 4) (k := 1) (ki := 1) C rfl rfl fiX4_place_X4 (by decide) k216 (by decide) rfl (by decide) flX4_place_66 rfl rfl dX4_place_120 ?_
          simp only [updS_ap, Nat.reduceEqDiff, Int.reduceEq, Int.toNat_natCast, false_and, true_and, and_false, and_true, and_self, if_false, if_true, ↓reduceIte]
          refine q_iconst (pc := 123) C dX4_place_123 ?_
          refine q_isub (pc := 124) C dX4_place_124 ?_
          exact q_iret (pc := 125) C hret ⟨P, ⟨by omega, by omega⟩, by rw [Int.add_sub_cancel], Or.inr (Or.inr ⟨by omega, hP6, rfl, rfl⟩)⟩ (by decide) (by decide) dX4_place_125
        · obtain ⟨y1, y2⟩ := hz2 u (by omega)
          refine q_aload_n (pc := 73) C dX4_place_73 rfl rfl ?_
          refine q_getR (pc := 74) (ci := 4) (k := 5) (r := 219) C rfl fiX4_place_X4 (by decide) k216 (by decide) rfl (by decide) flX4_place_16 rfl rfl dX4_place_74 ?_
          refine q_bipush (pc := 77) C (by decide +kernel) dX4_place_77 ?_
          refine q_iload_n (pc := 79) C dX4_place_79 rfl rfl ?_
          refine q_imul (pc := 80) C dX4_place_80 ?_
          refine q_aload_n (pc := 81) C dX4_place_81 rfl rfl ?_
          refine q_getI (pc := 82) (ci := 4) (k := 1) (ki := 1) C rfl rfl fiX4_place_X4 (by decide) k216 (by decide) rfl (by decide) flX4_place_66 rfl rfl dX4_place_82 ?_
          refine q_iadd (pc := 85) C dX4_place_85 ?_
          rw [hs1]
          refine q_iconst (pc := 86) C dX4_place_86 ?_
          refine q_iastore (pc := 87) C k219 n219 (by decide) (by decide) (by omega) (by omega) (by first | exact hR _ _ | exact hRo _ _ | assumption | exact ⟨by omega, by omega⟩) dX4_place_87 ?_
          refine q_mu (updS_same (by rw [updS_ne _ _ _ _ (by decide), mdS_ne _ (by decide), updS_ne _ _ _ _ (by decide)]; exact y1)) ?_
          refine q_aload_n (pc := 88) C dX4_place_88 rfl rfl ?_
          refine q_getR (pc := 89) (ci := 4) (k := 6) (r := 220) C rfl fiX4_place_X4 (by decide) k216 (by decide) rfl (by decide) flX4_place_19 rfl rfl dX4_place_89 ?_
          refine q_bipush (pc := 92) C (by decide +kernel) dX4_place_92 ?_
          refine q_iload_n (pc := 94) C dX4_place_94 rfl rfl ?_
          refine q_imul (pc := 95) C dX4_place_95 ?_
          refine q_aload_n (pc := 96) C dX4_place_96 rfl rfl ?_
          refine q_getI (pc := 97) (ci := 4) (k := 1) (ki := 1) C rfl rfl fiX4_place_X4 (by decide) k216 (by decide) rfl (by decide) flX4_place_66 rfl rfl dX4_place_97 ?_
          refine q_iadd (pc := 100) C dX4_place_100 ?_
          rw [hs1]
          refine q_iconst (pc := 101) C dX4_place_101 ?_
          refine q_iastore (pc := 102) C k220 n220 (by decide) (by decide) (by omega) (by omega) (by first | exact hR _ _ | exact hRo _ _ | assumption | exact ⟨by omega, by omega⟩) dX4_place_102 ?_
          refine q_mu (updS_same (by rw [updS_ne _ _ _ _ (by decide), mdS_ne _ (by decide), updS_ne _ _ _ _ (by decide)]; exact y2)) ?_
          refine q_iinc (pc := 103) (lv2 := [_, _, _]) C dX4_place_103 (by decide) rfl rfl ?_
          refine q_goto (pc := 106) (tgt := 67) C dX4_place_106 (by decide) ?_
          exact ih (by omega)
      refine q_iconst (pc := 65) C dX4_place_65 ?_
      refine q_istore_n (pc := 66) (lv2 := [_, _, _]) C dX4_place_66 rfl (by decide) rfl ?_
      exact L 0 (by omega)
    · refine q_iconst (pc := 39) C dX4_place_39 ?_
      exact q_iret (pc := 40) C hret ⟨0, r_0, rfl, by rcases hc9 with ⟨z, y⟩ | ⟨z, y⟩ | ⟨z, y⟩; exact Or.inl ⟨y, by rw [z]⟩; exact Or.inr (Or.inl ⟨y.1, y.2, by rw [z]⟩); exact absurd hq (by omega)⟩ (by decide) (by decide) dX4_place_40
  refine q_aload_n (pc := 0) C dX4_place_0 rfl rfl ?_
  refine q_iload_n (pc := 1) C dX4_place_1 rfl rfl ?_
  refine q_if_lt (pc := 2) (tgt := 11) C (by first | exact hR _ _ | exact hRo _ _ | assumption | exact ⟨by omega, by omega⟩) dX4_place_2 (by decide) (fun h1 => ?_) (fun h1 => ?_)
  · refine q_iconst (pc := 11) C dX4_place_11 ?_
    refine q_goto (pc := 12) (tgt := 29) C dX4_place_12 (by decide) ?_
    exact J 1 (Or.inl ⟨rfl, by omega⟩)
  · refine q_iload_n (pc := 5) C dX4_place_5 rfl rfl ?_
    refine q_bipush (pc := 6) C (by decide +kernel) dX4_place_6 ?_
    refine q_icmp_le (pc := 8) (tgt := 15) C (by first | exact hR _ _ | exact hRo _ _ | assumption | exact ⟨by omega, by omega⟩) (by first | exact hR _ _ | exact hRo _ _ | assumption | exact ⟨by omega, by omega⟩) dX4_place_8 (by decide) (fun h2 => ?_) (fun h2 => ?_)
    · refine q_aload_n (pc := 15) C dX4_place_15 rfl rfl ?_
      refine q_getI (pc := 16) (ci := 4) (k := 1) (ki := 1) C rfl rfl fiX4_place_X4 (by decide) k216 (by decide) rfl (by decide) flX4_place_66 rfl rfl dX4_place_16 ?_
      refine q_bipush (pc := 19) C (by decide +kernel) dX4_place_19 ?_
      refine q_icmp_ne (pc := 21) (tgt := 28) C (by first | exact hR _ _ | exact hRo _ _ | assumption | exact ⟨by omega, by omega⟩) (by first | exact hR _ _ | exact hRo _ _ | assumption | exact ⟨by omega, by omega⟩) dX4_place_21 (by decide) (fun h3 => ?_) (fun h3 => ?_)
      · refine q_iconst (pc := 28) C dX4_place_28 ?_
        exact J 0 (Or.inr (Or.inr ⟨rfl, by omega, by omega⟩))
      · refine q_iconst (pc := 24) C dX4_place_24 ?_
        refine q_goto (pc := 25) (tgt := 29) C dX4_place_25 (by decide) ?_
        exact J 2 (Or.inr (Or.inl ⟨rfl, by omega, by omega⟩))
    · refine q_iconst (pc := 11) C dX4_place_11 ?_
      refine q_goto (pc := 12) (tgt := 29) C dX4_place_12 (by decide) ?_
      exact J 1 (Or.inl ⟨rfl, by omega⟩)
set_option maxHeartbeats 4000000 in
set_option maxRecDepth 100000 in
theorem m_transition {l : Launch} (hlf : l.stackTraces = false) (D : va_G) (cy : Nat → ClassId) (B : Nat) {μ : St} {T : Nat} (hT : μ 216 2 = T) (h8 : T ≤ 8) : PC l D cy B yX4_transition wsX4_transition (r0 1) [.ref (B + 216)] μ (qv (fun v μ2 => (T = 8 ∧ μ2 = updS μ 216 0 1) ∨ (T < 8 ∧ v = T ∧ μ2 = updS (mdS (updS μ 216 0 0)) 216 2 (T + 1)))) noX := by
  refine PC.pre (fun hR => ?_)
  refine q_start (cc := cX4_transition) (maxL := 1) (ret := (some .int)) hlf (by decide +kernel) rfl (by simp [Value.category]) (Nat.le_of_ble_eq_true rfl) ?_
  intro p e s m args below meth c C hret hno
  show PW p l e (r0 1) s m args below meth c D cy B 1 0 0 _ 0 [some (.ref (B + 216))] [] μ
  have J : ∀ c9 : Int, (c9 = 1 ∧ T = 8) ∨ (c9 = 0 ∧ T < 8) → PW p l e (r0 1) s m args below meth c D cy B 1 0 0 (vx_MQ below (Qp D cy B (qv (fun v μ2 => (T = 8 ∧ μ2 = updS μ 216 0 1) ∨ (T < 8 ∧ v = T ∧ μ2 = updS (mdS (updS μ 216 0 0)) 216 2 (T + 1))))) (Xp D cy B noX) args s (r0 1).cells (r0 1).slots (fun q => B ≤ q)) 15 [some (.ref (B + 216))] [iN c9, .ref (B + 216)] μ := by
    intro c9 hc9
    have hr9 : InR c9 := ⟨by omega, by omega⟩
    refine q_put (pc := 15) (ci := 4) (k := 0) (ki := 0) (ty0 := tyX4) C rfl rfl fiX4_transition_X4 (by decide) k216 (by decide) rfl (by decide) flX4_transition_63 rfl tyX4_ok nmX4 rfl rfl rfl (by first | exact hR _ _ | exact hRo _ _ | assumption | exact ⟨by omega, by omega⟩) dX4_transition_15 ?_
    refine q_aload_n (pc := 18) C dX4_transition_18 rfl rfl ?_
    refine q_getI (pc := 19) (ci := 4) (k := 0) (ki := 0) C rfl rfl fiX4_transition_X4 (by decide) k216 (by decide) rfl (by decide) flX4_transition_63 rfl rfl dX4_transition_19 ?_
    simp only [updS_ap, Nat.reduceEqDiff, Int.reduceEq, Int.toNat_natCast, false_and, true_and, and_false, and_true, and_self, if_false, if_true, ↓reduceIte]
    refine q_if_le (pc := 22) (tgt := 27) C (by first | exact hR _ _ | exact hRo _ _ | assumption | exact ⟨by omega, by omega⟩) dX4_transition_22 (by decide) (fun hq => ?_) (fun hq => ?_)
    · have h0 : c9 = 0 := by omega
      subst h0
      refine q_aload_n (pc := 27) C dX4_transition_27 rfl rfl ?_
      refine q_callV (pc := 28) (As := []) (rest := []) C (m_discard hlf D cy B) (cwV 0 C.2.2.2.2.1 gX4_transition_X4_discard rfl rfl rfl (by decide +kernel) ⟨Nat.le_of_ble_eq_true rfl, Nat.le_of_ble_eq_true rfl⟩) (ci := 4) rfl k216 (by decide) (by decide) rfl rfl (by first | decide | simp [Value.category]) dX4_transition_28 (by decide) (fun _ _ h => h.elim) (fun v μ9 hv => ?_)
      have e8 := hv.1
      have e9 := hv.2.symm
      clear hv
      subst e8
      subst e9
      dsimp only [Option.toList, List.cons_append, List.nil_append]
      have e1 : mdS (updS μ 216 0 0) 216 2 = T := by rw [mdS_nk _ (by decide) (by decide), updS_nk _ _ _ _ (by decide), hT]
      refine q_aload_n (pc := 31) C dX4_transition_31 rfl rfl ?_
      refine q_dup (pc := 32) C rfl dX4_transition_32 ?_
      refine q_getI (pc := 33) (ci := 4) (k := 2) (ki := 2) C rfl rfl fiX4_transition_X4 (by decide) k216 (by decide) rfl (by decide) flX4_transition_69 rfl rfl dX4_transition_33 ?_
      rw [e1]
      refine q_iconst (pc := 36) C dX4_transition_36 ?_
      refine q_iadd (pc := 37) C dX4_transition_37 ?_
      refine q_put (pc := 38) (ci := 4) (k := 2) (ki := 2) (ty0 := tyX4) C rfl rfl fiX4_transition_X4 (by decide) k216 (by decide) rfl (by decide) flX4_transition_69 rfl tyX4_ok nmX4 rfl rfl rfl (by first | exact hR _ _ | exact hRo _ _ | assumption | exact ⟨by omega, by omega⟩) dX4_transition_38 ?_
      refine q_aload_n (pc := 41) C dX4_transition_41 rfl rfl ?_
      refine q_getI (pc := 42) (ci := 4) (k := 2) (ki := 2) C rfl rfl fiX4_transition_X4 (by decide) k216 (by decide) rfl (by decide) flX4_transition_69 rfl rfl dX4_transition_42 ?_
      simp only [updS_ap, Nat.reduceEqDiff, Int.reduceEq, Int.toNat_natCast, false_and, true_and, and_false, and_true, and_self, if_false, if_true, ↓reduceIte]
      refine q_iconst (pc := 45) C dX4_transition_45 ?_
      refine q_isub (pc := 46) C dX4_transition_46 ?_
      exact q_iret (pc := 47) C hret ⟨T, ⟨by omega, by omega⟩, by rw [Int.add_sub_cancel], Or.inr ⟨by omega, rfl, rfl⟩⟩ (by decide) (by decide) dX4_transition_47
    · refine q_iconst (pc := 25) C dX4_transition_25 ?_
      exact q_iret (pc := 26) C hret ⟨0, r_0, rfl, Or.inl ⟨by omega, by rw [show c9 = 1 by omega]⟩⟩ (by decide) (by decide) dX4_transition_26
  refine q_aload_n (pc := 0) C dX4_transition_0 rfl rfl ?_
  refine q_aload_n (pc := 1) C dX4_transition_1 rfl rfl ?_
  refine q_getI (pc := 2) (ci := 4) (k := 2) (ki := 2) C rfl rfl fiX4_transition_X4 (by decide) k216 (by decide) rfl (by decide) flX4_transition_69 rfl rfl dX4_transition_2 ?_
  refine q_bipush (pc := 5) C (by decide +kernel) dX4_transition_5 ?_
  refine q_icmp_ne (pc := 7) (tgt := 14) C (by first | exact hR _ _ | exact hRo _ _ | assumption | exact ⟨by omega, by omega⟩) (by first | exact hR _ _ | exact hRo _ _ | assumption | exact ⟨by omega, by omega⟩) dX4_transition_7 (by decide) (fun h1 => ?_) (fun h1 => ?_)
  · refine q_iconst (pc := 14) C dX4_transition_14 ?_
    exact J 0 (Or.inr ⟨rfl, by omega⟩)
  · refine q_iconst (pc := 10) C dX4_transition_10 ?_
    refine q_goto (pc := 11) (tgt := 15) C dX4_transition_11 (by decide) ?_
    exact J 1 (Or.inl ⟨rfl, by omega⟩)
set_option maxHeartbeats 4000000 in
set_option maxRecDepth 100000 in
theorem m_arc {l : Launch} (hlf : l.stackTraces = false) (D : va_G) (cy : Nat → ClassId) (B : Nat) {μ : St} {P T : Nat} {a t n z : Int} (ha : InR a) (ht : InR t) (hn : InR n) (hz : InR z) (hP : μ 216 1 = P) (hT : μ 216 2 = T) (h6 : P ≤ 6) (h8 : T ≤ 8) : PC l D cy B yX4_arc wsX4_arc (r0 1) [.ref (B + 216), iN a, iN t, iN n, iN z] μ (qv (fun v μ2 => (¬ ((0 ≤ a ∧ a < P) ∧ (0 ≤ t ∧ t < T)) ∧ μ2 = updS μ 216 0 1) ∨ (((0 ≤ a ∧ a < P) ∧ (0 ≤ t ∧ t < T)) ∧ ¬ (0 ≤ n ∧ n ≤ 4) ∧ μ2 = updS μ 216 0 2) ∨ (((0 ≤ a ∧ a < P) ∧ (0 ≤ t ∧ t < T)) ∧ (0 ≤ n ∧ n ≤ 4) ∧ v = (if z = 0 then μ 219 (6 * t + a) else μ 220 (6 * t + a)) ∧ μ2 = (if z = 0 then updS (mdS (updS μ 216 0 0)) 219 (6 * t + a) n else updS (mdS (updS μ 216 0 0)) 220 (6 * t + a) n)))) noX := by
  refine PC.pre (fun hR => ?_)
  refine q_start (cc := cX4_arc) (maxL := 7) (ret := (some .int)) hlf (by decide +kernel) rfl (by simp [Value.category]) (Nat.le_of_ble_eq_true rfl) ?_
  intro p e s m args below meth c C hret hno
  show PW p l e (r0 1) s m args below meth c D cy B 7 0 0 _ 0 [some (.ref (B + 216)), some (iN a), some (iN t), some (iN n), some (iN z), none, none] [] μ
  have J : ∀ c9 : Int, (c9 = 1 ∧ ¬ ((0 ≤ a ∧ a < P) ∧ (0 ≤ t ∧ t < T))) ∨ (c9 = 2 ∧ ((0 ≤ a ∧ a < P) ∧ (0 ≤ t ∧ t < T)) ∧ ¬ (0 ≤ n ∧ n ≤ 4)) ∨ (c9 = 0 ∧ ((0 ≤ a ∧ a < P) ∧ (0 ≤ t ∧ t < T)) ∧ (0 ≤ n ∧ n ≤ 4)) → PW p l e (r0 1) s m args below meth c D cy B 7 0 0 (vx_MQ below (Qp D cy B (qv (fun v μ2 => (¬ ((0 ≤ a ∧ a < P) ∧ (0 ≤ t ∧ t < T)) ∧ μ2 = updS μ 216 0 1) ∨ (((0 ≤ a ∧ a < P) ∧ (0 ≤ t ∧ t < T)) ∧ ¬ (0 ≤ n ∧ n ≤ 4) ∧ μ2 = updS μ 216 0 2) ∨ (((0 ≤ a ∧ a < P) ∧ (0 ≤ t ∧ t < T)) ∧ (0 ≤ n ∧ n ≤ 4) ∧ v = (if z = 0 then μ 219 (6 * t + a) else μ 220 (6 * t + a)) ∧ μ2 = (if z = 0 then updS (mdS (updS μ 216 0 0)) 219 (6 * t + a) n else updS (mdS (updS μ 216 0 0)) 220 (6 * t + a) n))))) (Xp D cy B noX) args s (r0 1).cells (r0 1).slots (fun q => B ≤ q)) 35 [some (.ref (B + 216)), some (iN a), some (iN t), some (iN n), some (iN z), none, none] [iN c9, .ref (B + 216)] μ := by
    intro c9 hc9
    have hr9 : InR c9 := ⟨by omega, by omega⟩
    refine q_put (pc := 35) (ci := 4) (k := 0) (ki := 0) (ty0 := tyX4) C rfl rfl fiX4_arc_X4 (by decide) k216 (by decide) rfl (by decide) flX4_arc_63 rfl tyX4_ok nmX4 rfl rfl rfl (by first | exact hR _ _ | exact hRo _ _ | assumption | exact ⟨by omega, by omega⟩) dX4_arc_35 ?_
    refine q_aload_n (pc := 38) C dX4_arc_38 rfl rfl ?_
    refine q_getI (pc := 39) (ci := 4) (k := 0) (ki := 0) C rfl rfl fiX4_arc_X4 (by decide) k216 (by decide) rfl (by decide) flX4_arc_63 rfl rfl dX4_arc_39 ?_
    simp only [updS_ap, Nat.reduceEqDiff, Int.reduceEq, Int.toNat_natCast, false_and, true_and, and_false, and_true, and_self, if_false, if_true, ↓reduceIte]
    refine q_if_le (pc := 42) (tgt := 47) C (by first | exact hR _ _ | exact hRo _ _ | assumption | exact ⟨by omega, by omega⟩) dX4_arc_42 (by decide) (fun hq => ?_) (fun hq => ?_)
    · have h0 : c9 = 0 := by omega
      subst h0
      refine q_aload_n (pc := 47) C dX4_arc_47 rfl rfl ?_
      refine q_callV (pc := 48) (As := []) (rest := []) C (m_discard hlf D cy B) (cwV 0 C.2.2.2.2.1 gX4_arc_X4_discard rfl rfl rfl (by decide +kernel) ⟨Nat.le_of_ble_eq_true rfl, Nat.le_of_ble_eq_true rfl⟩) (ci := 4) rfl k216 (by decide) (by decide) rfl rfl (by first | decide | simp [Value.category]) dX4_arc_48 (by decide) (fun _ _ h => h.elim) (fun v μ9 hv => ?_)
      have e8 := hv.1
      have e9 := hv.2.symm
      clear hv
      subst e8
      subst e9
      dsimp only [Option.toList, List.cons_append, List.nil_append]
      refine q_bipush (pc := 51) C (by decide +kernel) dX4_arc_51 ?_
      refine q_iload_n (pc := 53) C dX4_arc_53 rfl rfl ?_
      refine q_imul (pc := 54) C dX4_arc_54 ?_
      refine q_iload_n (pc := 55) C dX4_arc_55 rfl rfl ?_
      refine q_iadd (pc := 56) C dX4_arc_56 ?_
      refine q_istore (pc := 57) (lv2 := [_, _, _, _, _, _, _]) C dX4_arc_57 (by decide) rfl ?_
      refine q_iload (pc := 59) C dX4_arc_59 rfl ?_
      refine q_if_eq (pc := 61) (tgt := 74) C (by first | exact hR _ _ | exact hRo _ _ | assumption | exact ⟨by omega, by omega⟩) dX4_arc_61 (by decide) (fun hd => ?_) (fun hd => ?_)
      · refine q_aload_n (pc := 74) C dX4_arc_74 rfl rfl ?_
        refine q_getR (pc := 75) (ci := 4) (k := 5) (r := 219) C rfl fiX4_arc_X4 (by decide) k216 (by decide) rfl (by decide) flX4_arc_16 rfl rfl dX4_arc_75 ?_
        refine q_iload (pc := 78) C dX4_arc_78 rfl ?_
        refine q_iaload (pc := 80) C k219 n219 (by decide) (by decide) (by omega) (by omega) dX4_arc_80 ?_
        rw [mdS_ne _ (by decide), updS_ne _ _ _ _ (by decide)]
        refine q_istore (pc := 81) (lv2 := [_, _, _, _, _, _, _]) C dX4_arc_81 (by decide) rfl ?_
        refine q_iload (pc := 83) C dX4_arc_83 rfl ?_
        refine q_if_eq (pc := 85) (tgt := 99) C (by first | exact hR _ _ | exact hRo _ _ | assumption | exact ⟨by omega, by omega⟩) dX4_arc_85 (by decide) (fun he => ?_) (fun he => ?_)
        · refine q_aload_n (pc := 99) C dX4_arc_99 rfl rfl ?_
          refine q_getR (pc := 100) (ci := 4) (k := 5) (r := 219) C rfl fiX4_arc_X4 (by decide) k216 (by decide) rfl (by decide) flX4_arc_16 rfl rfl dX4_arc_100 ?_
          refine q_iload (pc := 103) C dX4_arc_103 rfl ?_
          refine q_iload_n (pc := 105) C dX4_arc_105 rfl rfl ?_
          refine q_iastore (pc := 106) C k219 n219 (by decide) (by decide) (by omega) (by omega) (by first | exact hR _ _ | exact hRo _ _ | assumption | exact ⟨by omega, by omega⟩) dX4_arc_106 ?_
          refine q_iload (pc := 107) C dX4_arc_107 rfl ?_
          exact q_iret (pc := 109) C hret ⟨_, hR _ _, rfl, Or.inr (Or.inr ⟨by omega, by omega, by rw [if_pos hd], by rw [if_pos hd]⟩)⟩ (by decide) (by decide) dX4_arc_109
        · exact absurd hd he
      · refine q_aload_n (pc := 64) C dX4_arc_64 rfl rfl ?_
        refine q_getR (pc := 65) (ci := 4) (k := 6) (r := 220) C rfl fiX4_arc_X4 (by decide) k216 (by decide) rfl (by decide) flX4_arc_19 rfl rfl dX4_arc_65 ?_
        refine q_iload (pc := 68) C dX4_arc_68 rfl ?_
        refine q_iaload (pc := 70) C k220 n220 (by decide) (by decide) (by omega) (by omega) dX4_arc_70 ?_
        rw [mdS_ne _ (by decide), updS_ne _ _ _ _ (by decide)]
        refine q_goto (pc := 71) (tgt := 81) C dX4_arc_71 (by decide) ?_
        refine q_istore (pc := 81) (lv2 := [_, _, _, _, _, _, _]) C dX4_arc_81 (by decide) rfl ?_
        refine q_iload (pc := 83) C dX4_arc_83 rfl ?_
        refine q_if_eq (pc := 85) (tgt := 99) C (by first | exact hR _ _ | exact hRo _ _ | assumption | exact ⟨by omega, by omega⟩) dX4_arc_85 (by decide) (fun he => ?_) (fun he => ?_)
        · exact absurd he hd
        · refine q_aload_n (pc := 88) C dX4_arc_88 rfl rfl ?_
          refine q_getR (pc := 89) (ci := 4) (k := 6) (r := 220) C rfl fiX4_arc_X4 (by decide) k216 (by decide) rfl (by decide) flX4_arc_19 rfl rfl dX4_arc_89 ?_
          refine q_iload (pc := 92) C dX4_arc_92 rfl ?_
          refine q_iload_n (pc := 94) C dX4_arc_94 rfl rfl ?_
          refine q_iastore (pc := 95) C k220 n220 (by decide) (by decide) (by omega) (by omega) (by first | exact hR _ _ | exact hRo _ _ | assumption | exact ⟨by omega, by omega⟩) dX4_arc_95 ?_
          refine q_goto (pc := 96) (tgt := 107) C dX4_arc_96 (by decide) ?_
          refine q_iload (pc := 107) C dX4_arc_107 rfl ?_
          exact q_iret (pc := 109) C hret ⟨_, hR _ _, rfl, Or.inr (Or.inr ⟨by omega, by omega, by rw [if_neg hd], by rw [if_neg hd]⟩)⟩ (by decide) (by decide) dX4_arc_109
    · refine q_iconst (pc := 45) C dX4_arc_45 ?_
      exact q_iret (pc := 46) C hret ⟨0, r_0, rfl, by rcases hc9 with ⟨z, y⟩ | ⟨z, y⟩ | ⟨z, y⟩; exact Or.inl ⟨y, by rw [z]⟩; exact Or.inr (Or.inl ⟨y.1, y.2, by rw [z]⟩); exact absurd hq (by omega)⟩ (by decide) (by decide) dX4_arc_46
  refine q_aload_n (pc := 0) C dX4_arc_0 rfl rfl ?_
  refine q_aload_n (pc := 1) C dX4_arc_1 rfl rfl ?_
  refine q_iload_n (pc := 2) C dX4_arc_2 rfl rfl ?_
  refine q_callV (pc := 3) (As := [_]) (rest := [_]) C (m_noPlace hlf D cy B (P := P) (n := a) ha hP) (cwV 1 C.2.2.2.2.1 gX4_arc_X4_noPlace rfl rfl rfl (by decide +kernel) ⟨Nat.le_of_ble_eq_true rfl, Nat.le_of_ble_eq_true rfl⟩) (ci := 4) rfl k216 (by decide) (by decide) rfl rfl (by first | decide | simp [Value.category]) dX4_arc_3 (by decide) (fun _ _ h => h.elim) (fun v μ9 hv => ?_)
  have e8 := hv.1
  have e9 := hv.2.symm
  clear hv
  subst e8
  subst e9
  dsimp only [Option.toList, List.cons_append, List.nil_append]
  have hb1 := bI_01 (¬ (0 ≤ a ∧ a < (P : Int)))
  have hb2 := bI_01 (¬ (0 ≤ t ∧ t < (T : Int)))
  refine q_if_ne (pc := 6) (tgt := 17) C (by first | exact hR _ _ | exact hRo _ _ | assumption | exact ⟨by omega, by omega⟩) dX4_arc_6 (by decide) (fun h1 => ?_) (fun h1 => ?_)
  · have h1' := bI_1.mp (show bI (¬ (0 ≤ a ∧ a < (P : Int))) = 1 by omega)
    refine q_iconst (pc := 17) C dX4_arc_17 ?_
    refine q_goto (pc := 18) (tgt := 35) C dX4_arc_18 (by decide) ?_
    exact J 1 (Or.inl ⟨rfl, by omega⟩)
  · have h1' := bI_0.mp (show bI (¬ (0 ≤ a ∧ a < (P : Int))) = 0 by omega)
    refine q_aload_n (pc := 9) C dX4_arc_9 rfl rfl ?_
    refine q_iload_n (pc := 10) C dX4_arc_10 rfl rfl ?_
    refine q_callV (pc := 11) (As := [_]) (rest := [_]) C (m_noTransition hlf D cy B (T := T) (n := t) ht hT) (cwV 1 C.2.2.2.2.1 gX4_arc_X4_noTransition rfl rfl rfl (by decide +kernel) ⟨Nat.le_of_ble_eq_true rfl, Nat.le_of_ble_eq_true rfl⟩) (ci := 4) rfl k216 (by decide) (by decide) rfl rfl (by first | decide | simp [Value.category]) dX4_arc_11 (by decide) (fun _ _ h => h.elim) (fun v μ9 hv => ?_)
    have e8 := hv.1
    have e9 := hv.2.symm
    clear hv
    subst e8
    subst e9
    dsimp only [Option.toList, List.cons_append, List.nil_append]
    refine q_if_eq (pc := 14) (tgt := 21) C (by first | exact hR _ _ | exact hRo _ _ | assumption | exact ⟨by omega, by omega⟩) dX4_arc_14 (by decide) (fun h2 => ?_) (fun h2 => ?_)
    · have h2' := bI_0.mp h2
      refine q_iload_n (pc := 21) C dX4_arc_21 rfl rfl ?_
      refine q_if_lt (pc := 22) (tgt := 30) C (by first | exact hR _ _ | exact hRo _ _ | assumption | exact ⟨by omega, by omega⟩) dX4_arc_22 (by decide) (fun h3 => ?_) (fun h3 => ?_)
      · refine q_iconst (pc := 30) C dX4_arc_30 ?_
        refine q_goto (pc := 31) (tgt := 35) C dX4_arc_31 (by decide) ?_
        exact J 2 (Or.inr (Or.inl ⟨rfl, by omega, by omega⟩))
      · refine q_iload_n (pc := 25) C dX4_arc_25 rfl rfl ?_
        refine q_iconst (pc := 26) C dX4_arc_26 ?_
        refine q_icmp_le (pc := 27) (tgt := 34) C (by first | exact hR _ _ | exact hRo _ _ | assumption | exact ⟨by omega, by omega⟩) (by first | exact hR _ _ | exact hRo _ _ | assumption | exact ⟨by omega, by omega⟩) dX4_arc_27 (by decide) (fun h4 => ?_) (fun h4 => ?_)
        · refine q_iconst (pc := 34) C dX4_arc_34 ?_
          exact J 0 (Or.inr (Or.inr ⟨rfl, by omega, by omega⟩))
        · refine q_iconst (pc := 30) C dX4_arc_30 ?_
          refine q_goto (pc := 31) (tgt := 35) C dX4_arc_31 (by decide) ?_
          exact J 2 (Or.inr (Or.inl ⟨rfl, by omega, by omega⟩))
    · have h2' := bI_1.mp (show bI (¬ (0 ≤ t ∧ t < (T : Int))) = 1 by omega)
      refine q_iconst (pc := 17) C dX4_arc_17 ?_
      refine q_goto (pc := 18) (tgt := 35) C dX4_arc_18 (by decide) ?_
      exact J 1 (Or.inl ⟨rfl, by omega⟩)
set_option maxHeartbeats 4000000 in
set_option maxRecDepth 100000 in
theorem m_tokens {l : Launch} (hlf : l.stackTraces = false) (D : va_G) (cy : Nat → ClassId) (B : Nat) {μ : St} {P : Nat} {a n : Int} (ha : InR a) (hn : InR n) (hP : μ 216 1 = P) (h6 : P ≤ 6) : PC l D cy B yX4_tokens wsX4_tokens (r0 1) [.ref (B + 216), iN a, iN n] μ (qn (fun μ2 => (¬ (0 ≤ a ∧ a < P) ∧ μ2 = updS μ 216 0 1) ∨ ((0 ≤ a ∧ a < P) ∧ ¬ (0 ≤ n ∧ n ≤ 9) ∧ μ2 = updS μ 216 0 2) ∨ ((0 ≤ a ∧ a < P) ∧ (0 ≤ n ∧ n ≤ 9) ∧ μ2 = updS (mdS (updS μ 216 0 0)) 217 a n))) noX := by
  refine PC.pre (fun hR => ?_)
  refine q_start (cc := cX4_tokens) (maxL := 3) (ret := none) hlf (by decide +kernel) rfl (by simp [Value.category]) (Nat.le_of_ble_eq_true rfl) ?_
  intro p e s m args below meth c C hret hno
  show PW p l e (r0 1) s m args below meth c D cy B 3 0 0 _ 0 [some (.ref (B + 216)), some (iN a), some (iN n)] [] μ
  have J : ∀ c9 : Int, (c9 = 1 ∧ ¬ (0 ≤ a ∧ a < P)) ∨ (c9 = 2 ∧ (0 ≤ a ∧ a < P) ∧ ¬ (0 ≤ n ∧ n ≤ 9)) ∨ (c9 = 0 ∧ (0 ≤ a ∧ a < P) ∧ (0 ≤ n ∧ n ≤ 9)) → PW p l e (r0 1) s m args below meth c D cy B 3 0 0 (vx_MQ below (Qp D cy B (qn (fun μ2 => (¬ (0 ≤ a ∧ a < P) ∧ μ2 = updS μ 216 0 1) ∨ ((0 ≤ a ∧ a < P) ∧ ¬ (0 ≤ n ∧ n ≤ 9) ∧ μ2 = updS μ 216 0 2) ∨ ((0 ≤ a ∧ a < P) ∧ (0 ≤ n ∧ n ≤ 9) ∧ μ2 = updS (mdS (updS μ 216 0 0)) 217 a n)))) (Xp D cy B noX) args s (r0 1).cells (r0 1).slots (fun q => B ≤ q)) 28 [some (.ref (B + 216)), some (iN a), some (iN n)] [iN c9, .ref (B + 216)] μ := by
    intro c9 hc9
    have hr9 : InR c9 := ⟨by omega, by omega⟩
    refine q_put (pc := 28) (ci := 4) (k := 0) (ki := 0) (ty0 := tyX4) C rfl rfl fiX4_tokens_X4 (by decide) k216 (by decide) rfl (by decide) flX4_tokens_63 rfl tyX4_ok nmX4 rfl rfl rfl (by first | exact hR _ _ | exact hRo _ _ | assumption | exact ⟨by omega, by omega⟩) dX4_tokens_28 ?_
    refine q_aload_n (pc := 31) C dX4_tokens_31 rfl rfl ?_
    refine q_getI (pc := 32) (ci := 4) (k := 0) (ki := 0) C rfl rfl fiX4_tokens_X4 (by decide) k216 (by decide) rfl (by decide) flX4_tokens_63 rfl rfl dX4_tokens_32 ?_
    simp only [updS_ap, Nat.reduceEqDiff, Int.reduceEq, Int.toNat_natCast, false_and, true_and, and_false, and_true, and_self, if_false, if_true, ↓reduceIte]
    refine q_if_le (pc := 35) (tgt := 39) C (by first | exact hR _ _ | exact hRo _ _ | assumption | exact ⟨by omega, by omega⟩) dX4_tokens_35 (by decide) (fun hq => ?_) (fun hq => ?_)
    · have h0 : c9 = 0 := by omega
      subst h0
      refine q_aload_n (pc := 39) C dX4_tokens_39 rfl rfl ?_
      refine q_callV (pc := 40) (As := []) (rest := []) C (m_discard hlf D cy B) (cwV 0 C.2.2.2.2.1 gX4_tokens_X4_discard rfl rfl rfl (by decide +kernel) ⟨Nat.le_of_ble_eq_true rfl, Nat.le_of_ble_eq_true rfl⟩) (ci := 4) rfl k216 (by decide) (by decide) rfl rfl (by first | decide | simp [Value.category]) dX4_tokens_40 (by decide) (fun _ _ h => h.elim) (fun v μ9 hv => ?_)
      have e8 := hv.1
      have e9 := hv.2.symm
      clear hv
      subst e8
      subst e9
      dsimp only [Option.toList, List.cons_append, List.nil_append]
      refine q_aload_n (pc := 43) C dX4_tokens_43 rfl rfl ?_
      refine q_getR (pc := 44) (ci := 4) (k := 3) (r := 217) C rfl fiX4_tokens_X4 (by decide) k216 (by decide) rfl (by decide) flX4_tokens_7 rfl rfl dX4_tokens_44 ?_
      refine q_iload_n (pc := 47) C dX4_tokens_47 rfl rfl ?_
      refine q_iload_n (pc := 48) C dX4_tokens_48 rfl rfl ?_
      refine q_iastore (pc := 49) C k217 n217 (by decide) (by decide) (by omega) (by omega) (by first | exact hR _ _ | exact hRo _ _ | assumption | exact ⟨by omega, by omega⟩) dX4_tokens_49 ?_
      exact q_vret (pc := 50) C hret ⟨rfl, Or.inr (Or.inr ⟨by omega, by omega, rfl⟩)⟩ (by decide) (by decide) dX4_tokens_50
    · exact q_vret (pc := 38) C hret ⟨rfl, by rcases hc9 with ⟨z, y⟩ | ⟨z, y⟩ | ⟨z, y⟩; exact Or.inl ⟨y, by rw [z]⟩; exact Or.inr (Or.inl ⟨y.1, y.2, by rw [z]⟩); exact absurd hq (by omega)⟩ (by decide) (by decide) dX4_tokens_38
  refine q_aload_n (pc := 0) C dX4_tokens_0 rfl rfl ?_
  refine q_aload_n (pc := 1) C dX4_tokens_1 rfl rfl ?_
  refine q_iload_n (pc := 2) C dX4_tokens_2 rfl rfl ?_
  refine q_callV (pc := 3) (As := [_]) (rest := [_]) C (m_noPlace hlf D cy B (P := P) (n := a) ha hP) (cwV 1 C.2.2.2.2.1 gX4_tokens_X4_noPlace rfl rfl rfl (by decide +kernel) ⟨Nat.le_of_ble_eq_true rfl, Nat.le_of_ble_eq_true rfl⟩) (ci := 4) rfl k216 (by decide) (by decide) rfl rfl (by first | decide | simp [Value.category]) dX4_tokens_3 (by decide) (fun _ _ h => h.elim) (fun v μ9 hv => ?_)
  have e8 := hv.1
  have e9 := hv.2.symm
  clear hv
  subst e8
  subst e9
  dsimp only [Option.toList, List.cons_append, List.nil_append]
  have hb1 := bI_01 (¬ (0 ≤ a ∧ a < (P : Int)))
  refine q_if_eq (pc := 6) (tgt := 13) C (by first | exact hR _ _ | exact hRo _ _ | assumption | exact ⟨by omega, by omega⟩) dX4_tokens_6 (by decide) (fun h2 => ?_) (fun h2 => ?_)
  · have h2' := bI_0.mp h2
    refine q_iload_n (pc := 13) C dX4_tokens_13 rfl rfl ?_
    refine q_if_lt (pc := 14) (tgt := 23) C (by first | exact hR _ _ | exact hRo _ _ | assumption | exact ⟨by omega, by omega⟩) dX4_tokens_14 (by decide) (fun h3 => ?_) (fun h3 => ?_)
    · refine q_iconst (pc := 23) C dX4_tokens_23 ?_
      refine q_goto (pc := 24) (tgt := 28) C dX4_tokens_24 (by decide) ?_
      exact J 2 (Or.inr (Or.inl ⟨rfl, by omega, by omega⟩))
    · refine q_iload_n (pc := 17) C dX4_tokens_17 rfl rfl ?_
      refine q_bipush (pc := 18) C (by decide +kernel) dX4_tokens_18 ?_
      refine q_icmp_le (pc := 20) (tgt := 27) C (by first | exact hR _ _ | exact hRo _ _ | assumption | exact ⟨by omega, by omega⟩) (by first | exact hR _ _ | exact hRo _ _ | assumption | exact ⟨by omega, by omega⟩) dX4_tokens_20 (by decide) (fun h4 => ?_) (fun h4 => ?_)
      · refine q_iconst (pc := 27) C dX4_tokens_27 ?_
        exact J 0 (Or.inr (Or.inr ⟨rfl, by omega, by omega⟩))
      · refine q_iconst (pc := 23) C dX4_tokens_23 ?_
        refine q_goto (pc := 24) (tgt := 28) C dX4_tokens_24 (by decide) ?_
        exact J 2 (Or.inr (Or.inl ⟨rfl, by omega, by omega⟩))
  · have h2' := bI_1.mp (show bI (¬ (0 ≤ a ∧ a < (P : Int))) = 1 by omega)
    refine q_iconst (pc := 9) C dX4_tokens_9 ?_
    refine q_goto (pc := 10) (tgt := 28) C dX4_tokens_10 (by decide) ?_
    exact J 1 (Or.inl ⟨rfl, by omega⟩)
set_option maxHeartbeats 4000000 in
set_option maxRecDepth 100000 in
theorem m_want {l : Launch} (hlf : l.stackTraces = false) (D : va_G) (cy : Nat → ClassId) (B : Nat) {μ : St} {P : Nat} {a n : Int} (ha : InR a) (hn : InR n) (hP : μ 216 1 = P) (h6 : P ≤ 6) : PC l D cy B yX4_want wsX4_want (r0 1) [.ref (B + 216), iN a, iN n] μ (qn (fun μ2 => (¬ (0 ≤ a ∧ a < P) ∧ μ2 = updS μ 216 0 1) ∨ ((0 ≤ a ∧ a < P) ∧ ¬ (0 ≤ n ∧ n ≤ 99) ∧ μ2 = updS μ 216 0 2) ∨ ((0 ≤ a ∧ a < P) ∧ (0 ≤ n ∧ n ≤ 99) ∧ μ2 = updS (updS μ 216 0 0) 218 a n))) noX := by
  refine PC.pre (fun hR => ?_)
  refine q_start (cc := cX4_want) (maxL := 3) (ret := none) hlf (by decide +kernel) rfl (by simp [Value.category]) (Nat.le_of_ble_eq_true rfl) ?_
  intro p e s m args below meth c C hret hno
  show PW p l e (r0 1) s m args below meth c D cy B 3 0 0 _ 0 [some (.ref (B + 216)), some (iN a), some (iN n)] [] μ
  have J : ∀ c9 : Int, (c9 = 1 ∧ ¬ (0 ≤ a ∧ a < P)) ∨ (c9 = 2 ∧ (0 ≤ a ∧ a < P) ∧ ¬ (0 ≤ n ∧ n ≤ 99)) ∨ (c9 = 0 ∧ (0 ≤ a ∧ a < P) ∧ (0 ≤ n ∧ n ≤ 99)) → PW p l e (r0 1) s m args below meth c D cy B 3 0 0 (vx_MQ below (Qp D cy B (qn (fun μ2 => (¬ (0 ≤ a ∧ a < P) ∧ μ2 = updS μ 216 0 1) ∨ ((0 ≤ a ∧ a < P) ∧ ¬ (0 ≤ n ∧ n ≤ 99) ∧ μ2 = updS μ 216 0 2) ∨ ((0 ≤ a ∧ a < P) ∧ (0 ≤ n ∧ n ≤ 99) ∧ μ2 = updS (updS μ 216 0 0) 218 a n)))) (Xp D cy B noX) args s (r0 1).cells (r0 1).slots (fun q => B ≤ q)) 28 [some (.ref (B + 216)), some (iN a), some (iN n)] [iN c9, .ref (B + 216)] μ := by
    intro c9 hc9
    have hr9 : InR c9 := ⟨by omega, by omega⟩
    refine q_put (pc := 28) (ci := 4) (k := 0) (ki := 0) (ty0 := tyX4) C rfl rfl fiX4_want_X4 (by decide) k216 (by decide) rfl (by decide) flX4_want_63 rfl tyX4_ok nmX4 rfl rfl rfl (by first | exact hR _ _ | exact hRo _ _ | assumption | exact ⟨by omega, by omega⟩) dX4_want_28 ?_
    refine q_aload_n (pc := 31) C dX4_want_31 rfl rfl ?_
    refine q_getI (pc := 32) (ci := 4) (k := 0) (ki := 0) C rfl rfl fiX4_want_X4 (by decide) k216 (by decide) rfl (by decide) flX4_want_63 rfl rfl dX4_want_32 ?_
    simp only [updS_ap, Nat.reduceEqDiff, Int.reduceEq, Int.toNat_natCast, false_and, true_and, and_false, and_true, and_self, if_false, if_true, ↓reduceIte]
    refine q_if_ne (pc := 35) (tgt := 45) C (by first | exact hR _ _ | exact hRo _ _ | assumption | exact ⟨by omega, by omega⟩) dX4_want_35 (by decide) (fun hq => ?_) (fun hq => ?_)
    · exact q_vret (pc := 45) C hret ⟨rfl, by rcases hc9 with ⟨z, y⟩ | ⟨z, y⟩ | ⟨z, y⟩; exact Or.inl ⟨y, by rw [z]⟩; exact Or.inr (Or.inl ⟨y.1, y.2, by rw [z]⟩); exact absurd z hq⟩ (by decide) (by decide) dX4_want_45
    · subst hq
      refine q_aload_n (pc := 38) C dX4_want_38 rfl rfl ?_
      refine q_getR (pc := 39) (ci := 4) (k := 4) (r := 218) C rfl fiX4_want_X4 (by decide) k216 (by decide) rfl (by decide) flX4_want_13 rfl rfl dX4_want_39 ?_
      refine q_iload_n (pc := 42) C dX4_want_42 rfl rfl ?_
      refine q_iload_n (pc := 43) C dX4_want_43 rfl rfl ?_
      refine q_iastore (pc := 44) C k218 n218 (by decide) (by decide) (by omega) (by omega) (by first | exact hR _ _ | exact hRo _ _ | assumption | exact ⟨by omega, by omega⟩) dX4_want_44 ?_
      exact q_vret (pc := 45) C hret ⟨rfl, Or.inr (Or.inr ⟨by omega, by omega, rfl⟩)⟩ (by decide) (by decide) dX4_want_45
  refine q_aload_n (pc := 0) C dX4_want_0 rfl rfl ?_
  refine q_aload_n (pc := 1) C dX4_want_1 rfl rfl ?_
  refine q_iload_n (pc := 2) C dX4_want_2 rfl rfl ?_
  refine q_callV (pc := 3) (As := [_]) (rest := [_]) C (m_noPlace hlf D cy B (P := P) (n := a) ha hP) (cwV 1 C.2.2.2.2.1 gX4_want_X4_noPlace rfl rfl rfl (by decide +kernel) ⟨Nat.le_of_ble_eq_true rfl, Nat.le_of_ble_eq_true rfl⟩) (ci := 4) rfl k216 (by decide) (by decide) rfl rfl (by first | decide | simp [Value.category]) dX4_want_3 (by decide) (fun _ _ h => h.elim) (fun v μ9 hv => ?_)
  have e8 := hv.1
  have e9 := hv.2.symm
  clear hv
  subst e8
  subst e9
  dsimp only [Option.toList, List.cons_append, List.nil_append]
  have hb1 := bI_01 (¬ (0 ≤ a ∧ a < (P : Int)))
  refine q_if_eq (pc := 6) (tgt := 13) C (by first | exact hR _ _ | exact hRo _ _ | assumption | exact ⟨by omega, by omega⟩) dX4_want_6 (by decide) (fun h2 => ?_) (fun h2 => ?_)
  · have h2' := bI_0.mp h2
    refine q_iload_n (pc := 13) C dX4_want_13 rfl rfl ?_
    refine q_if_lt (pc := 14) (tgt := 23) C (by first | exact hR _ _ | exact hRo _ _ | assumption | exact ⟨by omega, by omega⟩) dX4_want_14 (by decide) (fun h3 => ?_) (fun h3 => ?_)
    · refine q_iconst (pc := 23) C dX4_want_23 ?_
      refine q_goto (pc := 24) (tgt := 28) C dX4_want_24 (by decide) ?_
      exact J 2 (Or.inr (Or.inl ⟨rfl, by omega, by omega⟩))
    · refine q_iload_n (pc := 17) C dX4_want_17 rfl rfl ?_
      refine q_bipush (pc := 18) C (by decide +kernel) dX4_want_18 ?_
      refine q_icmp_le (pc := 20) (tgt := 27) C (by first | exact hR _ _ | exact hRo _ _ | assumption | exact ⟨by omega, by omega⟩) (by first | exact hR _ _ | exact hRo _ _ | assumption | exact ⟨by omega, by omega⟩) dX4_want_20 (by decide) (fun h4 => ?_) (fun h4 => ?_)
      · refine q_iconst (pc := 27) C dX4_want_27 ?_
        exact J 0 (Or.inr (Or.inr ⟨rfl, by omega, by omega⟩))
      · refine q_iconst (pc := 23) C dX4_want_23 ?_
        refine q_goto (pc := 24) (tgt := 28) C dX4_want_24 (by decide) ?_
        exact J 2 (Or.inr (Or.inl ⟨rfl, by omega, by omega⟩))
  · have h2' := bI_1.mp (show bI (¬ (0 ≤ a ∧ a < (P : Int))) = 1 by omega)
    refine q_iconst (pc := 9) C dX4_want_9 ?_
    refine q_goto (pc := 10) (tgt := 28) C dX4_want_10 (by decide) ?_
    exact J 1 (Or.inl ⟨rfl, by omega⟩)

