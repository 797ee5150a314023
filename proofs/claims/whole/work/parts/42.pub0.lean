theorem fiX3_arc_X3 : ∀ w ∈ u_ws RX3 TX3 4, w ∈ wsX3_arc := by decide +kernel
theorem fiX3_explore_X2 : ∀ w ∈ u_ws RX2 TX2 9, w ∈ wsX3_explore := by decide +kernel
theorem fiX3_explore_X3 : ∀ w ∈ u_ws RX3 TX3 4, w ∈ wsX3_explore := by decide +kernel
theorem fiX3_place_X1 : ∀ w ∈ u_ws RX1 TX1 5, w ∈ wsX3_place := by decide +kernel
theorem fiX3_place_X3 : ∀ w ∈ u_ws RX3 TX3 4, w ∈ wsX3_place := by decide +kernel
theorem fiX3_tokens_X1 : ∀ w ∈ u_ws RX1 TX1 5, w ∈ wsX3_tokens := by decide +kernel
theorem fiX3_tokens_X3 : ∀ w ∈ u_ws RX3 TX3 4, w ∈ wsX3_tokens := by decide +kernel
theorem fiX3_transition_X1 : ∀ w ∈ u_ws RX1 TX1 5, w ∈ wsX3_transition := by decide +kernel
theorem fiX3_transition_X3 : ∀ w ∈ u_ws RX3 TX3 4, w ∈ wsX3_transition := by decide +kernel
theorem fiX3_want_X3 : ∀ w ∈ u_ws RX3 TX3 4, w ∈ wsX3_want := by decide +kernel
theorem flX3_arc_10 : Cond.fieldLink RX3 10 RX3 (TX3 0).2.1 (TX3 0).2.2.1 ∈ wsX3_arc := by decide +kernel
theorem flX3_explore_25 : Cond.fieldLink RX3 25 RX3 (TX3 2).2.1 (TX3 2).2.2.1 ∈ wsX3_explore := by decide +kernel
theorem flX3_place_10 : Cond.fieldLink RX3 10 RX3 (TX3 0).2.1 (TX3 0).2.2.1 ∈ wsX3_place := by decide +kernel
theorem flX3_tokens_10 : Cond.fieldLink RX3 10 RX3 (TX3 0).2.1 (TX3 0).2.2.1 ∈ wsX3_tokens := by decide +kernel
theorem flX3_transition_10 : Cond.fieldLink RX3 10 RX3 (TX3 0).2.1 (TX3 0).2.2.1 ∈ wsX3_transition := by decide +kernel
theorem flX3_want_16 : Cond.fieldLink RX3 16 RX3 (TX3 1).2.1 (TX3 1).2.2.1 ∈ wsX3_want := by decide +kernel
theorem hatX3_X3_explore_89 : ∀ w ∈ (vx_atS RX3 89 "java/lang/UnsupportedOperationException" ["java/lang/RuntimeException", "java/lang/Exception"]).filter goodWord, w ∈ wsX3_explore := by decide +kernel
theorem hatX3_X3_place_48 : ∀ w ∈ (vx_atS RX3 48 "java/lang/IllegalStateException" ["java/lang/RuntimeException", "java/lang/Exception"]).filter goodWord, w ∈ wsX3_place := by decide +kernel
theorem hatX3_X3_transition_48 : ∀ w ∈ (vx_atS RX3 48 "java/lang/IllegalStateException" ["java/lang/RuntimeException", "java/lang/Exception"]).filter goodWord, w ∈ wsX3_transition := by decide +kernel
theorem r_if {q : Prop} [Decidable q] {x y : Int} (hx : InR x) (hy : InR y) : InR (if q then x else y) := by
  split
  · exact hx
  · exact hy
theorem r_bI (q : Prop) [Decidable q] : InR (bI q) := by
  rcases bI_01 q with h | h <;> rw [h] <;> exact ⟨by decide, by decide⟩
def exfr (μ σ : St) : Prop := ∀ x k, x ≠ 22 → (x < 24 ∨ 128 ≤ x) → σ x k = μ x k
set_option maxHeartbeats 4000000 in
set_option maxRecDepth 100000 in
theorem c_place {l : Launch} (hlf : l.stackTraces = false) (D : va_G) (cy : Nat → ClassId) (B : Nat) {μ : St} {P : Nat} {t : Int} (ht : InR t) (hP : μ 1 0 = P) (h6 : P ≤ 6) : PC l D cy B yX3_place wsX3_place ((rk 3 7)) [.ref (B + 0), iN t] μ (qv (fun v μ2 => (0 ≤ t ∧ t ≤ 9) ∧ P < 6 ∧ v = P ∧ μ2 = updS (updS (disS μ) 2 P t) 1 0 (P + 1))) (ex2 sIA (fun μ2 => ¬ (0 ≤ t ∧ t ≤ 9) ∧ μ2 = μ) sIS (fun μ2 => (0 ≤ t ∧ t ≤ 9) ∧ P = 6 ∧ μ2 = μ)) := by
  refine PC.pre (fun hR => ?_)
  refine q_start (cc := cX3_place) (maxL := 2) (ret := (some .int)) hlf (by decide +kernel) rfl (by simp [Value.category]) (Nat.le_of_ble_eq_true rfl) ?_
  intro p e s m args below meth c C hret hno
  show PW p l e ((rk 3 7)) s m args below meth c D cy B 2 0 0 _ 0 [some (.ref (B + 0)), some (iN t)] [] μ
  refine q_iload_n (pc := 0) C dX3_place_0 rfl rfl ?_
  refine q_bipush (pc := 1) C (by decide +kernel) dX3_place_1 ?_
  refine q_callS (pc := 3) (As := [_, _]) (rest := []) C (c_needRange hlf D cy B (n := t) (i := 9) ht ⟨by omega, by omega⟩) (va_cwS 2 C.2.2.2.2.1 gX3_place_X3_needRange rfl rfl rfl (by decide +kernel) ⟨Nat.le_of_ble_eq_true rfl, Nat.le_of_ble_eq_true rfl⟩) rfl rfl (by first | decide | simp [Value.category]) dX3_place_3 (by decide) (fun E μ8 hx => q_out C hno (Or.inl hx) (Nat.le_of_ble_eq_true rfl) (Nat.le_of_ble_eq_true rfl)) (fun v σ9 hv => ?_)
  obtain ⟨hv1, hr, hv2⟩ := hv
  subst hv1
  have hv2 := hv2.symm
  subst hv2
  dsimp only [Option.toList, List.cons_append, List.nil_append]
  refine q_aload_n (pc := 6) C dX3_place_6 rfl rfl ?_
  refine q_getR (pc := 7) (ci := 3) (k := 0) (r := 1) C rfl fiX3_place_X3 (by decide) k0 (by decide) rfl (by decide) flX3_place_10 rfl rfl dX3_place_7 ?_
  refine q_getIN (pc := 10) (ci := 1) (k := 0) (ki := 0) C rfl rfl fiX3_place_X1 (by decide) k1 (by decide) rfl (by decide) (by decide +kernel) rfl rfl dX3_place_10 ?_
  refine q_bipush (pc := 13) C (by decide +kernel) dX3_place_13 ?_
  refine q_icmp_ne (pc := 15) (tgt := 28) C (by first | exact hR _ _ | exact hRo _ _ | assumption | exact ⟨by omega, by omega⟩) (by first | exact hR _ _ | exact hRo _ _ | assumption | exact ⟨by omega, by omega⟩) dX3_place_15 (by decide) (fun hc => ?_) (fun hc => ?_)
  · refine q_aload_n (pc := 28) C dX3_place_28 rfl rfl ?_
    refine q_callV (pc := 29) (As := []) (rest := []) C (c_discard hlf D cy B) (cwV 0 C.2.2.2.2.1 gX3_place_X3_discard rfl rfl rfl (by decide +kernel) ⟨Nat.le_of_ble_eq_true rfl, Nat.le_of_ble_eq_true rfl⟩) (ci := 3) rfl k0 (by decide) (by decide) rfl rfl (by first | decide | simp [Value.category]) dX3_place_29 (by decide) (fun _ _ h => h.elim) (fun v μ9 hv => ?_)
    have e8 := hv.1
    have e9 := hv.2.symm
    clear hv
    subst e8
    subst e9
    dsimp only [Option.toList, List.cons_append, List.nil_append]
    have e1 : disS μ 1 0 = P := by rw [disS_ne _ (by decide) (by decide), hP]
    refine q_aload_n (pc := 32) C dX3_place_32 rfl rfl ?_
    refine q_getR (pc := 33) (ci := 3) (k := 0) (r := 1) C rfl fiX3_place_X3 (by decide) k0 (by decide) rfl (by decide) flX3_place_10 rfl rfl dX3_place_33 ?_
    refine q_iload_n (pc := 36) C dX3_place_36 rfl rfl ?_
    refine q_callV (pc := 37) (As := [_]) (rest := []) C (c_addPlace hlf D cy B (t := t) ht (by omega) (by omega)) (cwV 1 C.2.2.2.2.1 gX3_place_X1_addPlace rfl rfl rfl (by decide +kernel) ⟨Nat.le_of_ble_eq_true rfl, Nat.le_of_ble_eq_true rfl⟩) (ci := 1) rfl k1 (by decide) (by decide) rfl rfl (by first | decide | simp [Value.category]) dX3_place_37 (by decide) (fun _ _ h => h.elim) (fun v σ8 hv => ?_)
    obtain ⟨hv1, hv2⟩ := hv
    rw [e1] at hv1 hv2
    subst hv1
    have hv2 := hv2.symm
    subst hv2
    dsimp only [Option.toList, List.cons_append, List.nil_append]
    exact q_iret (pc := 40) C hret ⟨P, ⟨by omega, by omega⟩, rfl, hr, by omega, rfl, rfl⟩ (by decide) (by decide) dX3_place_40
  · exact q_throw (pc := 18) (ik := 44) (is := 46) (ic := 48) (cls := "java/lang/IllegalStateException") (text := "there are all places already") (names := ["java/lang/RuntimeException", "java/lang/Exception"]) C (by decide +kernel) (by decide +kernel) (by decide +kernel) (by decide +kernel) (by decide +kernel) hatX3_X3_place_48 (by decide +kernel) (by decide +kernel) dX3_place_18 dX3_place_21 dX3_place_22 dX3_place_24 dX3_place_27 hno (Nat.le_of_ble_eq_true rfl) (Nat.le_of_ble_eq_true rfl) (by decide) (by decide) (Or.inr ⟨rfl, hr, by omega, rfl⟩) (by decide) (by decide)
set_option maxHeartbeats 4000000 in
set_option maxRecDepth 100000 in
theorem c_transition {l : Launch} (hlf : l.stackTraces = false) (D : va_G) (cy : Nat → ClassId) (B : Nat) {μ : St} {T : Nat} (hT : μ 1 1 = T) (h8 : T ≤ 8) : PC l D cy B yX3_transition wsX3_transition ((rk 3 7)) [.ref (B + 0)] μ (qv (fun v μ2 => T < 8 ∧ v = T ∧ μ2 = updS (disS μ) 1 1 (T + 1))) (ex1 sIS (fun μ2 => T = 8 ∧ μ2 = μ)) := by
  refine PC.pre (fun hR => ?_)
  refine q_start (cc := cX3_transition) (maxL := 1) (ret := (some .int)) hlf (by decide +kernel) rfl (by simp [Value.category]) (Nat.le_of_ble_eq_true rfl) ?_
  intro p e s m args below meth c C hret hno
  show PW p l e ((rk 3 7)) s m args below meth c D cy B 1 0 0 _ 0 [some (.ref (B + 0))] [] μ
  refine q_aload_n (pc := 0) C dX3_transition_0 rfl rfl ?_
  refine q_getR (pc := 1) (ci := 3) (k := 0) (r := 1) C rfl fiX3_transition_X3 (by decide) k0 (by decide) rfl (by decide) flX3_transition_10 rfl rfl dX3_transition_1 ?_
  refine q_getIN (pc := 4) (ci := 1) (k := 1) (ki := 1) C rfl rfl fiX3_transition_X1 (by decide) k1 (by decide) rfl (by decide) (by decide +kernel) rfl rfl dX3_transition_4 ?_
  refine q_bipush (pc := 7) C (by decide +kernel) dX3_transition_7 ?_
  refine q_icmp_ne (pc := 9) (tgt := 22) C (by first | exact hR _ _ | exact hRo _ _ | assumption | exact ⟨by omega, by omega⟩) (by first | exact hR _ _ | exact hRo _ _ | assumption | exact ⟨by omega, by omega⟩) dX3_transition_9 (by decide) (fun hc => ?_) (fun hc => ?_)
  · refine q_aload_n (pc := 22) C dX3_transition_22 rfl rfl ?_
    refine q_callV (pc := 23) (As := []) (rest := []) C (c_discard hlf D cy B) (cwV 0 C.2.2.2.2.1 gX3_transition_X3_discard rfl rfl rfl (by decide +kernel) ⟨Nat.le_of_ble_eq_true rfl, Nat.le_of_ble_eq_true rfl⟩) (ci := 3) rfl k0 (by decide) (by decide) rfl rfl (by first | decide | simp [Value.category]) dX3_transition_23 (by decide) (fun _ _ h => h.elim) (fun v μ9 hv => ?_)
    have e8 := hv.1
    have e9 := hv.2.symm
    clear hv
    subst e8
    subst e9
    dsimp only [Option.toList, List.cons_append, List.nil_append]
    have e1 : disS μ 1 1 = T := by rw [disS_ne _ (by decide) (by decide), hT]
    refine q_aload_n (pc := 26) C dX3_transition_26 rfl rfl ?_
    refine q_getR (pc := 27) (ci := 3) (k := 0) (r := 1) C rfl fiX3_transition_X3 (by decide) k0 (by decide) rfl (by decide) flX3_transition_10 rfl rfl dX3_transition_27 ?_
    refine q_callV (pc := 30) (As := []) (rest := []) C (c_addTransition hlf D cy B (by omega) (by omega)) (cwV 0 C.2.2.2.2.1 gX3_transition_X1_addTransition rfl rfl rfl (by decide +kernel) ⟨Nat.le_of_ble_eq_true rfl, Nat.le_of_ble_eq_true rfl⟩) (ci := 1) rfl k1 (by decide) (by decide) rfl rfl (by first | decide | simp [Value.category]) dX3_transition_30 (by decide) (fun _ _ h => h.elim) (fun v σ8 hv => ?_)
    obtain ⟨hv1, hv2⟩ := hv
    rw [e1] at hv1 hv2
    subst hv1
    have hv2 := hv2.symm
    subst hv2
    dsimp only [Option.toList, List.cons_append, List.nil_append]
    exact q_iret (pc := 33) C hret ⟨T, ⟨by omega, by omega⟩, rfl, by omega, rfl, rfl⟩ (by decide) (by decide) dX3_transition_33
  · exact q_throw (pc := 12) (ik := 44) (is := 61) (ic := 48) (cls := "java/lang/IllegalStateException") (text := "there are all transitions already") (names := ["java/lang/RuntimeException", "java/lang/Exception"]) C (by decide +kernel) (by decide +kernel) (by decide +kernel) (by decide +kernel) (by decide +kernel) hatX3_X3_transition_48 (by decide +kernel) (by decide +kernel) dX3_transition_12 dX3_transition_15 dX3_transition_16 dX3_transition_18 dX3_transition_21 hno (Nat.le_of_ble_eq_true rfl) (Nat.le_of_ble_eq_true rfl) (by decide) (by decide) (⟨rfl, by omega, rfl⟩) (by decide) (by decide)
set_option maxHeartbeats 4000000 in
set_option maxRecDepth 100000 in
theorem c_arc {l : Launch} (hlf : l.stackTraces = false) (D : va_G) (cy : Nat → ClassId) (B : Nat) {μ : St} {P T : Nat} {a t n z : Int} (ha : InR a) (ht : InR t) (hn : InR n) (hz : InR z) (hP : μ 1 0 = P) (hT : μ 1 1 = T) (h6 : P ≤ 6) (h8 : T ≤ 8) : PC l D cy B yX3_arc wsX3_arc ((rk 3 7)) [.ref (B + 0), iN a, iN t, iN n, iN z] μ (qv (fun v μ2 => ((0 ≤ a ∧ a < P) ∧ (0 ≤ t ∧ t < T)) ∧ (0 ≤ n ∧ n ≤ 4) ∧ v = (if z = 0 then μ (4 + t.toNat) a else μ (13 + t.toNat) a) ∧ μ2 = (if z = 0 then updS (disS μ) (4 + t.toNat) a n else updS (disS μ) (13 + t.toNat) a n))) (ex2 sIO (fun μ2 => ¬ ((0 ≤ a ∧ a < P) ∧ (0 ≤ t ∧ t < T)) ∧ μ2 = μ) sIA (fun μ2 => ((0 ≤ a ∧ a < P) ∧ (0 ≤ t ∧ t < T)) ∧ ¬ (0 ≤ n ∧ n ≤ 4) ∧ μ2 = μ)) := by
  refine PC.pre (fun hR => ?_)
  refine q_start (cc := cX3_arc) (maxL := 5) (ret := (some .int)) hlf (by decide +kernel) rfl (by simp [Value.category]) (Nat.le_of_ble_eq_true rfl) ?_
  intro p e s m args below meth c C hret hno
  show PW p l e ((rk 3 7)) s m args below meth c D cy B 5 0 0 _ 0 [some (.ref (B + 0)), some (iN a), some (iN t), some (iN n), some (iN z)] [] μ
  refine q_aload_n (pc := 0) C dX3_arc_0 rfl rfl ?_
  refine q_iload_n (pc := 1) C dX3_arc_1 rfl rfl ?_
  refine q_callV (pc := 2) (As := [_]) (rest := []) C (c_needPlace hlf D cy B (P := P) (n := a) ha hP) (cwV 1 C.2.2.2.2.1 gX3_arc_X3_needPlace rfl rfl rfl (by decide +kernel) ⟨Nat.le_of_ble_eq_true rfl, Nat.le_of_ble_eq_true rfl⟩) (ci := 3) rfl k0 (by decide) (by decide) rfl rfl (by first | decide | simp [Value.category]) dX3_arc_2 (by decide) (fun E μ8 hx => q_out C hno (Or.inl ⟨hx.1, fun z9 => hx.2.1 z9.1, hx.2.2⟩) (Nat.le_of_ble_eq_true rfl) (Nat.le_of_ble_eq_true rfl)) (fun v σ9 hv => ?_)
  obtain ⟨hv1, hr1, hv2⟩ := hv
  subst hv1
  have hv2 := hv2.symm
  subst hv2
  dsimp only [Option.toList, List.cons_append, List.nil_append]
  refine q_aload_n (pc := 5) C dX3_arc_5 rfl rfl ?_
  refine q_iload_n (pc := 6) C dX3_arc_6 rfl rfl ?_
  refine q_callV (pc := 7) (As := [_]) (rest := []) C (c_needTransition hlf D cy B (T := T) (n := t) ht hT) (cwV 1 C.2.2.2.2.1 gX3_arc_X3_needTransition rfl rfl rfl (by decide +kernel) ⟨Nat.le_of_ble_eq_true rfl, Nat.le_of_ble_eq_true rfl⟩) (ci := 3) rfl k0 (by decide) (by decide) rfl rfl (by first | decide | simp [Value.category]) dX3_arc_7 (by decide) (fun E μ8 hx => q_out C hno (Or.inl ⟨hx.1, fun z9 => hx.2.1 z9.2, hx.2.2⟩) (Nat.le_of_ble_eq_true rfl) (Nat.le_of_ble_eq_true rfl)) (fun v σ9 hv => ?_)
  obtain ⟨hv1, hr2, hv2⟩ := hv
  subst hv1
  have hv2 := hv2.symm
  subst hv2
  dsimp only [Option.toList, List.cons_append, List.nil_append]
  refine q_iload_n (pc := 10) C dX3_arc_10 rfl rfl ?_
  refine q_iconst (pc := 11) C dX3_arc_11 ?_
  refine q_callS (pc := 12) (As := [_, _]) (rest := []) C (c_needRange hlf D cy B (n := n) (i := 4) hn ⟨by omega, by omega⟩) (va_cwS 2 C.2.2.2.2.1 gX3_arc_X3_needRange rfl rfl rfl (by decide +kernel) ⟨Nat.le_of_ble_eq_true rfl, Nat.le_of_ble_eq_true rfl⟩) rfl rfl (by first | decide | simp [Value.category]) dX3_arc_12 (by decide) (fun E μ8 hx => q_out C hno (Or.inr ⟨hx.1, ⟨hr1, hr2⟩, hx.2.1, hx.2.2⟩) (Nat.le_of_ble_eq_true rfl) (Nat.le_of_ble_eq_true rfl)) (fun v σ9 hv => ?_)
  obtain ⟨hv1, hr3, hv2⟩ := hv
  subst hv1
  have hv2 := hv2.symm
  subst hv2
  dsimp only [Option.toList, List.cons_append, List.nil_append]
  refine q_aload_n (pc := 15) C dX3_arc_15 rfl rfl ?_
  refine q_callV (pc := 16) (As := []) (rest := []) C (c_discard hlf D cy B) (cwV 0 C.2.2.2.2.1 gX3_arc_X3_discard rfl rfl rfl (by decide +kernel) ⟨Nat.le_of_ble_eq_true rfl, Nat.le_of_ble_eq_true rfl⟩) (ci := 3) rfl k0 (by decide) (by decide) rfl rfl (by first | decide | simp [Value.category]) dX3_arc_16 (by decide) (fun _ _ h => h.elim) (fun v μ9 hv => ?_)
  have e8 := hv.1
  have e9 := hv.2.symm
  clear hv
  subst e8
  subst e9
  dsimp only [Option.toList, List.cons_append, List.nil_append]
  obtain ⟨t9, ht9⟩ : ∃ t9 : Nat, t = t9 := ⟨t.toNat, by omega⟩
  subst ht9
  refine q_aload_n (pc := 19) C dX3_arc_19 rfl rfl ?_
  refine q_getR (pc := 20) (ci := 3) (k := 0) (r := 1) C rfl fiX3_arc_X3 (by decide) k0 (by decide) rfl (by decide) flX3_arc_10 rfl rfl dX3_arc_20 ?_
  refine q_iload_n (pc := 23) C dX3_arc_23 rfl rfl ?_
  refine q_iload_n (pc := 24) C dX3_arc_24 rfl rfl ?_
  refine q_iload_n (pc := 25) C dX3_arc_25 rfl rfl ?_
  refine q_iload (pc := 26) C dX3_arc_26 rfl ?_
  refine q_callV (pc := 28) (As := [_, _, _, _]) (rest := []) C (c_setArc hlf D cy B (p0 := a) (t := t9) (n := n) (z := z) hr1.1 (by omega) (by omega) hn hz) (cwV 4 C.2.2.2.2.1 gX3_arc_X1_setArc rfl rfl rfl (by decide +kernel) ⟨Nat.le_of_ble_eq_true rfl, Nat.le_of_ble_eq_true rfl⟩) (ci := 1) rfl k1 (by decide) (by decide) rfl rfl (by first | decide | simp [Value.category]) dX3_arc_28 (by decide) (fun _ _ h => h.elim) (fun v σ8 hv => ?_)
  obtain ⟨hv1, hv2⟩ := hv
  rw [disS_ne _ (x := 4 + t9) (by omega) (by omega), disS_ne _ (x := 13 + t9) (by omega) (by omega)] at hv1
  subst hv1
  have hv2 := hv2.symm
  subst hv2
  dsimp only [Option.toList, List.cons_append, List.nil_append]
  exact q_iret (pc := 31) C hret ⟨_, r_if (hR _ _) (hR _ _), rfl, ⟨hr1, hr2⟩, hr3, rfl, rfl⟩ (by decide) (by decide) dX3_arc_31
set_option maxHeartbeats 4000000 in
set_option maxRecDepth 100000 in
theorem c_tokens {l : Launch} (hlf : l.stackTraces = false) (D : va_G) (cy : Nat → ClassId) (B : Nat) {μ : St} {P : Nat} {a n : Int} (ha : InR a) (hn : InR n) (hP : μ 1 0 = P) (h6 : P ≤ 6) : PC l D cy B yX3_tokens wsX3_tokens ((rk 3 7)) [.ref (B + 0), iN a, iN n] μ (qn (fun μ2 => (0 ≤ a ∧ a < P) ∧ (0 ≤ n ∧ n ≤ 9) ∧ μ2 = updS (disS μ) 2 a n)) (ex2 sIO (fun μ2 => ¬ (0 ≤ a ∧ a < P) ∧ μ2 = μ) sIA (fun μ2 => (0 ≤ a ∧ a < P) ∧ ¬ (0 ≤ n ∧ n ≤ 9) ∧ μ2 = μ)) := by
  refine PC.pre (fun hR => ?_)
  refine q_start (cc := cX3_tokens) (maxL := 3) (ret := none) hlf (by decide +kernel) rfl (by simp [Value.category]) (Nat.le_of_ble_eq_true rfl) ?_
  intro p e s m args below meth c C hret hno
  show PW p l e ((rk 3 7)) s m args below meth c D cy B 3 0 0 _ 0 [some (.ref (B + 0)), some (iN a), some (iN n)] [] μ
  refine q_aload_n (pc := 0) C dX3_tokens_0 rfl rfl ?_
  refine q_iload_n (pc := 1) C dX3_tokens_1 rfl rfl ?_
  refine q_callV (pc := 2) (As := [_]) (rest := []) C (c_needPlace hlf D cy B (P := P) (n := a) ha hP) (cwV 1 C.2.2.2.2.1 gX3_tokens_X3_needPlace rfl rfl rfl (by decide +kernel) ⟨Nat.le_of_ble_eq_true rfl, Nat.le_of_ble_eq_true rfl⟩) (ci := 3) rfl k0 (by decide) (by decide) rfl rfl (by first | decide | simp [Value.category]) dX3_tokens_2 (by decide) (fun E μ8 hx => q_out C hno (Or.inl hx) (Nat.le_of_ble_eq_true rfl) (Nat.le_of_ble_eq_true rfl)) (fun v σ9 hv => ?_)
  obtain ⟨hv1, hr1, hv2⟩ := hv
  subst hv1
  have hv2 := hv2.symm
  subst hv2
  dsimp only [Option.toList, List.cons_append, List.nil_append]
  refine q_iload_n (pc := 5) C dX3_tokens_5 rfl rfl ?_
  refine q_bipush (pc := 6) C (by decide +kernel) dX3_tokens_6 ?_
  refine q_callS (pc := 8) (As := [_, _]) (rest := []) C (c_needRange hlf D cy B (n := n) (i := 9) hn ⟨by omega, by omega⟩) (va_cwS 2 C.2.2.2.2.1 gX3_tokens_X3_needRange rfl rfl rfl (by decide +kernel) ⟨Nat.le_of_ble_eq_true rfl, Nat.le_of_ble_eq_true rfl⟩) rfl rfl (by first | decide | simp [Value.category]) dX3_tokens_8 (by decide) (fun E μ8 hx => q_out C hno (Or.inr ⟨hx.1, hr1, hx.2⟩) (Nat.le_of_ble_eq_true rfl) (Nat.le_of_ble_eq_true rfl)) (fun v σ9 hv => ?_)
  obtain ⟨hv1, hr2, hv2⟩ := hv
  subst hv1
  have hv2 := hv2.symm
  subst hv2
  dsimp only [Option.toList, List.cons_append, List.nil_append]
  refine q_aload_n (pc := 11) C dX3_tokens_11 rfl rfl ?_
  refine q_callV (pc := 12) (As := []) (rest := []) C (c_discard hlf D cy B) (cwV 0 C.2.2.2.2.1 gX3_tokens_X3_discard rfl rfl rfl (by decide +kernel) ⟨Nat.le_of_ble_eq_true rfl, Nat.le_of_ble_eq_true rfl⟩) (ci := 3) rfl k0 (by decide) (by decide) rfl rfl (by first | decide | simp [Value.category]) dX3_tokens_12 (by decide) (fun _ _ h => h.elim) (fun v μ9 hv => ?_)
  have e8 := hv.1
  have e9 := hv.2.symm
  clear hv
  subst e8
  subst e9
  dsimp only [Option.toList, List.cons_append, List.nil_append]
  refine q_aload_n (pc := 15) C dX3_tokens_15 rfl rfl ?_
  refine q_getR (pc := 16) (ci := 3) (k := 0) (r := 1) C rfl fiX3_tokens_X3 (by decide) k0 (by decide) rfl (by decide) flX3_tokens_10 rfl rfl dX3_tokens_16 ?_
  refine q_getRN (pc := 19) (ci := 1) (k := 2) (r := 2) C rfl fiX3_tokens_X1 (by decide) k1 (by decide) rfl (by decide) (by decide +kernel) rfl rfl dX3_tokens_19 ?_
  refine q_iload_n (pc := 22) C dX3_tokens_22 rfl rfl ?_
  refine q_iload_n (pc := 23) C dX3_tokens_23 rfl rfl ?_
  refine q_iastore (pc := 24) C k2 n2 (by decide) (by decide) (by omega) (by omega) (by first | exact hR _ _ | exact hRo _ _ | assumption | exact ⟨by omega, by omega⟩) dX3_tokens_24 ?_
  exact q_vret (pc := 25) C hret ⟨rfl, hr1, hr2, rfl⟩ (by decide) (by decide) dX3_tokens_25
set_option maxHeartbeats 4000000 in
set_option maxRecDepth 100000 in
theorem c_want {l : Launch} (hlf : l.stackTraces = false) (D : va_G) (cy : Nat → ClassId) (B : Nat) {μ : St} {P : Nat} {a n : Int} (ha : InR a) (hn : InR n) (hP : μ 1 0 = P) (h6 : P ≤ 6) : PC l D cy B yX3_want wsX3_want ((rk 3 7)) [.ref (B + 0), iN a, iN n] μ (qn (fun μ2 => (0 ≤ a ∧ a < P) ∧ (0 ≤ n ∧ n ≤ 99) ∧ μ2 = updS μ 21 a n)) (ex2 sIO (fun μ2 => ¬ (0 ≤ a ∧ a < P) ∧ μ2 = μ) sIA (fun μ2 => (0 ≤ a ∧ a < P) ∧ ¬ (0 ≤ n ∧ n ≤ 99) ∧ μ2 = μ)) := by
  refine PC.pre (fun hR => ?_)
  refine q_start (cc := cX3_want) (maxL := 3) (ret := none) hlf (by decide +kernel) rfl (by simp [Value.category]) (Nat.le_of_ble_eq_true rfl) ?_
  intro p e s m args below meth c C hret hno
  show PW p l e ((rk 3 7)) s m args below meth c D cy B 3 0 0 _ 0 [some (.ref (B + 0)), some (iN a), some (iN n)] [] μ
  refine q_aload_n (pc := 0) C dX3_want_0 rfl rfl ?_
  refine q_iload_n (pc := 1) C dX3_want_1 rfl rfl ?_
  refine q_callV (pc := 2) (As := [_]) (rest := []) C (c_needPlace hlf D cy B (P := P) (n := a) ha hP) (cwV 1 C.2.2.2.2.1 gX3_want_X3_needPlace rfl rfl rfl (by decide +kernel) ⟨Nat.le_of_ble_eq_true rfl, Nat.le_of_ble_eq_true rfl⟩) (ci := 3) rfl k0 (by decide) (by decide) rfl rfl (by first | decide | simp [Value.category]) dX3_want_2 (by decide) (fun E μ8 hx => q_out C hno (Or.inl hx) (Nat.le_of_ble_eq_true rfl) (Nat.le_of_ble_eq_true rfl)) (fun v σ9 hv => ?_)
  obtain ⟨hv1, hr1, hv2⟩ := hv
  subst hv1
  have hv2 := hv2.symm
  subst hv2
  dsimp only [Option.toList, List.cons_append, List.nil_append]
  refine q_iload_n (pc := 5) C dX3_want_5 rfl rfl ?_
  refine q_bipush (pc := 6) C (by decide +kernel) dX3_want_6 ?_
  refine q_callS (pc := 8) (As := [_, _]) (rest := []) C (c_needRange hlf D cy B (n := n) (i := 99) hn ⟨by omega, by omega⟩) (va_cwS 2 C.2.2.2.2.1 gX3_want_X3_needRange rfl rfl rfl (by decide +kernel) ⟨Nat.le_of_ble_eq_true rfl, Nat.le_of_ble_eq_true rfl⟩) rfl rfl (by first | decide | simp [Value.category]) dX3_want_8 (by decide) (fun E μ8 hx => q_out C hno (Or.inr ⟨hx.1, hr1, hx.2⟩) (Nat.le_of_ble_eq_true rfl) (Nat.le_of_ble_eq_true rfl)) (fun v σ9 hv => ?_)
  obtain ⟨hv1, hr2, hv2⟩ := hv
  subst hv1
  have hv2 := hv2.symm
  subst hv2
  dsimp only [Option.toList, List.cons_append, List.nil_append]
  refine q_aload_n (pc := 11) C dX3_want_11 rfl rfl ?_
  refine q_getR (pc := 12) (ci := 3) (k := 1) (r := 21) C rfl fiX3_want_X3 (by decide) k0 (by decide) rfl (by decide) flX3_want_16 rfl rfl dX3_want_12 ?_
  refine q_iload_n (pc := 15) C dX3_want_15 rfl rfl ?_
  refine q_iload_n (pc := 16) C dX3_want_16 rfl rfl ?_
  refine q_iastore (pc := 17) C k21 n21 (by decide) (by decide) (by omega) (by omega) (by first | exact hR _ _ | exact hRo _ _ | assumption | exact ⟨by omega, by omega⟩) dX3_want_17 ?_
  exact q_vret (pc := 18) C hret ⟨rfl, hr1, hr2, rfl⟩ (by decide) (by decide) dX3_want_18
set_option maxHeartbeats 4000000 in
set_option maxRecDepth 100000 in
theorem c_explore {l : Launch} (hlf : l.stackTraces = false) (D : va_G) (cy : Nat → ClassId) (B : Nat) {μ : St} {P T : Nat} (hN : NI μ P T) : PC l D cy B yX3_explore wsX3_explore ((rk 3 7)) [.ref (B + 0)] μ (qv (fun v μ2 => ∃ n : Nat, runT 900 (rootS (disS μ)) 1 0 0 = (μ2, n, 1) ∧ NI μ2 P T ∧ TI μ2 T n ∧ v = n ∧ exfr (disS μ) μ2)) (ex1 sUO (fun μ2 => ∃ (σ : St) (n : Nat), runT 900 (rootS (disS μ)) 1 0 0 = (σ, n, 2) ∧ NI σ P T ∧ μ2 = updS σ 22 1 0 ∧ exfr (disS μ) σ)) := by
  refine PC.pre (fun hR => ?_)
  refine q_start (cc := cX3_explore) (maxL := 1) (ret := (some .int)) hlf (by decide +kernel) rfl (by simp [Value.category]) (Nat.le_of_ble_eq_true rfl) ?_
  intro p e s m args below meth c C hret hno
  show PW p l e ((rk 3 7)) s m args below meth c D cy B 1 0 0 _ 0 [some (.ref (B + 0))] [] μ
  refine q_aload_n (pc := 0) C dX3_explore_0 rfl rfl ?_
  refine q_callV (pc := 1) (As := []) (rest := []) C (c_discard hlf D cy B) (cwV 0 C.2.2.2.2.1 gX3_explore_X3_discard rfl rfl rfl (by decide +kernel) ⟨Nat.le_of_ble_eq_true rfl, Nat.le_of_ble_eq_true rfl⟩) (ci := 3) rfl k0 (by decide) (by decide) rfl rfl (by first | decide | simp [Value.category]) dX3_explore_1 (by decide) (fun _ _ h => h.elim) (fun v μ9 hv => ?_)
  have e8 := hv.1
  have e9 := hv.2.symm
  clear hv
  subst e8
  subst e9
  dsimp only [Option.toList, List.cons_append, List.nil_append]
  have hN2 : NI (disS μ) P T := NI_ne hN (fun x k hx => disS_ne _ (by omega) (by omega) k)
  refine q_aload_n (pc := 4) C dX3_explore_4 rfl rfl ?_
  refine q_getR (pc := 5) (ci := 3) (k := 2) (r := 22) C rfl fiX3_explore_X3 (by decide) k0 (by decide) rfl (by decide) flX3_explore_25 rfl rfl dX3_explore_5 ?_
  refine q_callV (pc := 8) (As := []) (rest := []) C (c_grow hlf D cy B (P := P) (T := T) hN2) (cwV 0 C.2.2.2.2.1 gX3_explore_X2_grow rfl rfl rfl (by decide +kernel) ⟨Nat.le_of_ble_eq_true rfl, Nat.le_of_ble_eq_true rfl⟩) (ci := 2) rfl k22 (by decide) (by decide) rfl rfl (by first | decide | simp [Value.category]) dX3_explore_8 (by decide) (fun _ _ h => h.elim) (fun v σ9 hv => ?_)
  obtain ⟨σ, n, k, hk, hN3, hT3, hfr, hv⟩ := hv
  rcases hv with ⟨hrun, hv1, hv2⟩ | ⟨hrun, hv1, hv2⟩
  · subst hv1
    have hv2 := hv2.symm
    subst hv2
    dsimp only [Option.toList, List.cons_append, List.nil_append]
    refine q_if_ne (pc := 11) (tgt := 24) C (by first | exact hR _ _ | exact hRo _ _ | assumption | exact ⟨by omega, by omega⟩) dX3_explore_11 (by decide) (fun hq => ?_) (fun hq => ?_)
    · have h1 := hT3.2.1
      have h2 := hT3.2.2.1
      refine q_aload_n (pc := 24) C dX3_explore_24 rfl rfl ?_
      refine q_getR (pc := 25) (ci := 3) (k := 2) (r := 22) C rfl fiX3_explore_X3 (by decide) k0 (by decide) rfl (by decide) flX3_explore_25 rfl rfl dX3_explore_25 ?_
      refine q_getIN (pc := 28) (ci := 2) (k := 1) (ki := 1) C rfl rfl fiX3_explore_X2 (by decide) k22 (by decide) rfl (by decide) (by decide +kernel) rfl rfl dX3_explore_28 ?_
      exact q_iret (pc := 31) C hret ⟨n, ⟨by omega, by omega⟩, by rw [h2], n, hrun, hN3, hT3, rfl, hfr⟩ (by decide) (by decide) dX3_explore_31
    · exact absurd hq (by decide)
  · subst hv1
    have hv2 := hv2.symm
    subst hv2
    dsimp only [Option.toList, List.cons_append, List.nil_append]
    refine q_if_ne (pc := 11) (tgt := 24) C (by first | exact hR _ _ | exact hRo _ _ | assumption | exact ⟨by omega, by omega⟩) dX3_explore_11 (by decide) (fun hq => ?_) (fun hq => ?_)
    · exact absurd rfl hq
    · exact q_throw (pc := 14) (ik := 85) (is := 87) (ic := 89) (cls := "java/lang/UnsupportedOperationException") (text := "the tree has too many nodes") (names := ["java/lang/RuntimeException", "java/lang/Exception"]) C (by decide +kernel) (by decide +kernel) (by decide +kernel) (by decide +kernel) (by decide +kernel) hatX3_X3_explore_89 (by decide +kernel) (by decide +kernel) dX3_explore_14 dX3_explore_17 dX3_explore_18 dX3_explore_20 dX3_explore_23 hno (Nat.le_of_ble_eq_true rfl) (Nat.le_of_ble_eq_true rfl) (by decide) (by decide) (⟨rfl, σ, n, hrun, hN3, rfl, hfr⟩) (by decide) (by decide)

