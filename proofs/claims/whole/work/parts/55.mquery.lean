theorem fiX4_distance_X4 : ∀ w ∈ u_ws RX4 TX4 22, w ∈ wsX4_distance := by decide +kernel
theorem fiX4_found_X4 : ∀ w ∈ u_ws RX4 TX4 22, w ∈ wsX4_found := by decide +kernel
theorem fiX4_noState_X4 : ∀ w ∈ u_ws RX4 TX4 22, w ∈ wsX4_noState := by decide +kernel
theorem fiX4_reached_X4 : ∀ w ∈ u_ws RX4 TX4 22, w ∈ wsX4_reached := by decide +kernel
theorem fiX4_stops_X4 : ∀ w ∈ u_ws RX4 TX4 22, w ∈ wsX4_stops := by decide +kernel
theorem flX4_distance_51 : Cond.fieldLink RX4 51 RX4 (TX4 18).2.1 (TX4 18).2.2.1 ∈ wsX4_distance := by decide +kernel
theorem flX4_found_51 : Cond.fieldLink RX4 51 RX4 (TX4 18).2.1 (TX4 18).2.2.1 ∈ wsX4_found := by decide +kernel
theorem flX4_found_54 : Cond.fieldLink RX4 54 RX4 (TX4 19).2.1 (TX4 19).2.2.1 ∈ wsX4_found := by decide +kernel
theorem flX4_noState_63 : Cond.fieldLink RX4 63 RX4 (TX4 0).2.1 (TX4 0).2.2.1 ∈ wsX4_noState := by decide +kernel
theorem flX4_noState_42 : Cond.fieldLink RX4 42 RX4 (TX4 15).2.1 (TX4 15).2.2.1 ∈ wsX4_noState := by decide +kernel
theorem flX4_reached_63 : Cond.fieldLink RX4 63 RX4 (TX4 0).2.1 (TX4 0).2.2.1 ∈ wsX4_reached := by decide +kernel
theorem flX4_reached_66 : Cond.fieldLink RX4 66 RX4 (TX4 1).2.1 (TX4 1).2.2.1 ∈ wsX4_reached := by decide +kernel
theorem flX4_reached_13 : Cond.fieldLink RX4 13 RX4 (TX4 4).2.1 (TX4 4).2.2.1 ∈ wsX4_reached := by decide +kernel
theorem flX4_reached_42 : Cond.fieldLink RX4 42 RX4 (TX4 15).2.1 (TX4 15).2.2.1 ∈ wsX4_reached := by decide +kernel
theorem flX4_reached_60 : Cond.fieldLink RX4 60 RX4 (TX4 21).2.1 (TX4 21).2.2.1 ∈ wsX4_reached := by decide +kernel
theorem flX4_stops_63 : Cond.fieldLink RX4 63 RX4 (TX4 0).2.1 (TX4 0).2.2.1 ∈ wsX4_stops := by decide +kernel
theorem flX4_stops_69 : Cond.fieldLink RX4 69 RX4 (TX4 2).2.1 (TX4 2).2.2.1 ∈ wsX4_stops := by decide +kernel
theorem flX4_stops_42 : Cond.fieldLink RX4 42 RX4 (TX4 15).2.1 (TX4 15).2.2.1 ∈ wsX4_stops := by decide +kernel
theorem flX4_stops_48 : Cond.fieldLink RX4 48 RX4 (TX4 17).2.1 (TX4 17).2.2.1 ∈ wsX4_stops := by decide +kernel
set_option maxHeartbeats 4000000 in
set_option maxRecDepth 100000 in
theorem m_noState {l : Launch} (hlf : l.stackTraces = false) (D : va_G) (cy : Nat → ClassId) (B : Nat) {μ : St} {i : Int} (hi : InR i) (hs : μ 216 15 ≤ 40) : PC l D cy B yX4_noState wsX4_noState (r0 0) [.ref (B + 216), iN i] μ (qv (fun v μ2 => (μ 216 15 < 0 ∧ v = 1 ∧ μ2 = updS μ 216 0 1) ∨ (¬ μ 216 15 < 0 ∧ ¬ (0 ≤ i ∧ i < μ 216 15) ∧ v = 1 ∧ μ2 = updS μ 216 0 2) ∨ (¬ μ 216 15 < 0 ∧ (0 ≤ i ∧ i < μ 216 15) ∧ v = 0 ∧ μ2 = updS μ 216 0 0))) noX := by
  refine PC.pre (fun hR => ?_)
  refine q_start (cc := cX4_noState) (maxL := 2) (ret := (some .boolean)) hlf (by decide +kernel) rfl (by simp [Value.category]) (Nat.le_of_ble_eq_true rfl) ?_
  intro p e s m args below meth c C hret hno
  show PW p l e (r0 0) s m args below meth c D cy B 2 0 0 _ 0 [some (.ref (B + 216)), some (iN i)] [] μ
  have J : ∀ c9 : Int, (c9 = 1 ∧ μ 216 15 < 0) ∨ (c9 = 2 ∧ ¬ μ 216 15 < 0 ∧ ¬ (0 ≤ i ∧ i < μ 216 15)) ∨ (c9 = 0 ∧ ¬ μ 216 15 < 0 ∧ (0 ≤ i ∧ i < μ 216 15)) → PW p l e (r0 0) s m args below meth c D cy B 2 0 0 (vx_MQ below (Qp D cy B (qv (fun v μ2 => (μ 216 15 < 0 ∧ v = 1 ∧ μ2 = updS μ 216 0 1) ∨ (¬ μ 216 15 < 0 ∧ ¬ (0 ≤ i ∧ i < μ 216 15) ∧ v = 1 ∧ μ2 = updS μ 216 0 2) ∨ (¬ μ 216 15 < 0 ∧ (0 ≤ i ∧ i < μ 216 15) ∧ v = 0 ∧ μ2 = updS μ 216 0 0)))) (Xp D cy B noX) args s (r0 0).cells (r0 0).slots (fun q => B ≤ q)) 29 [some (.ref (B + 216)), some (iN i)] [iN c9, .ref (B + 216)] μ := by
    intro c9 hc9
    have hr9 : InR c9 := ⟨by omega, by omega⟩
    refine q_put (pc := 29) (ci := 4) (k := 0) (ki := 0) (ty0 := tyX4) C rfl rfl fiX4_noState_X4 (by decide) k216 (by decide) rfl (by decide) flX4_noState_63 rfl tyX4_ok nmX4 rfl rfl rfl (by first | exact hR _ _ | exact hRo _ _ | assumption | exact r_bI _ | exact ⟨by omega, by omega⟩) dX4_noState_29 ?_
    refine q_aload_n (pc := 32) C dX4_noState_32 rfl rfl ?_
    refine q_getI (pc := 33) (ci := 4) (k := 0) (ki := 0) C rfl rfl fiX4_noState_X4 (by decide) k216 (by decide) rfl (by decide) flX4_noState_63 rfl rfl dX4_noState_33 ?_
    simp only [updS_ap, Nat.reduceEqDiff, Int.reduceEq, Int.toNat_natCast, false_and, true_and, and_false, and_true, and_self, if_false, if_true, ↓reduceIte]
    refine q_if_le (pc := 36) (tgt := 43) C (by first | exact hR _ _ | exact hRo _ _ | assumption | exact r_bI _ | exact ⟨by omega, by omega⟩) dX4_noState_36 (by decide) (fun hq => ?_) (fun hq => ?_)
    · have h0 : c9 = 0 := by omega
      subst h0
      refine q_iconst (pc := 43) C dX4_noState_43 ?_
      exact q_zret (pc := 44) C hret (by first | exact Or.inl rfl | exact Or.inr rfl | assumption) ⟨0, r_0, rfl, Or.inr (Or.inr ⟨by omega, by omega, rfl, rfl⟩)⟩ (by decide) (by decide) dX4_noState_44
    · refine q_iconst (pc := 39) C dX4_noState_39 ?_
      refine q_goto (pc := 40) (tgt := 44) C dX4_noState_40 (by decide) ?_
      exact q_zret (pc := 44) C hret (by first | exact Or.inl rfl | exact Or.inr rfl | assumption) ⟨1, ⟨by decide, by decide⟩, rfl, by rcases hc9 with ⟨z, y⟩ | ⟨z, y⟩ | ⟨z, y⟩; exact Or.inl ⟨y, rfl, by rw [z]⟩; exact Or.inr (Or.inl ⟨y.1, y.2, rfl, by rw [z]⟩); exact absurd hq (by omega)⟩ (by decide) (by decide) dX4_noState_44
  refine q_aload_n (pc := 0) C dX4_noState_0 rfl rfl ?_
  refine q_aload_n (pc := 1) C dX4_noState_1 rfl rfl ?_
  refine q_getI (pc := 2) (ci := 4) (k := 15) (ki := 15) C rfl rfl fiX4_noState_X4 (by decide) k216 (by decide) rfl (by decide) flX4_noState_42 rfl rfl dX4_noState_2 ?_
  refine q_if_ge (pc := 5) (tgt := 12) C (by first | exact hR _ _ | exact hRo _ _ | assumption | exact r_bI _ | exact ⟨by omega, by omega⟩) dX4_noState_5 (by decide) (fun h1 => ?_) (fun h1 => ?_)
  · refine q_iload_n (pc := 12) C dX4_noState_12 rfl rfl ?_
    refine q_if_lt (pc := 13) (tgt := 24) C (by first | exact hR _ _ | exact hRo _ _ | assumption | exact r_bI _ | exact ⟨by omega, by omega⟩) dX4_noState_13 (by decide) (fun h2 => ?_) (fun h2 => ?_)
    · refine q_iconst (pc := 24) C dX4_noState_24 ?_
      refine q_goto (pc := 25) (tgt := 29) C dX4_noState_25 (by decide) ?_
      exact J 2 (Or.inr (Or.inl ⟨rfl, by omega, by omega⟩))
    · refine q_iload_n (pc := 16) C dX4_noState_16 rfl rfl ?_
      refine q_aload_n (pc := 17) C dX4_noState_17 rfl rfl ?_
      refine q_getI (pc := 18) (ci := 4) (k := 15) (ki := 15) C rfl rfl fiX4_noState_X4 (by decide) k216 (by decide) rfl (by decide) flX4_noState_42 rfl rfl dX4_noState_18 ?_
      refine q_icmp_lt (pc := 21) (tgt := 28) C (by first | exact hR _ _ | exact hRo _ _ | assumption | exact r_bI _ | exact ⟨by omega, by omega⟩) (by first | exact hR _ _ | exact hRo _ _ | assumption | exact r_bI _ | exact ⟨by omega, by omega⟩) dX4_noState_21 (by decide) (fun h3 => ?_) (fun h3 => ?_)
      · refine q_iconst (pc := 28) C dX4_noState_28 ?_
        exact J 0 (Or.inr (Or.inr ⟨rfl, by omega, by omega⟩))
      · refine q_iconst (pc := 24) C dX4_noState_24 ?_
        refine q_goto (pc := 25) (tgt := 29) C dX4_noState_25 (by decide) ?_
        exact J 2 (Or.inr (Or.inl ⟨rfl, by omega, by omega⟩))
  · refine q_iconst (pc := 8) C dX4_noState_8 ?_
    refine q_goto (pc := 9) (tgt := 29) C dX4_noState_9 (by decide) ?_
    exact J 1 (Or.inl ⟨rfl, by omega⟩)
set_option maxHeartbeats 4000000 in
set_option maxRecDepth 100000 in
theorem m_found {l : Launch} (hlf : l.stackTraces = false) (D : va_G) (cy : Nat → ClassId) (B : Nat) {μ : St} {i z : Int} (hi : InR i) (hz : InR z) (hs : μ 216 15 ≤ 40) : PC l D cy B yX4_found wsX4_found (r0 1) [.ref (B + 216), iN i, iN z] μ (qv (fun v μ2 => (μ 216 15 < 0 ∧ μ2 = updS μ 216 0 1) ∨ (¬ μ 216 15 < 0 ∧ ¬ (0 ≤ i ∧ i < μ 216 15) ∧ μ2 = updS μ 216 0 2) ∨ (¬ μ 216 15 < 0 ∧ (0 ≤ i ∧ i < μ 216 15) ∧ v = (if z = 0 then μ 229 i else μ 228 i) ∧ μ2 = updS μ 216 0 0))) noX := by
  refine PC.pre (fun hR => ?_)
  refine q_start (cc := cX4_found) (maxL := 3) (ret := (some .int)) hlf (by decide +kernel) rfl (by simp [Value.category]) (Nat.le_of_ble_eq_true rfl) ?_
  intro p e s m args below meth c C hret hno
  show PW p l e (r0 1) s m args below meth c D cy B 3 0 0 _ 0 [some (.ref (B + 216)), some (iN i), some (iN z)] [] μ
  refine q_aload_n (pc := 0) C dX4_found_0 rfl rfl ?_
  refine q_iload_n (pc := 1) C dX4_found_1 rfl rfl ?_
  refine q_callV (pc := 2) (As := [_]) (rest := []) C (m_noState hlf D cy B (i := i) hi hs) (cwV 1 C.2.2.2.2.1 gX4_found_X4_noState rfl rfl rfl (by decide +kernel) ⟨Nat.le_of_ble_eq_true rfl, Nat.le_of_ble_eq_true rfl⟩) (ci := 4) rfl k216 (by decide) (by decide) rfl rfl (by first | decide | simp [Value.category]) dX4_found_2 (by decide) (fun _ _ h => h.elim) (fun v κ hv => ?_)
  obtain ⟨v9, hv9, hv1, hcs⟩ := hv
  subst hv1
  dsimp only [Option.toList, List.cons_append, List.nil_append]
  rcases hcs with ⟨y1, y2, y3⟩ | ⟨y1, y2, y3, y4⟩ | ⟨y1, y2, y3, y4⟩
  · subst y2
    refine q_if_eq (pc := 5) (tgt := 10) C (by first | exact hR _ _ | exact hRo _ _ | assumption | exact r_bI _ | exact ⟨by omega, by omega⟩) dX4_found_5 (by decide) (fun hq => ?_) (fun hq => ?_)
    · exact absurd hq (by decide)
    · refine q_iconst (pc := 8) C dX4_found_8 ?_
      exact q_iret (pc := 9) C hret ⟨0, r_0, rfl, Or.inl ⟨y1, y3⟩⟩ (by decide) (by decide) dX4_found_9
  · subst y3
    refine q_if_eq (pc := 5) (tgt := 10) C (by first | exact hR _ _ | exact hRo _ _ | assumption | exact r_bI _ | exact ⟨by omega, by omega⟩) dX4_found_5 (by decide) (fun hq => ?_) (fun hq => ?_)
    · exact absurd hq (by decide)
    · refine q_iconst (pc := 8) C dX4_found_8 ?_
      exact q_iret (pc := 9) C hret ⟨0, r_0, rfl, Or.inr (Or.inl ⟨y1, y2, y4⟩)⟩ (by decide) (by decide) dX4_found_9
  · subst y3
    have hRo := hR
    refine q_if_eq (pc := 5) (tgt := 10) C (by first | exact hR _ _ | exact hRo _ _ | assumption | exact r_bI _ | exact ⟨by omega, by omega⟩) dX4_found_5 (by decide) (fun hq => ?_) (fun hq => ?_)
    · refine q_iload_n (pc := 10) C dX4_found_10 rfl rfl ?_
      refine q_if_eq (pc := 11) (tgt := 23) C (by first | exact hR _ _ | exact hRo _ _ | assumption | exact r_bI _ | exact ⟨by omega, by omega⟩) dX4_found_11 (by decide) (fun hd => ?_) (fun hd => ?_)
      · subst y4
        refine q_aload_n (pc := 23) C dX4_found_23 rfl rfl ?_
        refine q_getR (pc := 24) (ci := 4) (k := 19) (r := 229) C rfl fiX4_found_X4 (by decide) k216 (by decide) rfl (by decide) flX4_found_54 rfl rfl dX4_found_24 ?_
        refine q_iload_n (pc := 27) C dX4_found_27 rfl rfl ?_
        refine q_iaload (pc := 28) C k229 n229 (by decide) (by decide) (by omega) (by omega) dX4_found_28 ?_
        rw [updS_ne _ _ _ _ (by decide)]
        exact q_iret (pc := 29) C hret ⟨_, hRo _ _, rfl, Or.inr (Or.inr ⟨y1, y2, by rw [if_pos hd], rfl⟩)⟩ (by decide) (by decide) dX4_found_29
      · subst y4
        refine q_aload_n (pc := 14) C dX4_found_14 rfl rfl ?_
        refine q_getR (pc := 15) (ci := 4) (k := 18) (r := 228) C rfl fiX4_found_X4 (by decide) k216 (by decide) rfl (by decide) flX4_found_51 rfl rfl dX4_found_15 ?_
        refine q_iload_n (pc := 18) C dX4_found_18 rfl rfl ?_
        refine q_iaload (pc := 19) C k228 n228 (by decide) (by decide) (by omega) (by omega) dX4_found_19 ?_
        rw [updS_ne _ _ _ _ (by decide)]
        refine q_goto (pc := 20) (tgt := 29) C dX4_found_20 (by decide) ?_
        exact q_iret (pc := 29) C hret ⟨_, hRo _ _, rfl, Or.inr (Or.inr ⟨y1, y2, by rw [if_neg hd], rfl⟩)⟩ (by decide) (by decide) dX4_found_29
    · exact absurd rfl hq
def chG (μ : St) (g : Nat) (dp : Nat → Nat) : Prop := ∀ i : Nat, i < g → (i = 0 ∧ dp i = 0) ∨ ∃ j : Nat, j < i ∧ μ 228 i = j ∧ dp i = dp j + 1
theorem chG_le {μ : St} {g : Nat} {dp : Nat → Nat} (h : chG μ g dp) : ∀ i : Nat, i < g → dp i ≤ i := by
  intro i
  induction i using Nat.strongRecOn with
  | ind i ih =>
    intro hi
    rcases h i hi with ⟨e1, e2⟩ | ⟨j, hj, -, h3⟩
    · omega
    · have := ih j hj (by omega)
      omega
set_option maxHeartbeats 4000000 in
set_option maxRecDepth 100000 in
theorem m_distance {l : Launch} (hlf : l.stackTraces = false) (D : va_G) (cy : Nat → ClassId) (B : Nat) {μ : St} {i : Int} {dp : Nat → Nat} (hi : InR i) (hs : μ 216 15 ≤ 40) (hch : chG μ (μ 216 15).toNat dp) : PC l D cy B yX4_distance wsX4_distance (r0 1) [.ref (B + 216), iN i] μ (qv (fun v μ2 => (μ 216 15 < 0 ∧ μ2 = updS μ 216 0 1) ∨ (¬ μ 216 15 < 0 ∧ ¬ (0 ≤ i ∧ i < μ 216 15) ∧ μ2 = updS μ 216 0 2) ∨ (¬ μ 216 15 < 0 ∧ (0 ≤ i ∧ i < μ 216 15) ∧ v = dp i.toNat ∧ μ2 = updS μ 216 0 0))) noX := by
  refine PC.pre (fun hR => ?_)
  refine q_start (cc := cX4_distance) (maxL := 4) (ret := (some .int)) hlf (by decide +kernel) rfl (by simp [Value.category]) (Nat.le_of_ble_eq_true rfl) ?_
  intro p e s m args below meth c C hret hno
  show PW p l e (r0 1) s m args below meth c D cy B 4 0 0 _ 0 [some (.ref (B + 216)), some (iN i), none, none] [] μ
  have L : ¬ μ 216 15 < 0 → (0 ≤ i ∧ i < μ 216 15) → ∀ (d u c9 : Nat), (u : Int) < μ 216 15 → dp u = d → c9 + d = dp i.toNat → PW p l e (r0 1) s m args below meth c D cy B 4 0 0 (vx_MQ below (Qp D cy B (qv (fun v μ2 => (μ 216 15 < 0 ∧ μ2 = updS μ 216 0 1) ∨ (¬ μ 216 15 < 0 ∧ ¬ (0 ≤ i ∧ i < μ 216 15) ∧ μ2 = updS μ 216 0 2) ∨ (¬ μ 216 15 < 0 ∧ (0 ≤ i ∧ i < μ 216 15) ∧ v = dp i.toNat ∧ μ2 = updS μ 216 0 0)))) (Xp D cy B noX) args s (r0 1).cells (r0 1).slots (fun q => B ≤ q)) 14 [some (.ref (B + 216)), some (iN i), some (iN c9), some (iN u)] [] (updS μ 216 0 0) := by
    intro y1 y2 d
    have hle := chG_le hch i.toNat (by omega)
    induction d with
    | zero =>
      intro u c9 hu hd hc
      rcases hch u (by omega) with ⟨e1, e2⟩ | ⟨j, hj, -, h3⟩
      · subst e1
        refine q_iload_n (pc := 14) C dX4_distance_14 rfl rfl ?_
        refine q_if_le (pc := 15) (tgt := 31) C (by first | exact hR _ _ | exact hRo _ _ | assumption | exact r_bI _ | exact ⟨by omega, by omega⟩) dX4_distance_15 (by decide) (fun hq => ?_) (fun hq => ?_)
        · refine q_iload_n (pc := 31) C dX4_distance_31 rfl rfl ?_
          exact q_iret (pc := 32) C hret ⟨c9, ⟨by omega, by omega⟩, rfl, Or.inr (Or.inr ⟨y1, y2, by omega, rfl⟩)⟩ (by decide) (by decide) dX4_distance_32
        · exact absurd hq (by decide)
      · omega
    | succ d ih =>
      intro u c9 hu hd hc
      rcases hch u (by omega) with ⟨e1, e2⟩ | ⟨j, hj, h2, h3⟩
      · omega
      · refine q_iload_n (pc := 14) C dX4_distance_14 rfl rfl ?_
        refine q_if_le (pc := 15) (tgt := 31) C (by first | exact hR _ _ | exact hRo _ _ | assumption | exact r_bI _ | exact ⟨by omega, by omega⟩) dX4_distance_15 (by decide) (fun hq => ?_) (fun hq => ?_)
        · exact absurd hq (by omega)
        · refine q_iinc (pc := 18) (lv2 := [_, _, _, _]) C dX4_distance_18 (by decide) rfl rfl ?_
          refine q_aload_n (pc := 21) C dX4_distance_21 rfl rfl ?_
          refine q_getR (pc := 22) (ci := 4) (k := 18) (r := 228) C rfl fiX4_distance_X4 (by decide) k216 (by decide) rfl (by decide) flX4_distance_51 rfl rfl dX4_distance_22 ?_
          refine q_iload_n (pc := 25) C dX4_distance_25 rfl rfl ?_
          refine q_iaload (pc := 26) C k228 n228 (by decide) (by decide) (by omega) (by omega) dX4_distance_26 ?_
          rw [updS_ne _ _ _ _ (by decide), h2]
          refine q_istore_n (pc := 27) (lv2 := [_, _, _, _]) C dX4_distance_27 rfl (by decide) rfl ?_
          refine q_goto (pc := 28) (tgt := 14) C dX4_distance_28 (by decide) ?_
          exact ih j (c9 + 1) (by omega) (by omega) (by omega)
  refine q_aload_n (pc := 0) C dX4_distance_0 rfl rfl ?_
  refine q_iload_n (pc := 1) C dX4_distance_1 rfl rfl ?_
  refine q_callV (pc := 2) (As := [_]) (rest := []) C (m_noState hlf D cy B (i := i) hi hs) (cwV 1 C.2.2.2.2.1 gX4_distance_X4_noState rfl rfl rfl (by decide +kernel) ⟨Nat.le_of_ble_eq_true rfl, Nat.le_of_ble_eq_true rfl⟩) (ci := 4) rfl k216 (by decide) (by decide) rfl rfl (by first | decide | simp [Value.category]) dX4_distance_2 (by decide) (fun _ _ h => h.elim) (fun v κ hv => ?_)
  obtain ⟨v9, hv9, hv1, hcs⟩ := hv
  subst hv1
  dsimp only [Option.toList, List.cons_append, List.nil_append]
  rcases hcs with ⟨y1, y2, y3⟩ | ⟨y1, y2, y3, y4⟩ | ⟨y1, y2, y3, y4⟩
  · subst y2
    refine q_if_eq (pc := 5) (tgt := 10) C (by first | exact hR _ _ | exact hRo _ _ | assumption | exact r_bI _ | exact ⟨by omega, by omega⟩) dX4_distance_5 (by decide) (fun hq => ?_) (fun hq => ?_)
    · exact absurd hq (by decide)
    · refine q_iconst (pc := 8) C dX4_distance_8 ?_
      exact q_iret (pc := 9) C hret ⟨0, r_0, rfl, Or.inl ⟨y1, y3⟩⟩ (by decide) (by decide) dX4_distance_9
  · subst y3
    refine q_if_eq (pc := 5) (tgt := 10) C (by first | exact hR _ _ | exact hRo _ _ | assumption | exact r_bI _ | exact ⟨by omega, by omega⟩) dX4_distance_5 (by decide) (fun hq => ?_) (fun hq => ?_)
    · exact absurd hq (by decide)
    · refine q_iconst (pc := 8) C dX4_distance_8 ?_
      exact q_iret (pc := 9) C hret ⟨0, r_0, rfl, Or.inr (Or.inl ⟨y1, y2, y4⟩)⟩ (by decide) (by decide) dX4_distance_9
  · subst y3
    subst y4
    have e9 : i = ((i.toNat : Nat) : Int) := by omega
    refine q_if_eq (pc := 5) (tgt := 10) C (by first | exact hR _ _ | exact hRo _ _ | assumption | exact r_bI _ | exact ⟨by omega, by omega⟩) dX4_distance_5 (by decide) (fun hq => ?_) (fun hq => ?_)
    · refine q_iconst (pc := 10) C dX4_distance_10 ?_
      refine q_istore_n (pc := 11) (lv2 := [_, _, _, _]) C dX4_distance_11 rfl (by decide) rfl ?_
      refine q_iload_n (pc := 12) C dX4_distance_12 rfl rfl ?_
      have L0 := L y1 y2 (dp i.toNat) i.toNat 0 (by omega) rfl (by omega)
      rw [← e9] at L0
      refine q_istore_n (pc := 13) (lv2 := [_, _, _, _]) C dX4_distance_13 rfl (by decide) rfl ?_
      exact L0
    · exact absurd rfl hq
set_option maxHeartbeats 4000000 in
set_option maxRecDepth 100000 in
theorem m_reached {l : Launch} (hlf : l.stackTraces = false) (D : va_G) (cy : Nat → ClassId) (B : Nat) {μ : St} {P : Nat} (hP : μ 216 1 = P) (h6 : P ≤ 6) (hs : μ 216 15 ≤ 40) : PC l D cy B yX4_reached wsX4_reached (r0 1) [.ref (B + 216)] μ (qv (fun v μ2 => (μ 216 15 < 0 ∧ μ2 = updS μ 216 0 1) ∨ (¬ μ 216 15 < 0 ∧ μ2 = preS (updS μ 216 0 0) 231 P (fun q => μ 218 q) ∧ v = fnM (preS (updS μ 216 0 0) 231 P (fun q => μ 218 q)) P (μ 216 15).toNat))) noX := by
  refine PC.pre (fun hR => ?_)
  refine q_start (cc := cX4_reached) (maxL := 2) (ret := (some .int)) hlf (by decide +kernel) rfl (by simp [Value.category]) (Nat.le_of_ble_eq_true rfl) ?_
  intro p e s m args below meth c C hret hno
  show PW p l e (r0 1) s m args below meth c D cy B 2 0 0 _ 0 [some (.ref (B + 216)), none] [] μ
  have hRo := hR
  have J : ∀ c9 : Int, (c9 = 1 ∧ μ 216 15 < 0) ∨ (c9 = 0 ∧ ¬ μ 216 15 < 0) → PW p l e (r0 1) s m args below meth c D cy B 2 0 0 (vx_MQ below (Qp D cy B (qv (fun v μ2 => (μ 216 15 < 0 ∧ μ2 = updS μ 216 0 1) ∨ (¬ μ 216 15 < 0 ∧ μ2 = preS (updS μ 216 0 0) 231 P (fun q => μ 218 q) ∧ v = fnM (preS (updS μ 216 0 0) 231 P (fun q => μ 218 q)) P (μ 216 15).toNat)))) (Xp D cy B noX) args s (r0 1).cells (r0 1).slots (fun q => B ≤ q)) 13 [some (.ref (B + 216)), none] [iN c9, .ref (B + 216)] μ := by
    intro c9 hc9
    have hr9 : InR c9 := ⟨by omega, by omega⟩
    refine q_put (pc := 13) (ci := 4) (k := 0) (ki := 0) (ty0 := tyX4) C rfl rfl fiX4_reached_X4 (by decide) k216 (by decide) rfl (by decide) flX4_reached_63 rfl tyX4_ok nmX4 rfl rfl rfl (by first | exact hR _ _ | exact hRo _ _ | assumption | exact r_bI _ | exact ⟨by omega, by omega⟩) dX4_reached_13 ?_
    refine q_aload_n (pc := 16) C dX4_reached_16 rfl rfl ?_
    refine q_getI (pc := 17) (ci := 4) (k := 0) (ki := 0) C rfl rfl fiX4_reached_X4 (by decide) k216 (by decide) rfl (by decide) flX4_reached_63 rfl rfl dX4_reached_17 ?_
    simp only [updS_ap, Nat.reduceEqDiff, Int.reduceEq, Int.toNat_natCast, false_and, true_and, and_false, and_true, and_self, if_false, if_true, ↓reduceIte]
    refine q_if_le (pc := 20) (tgt := 25) C (by first | exact hR _ _ | exact hRo _ _ | assumption | exact r_bI _ | exact ⟨by omega, by omega⟩) dX4_reached_20 (by decide) (fun hq => ?_) (fun hq => ?_)
    · have h0 : c9 = 0 := by omega
      subst h0
      have hnn : ¬ μ 216 15 < 0 := by omega
      have L : ∀ i : Nat, i ≤ P → PW p l e (r0 1) s m args below meth c D cy B 2 0 0 (vx_MQ below (Qp D cy B (qv (fun v μ2 => (μ 216 15 < 0 ∧ μ2 = updS μ 216 0 1) ∨ (¬ μ 216 15 < 0 ∧ μ2 = preS (updS μ 216 0 0) 231 P (fun q => μ 218 q) ∧ v = fnM (preS (updS μ 216 0 0) 231 P (fun q => μ 218 q)) P (μ 216 15).toNat)))) (Xp D cy B noX) args s (r0 1).cells (r0 1).slots (fun q => B ≤ q)) 27 [some (.ref (B + 216)), some (iN i)] [] (preS (updS μ 216 0 0) 231 i (fun q => μ 218 q)) := by
        refine up_to P _ (fun i hi ih => ?_)
        have y1 : preS (updS μ 216 0 0) 231 i (fun q => μ 218 q) 216 1 = P := by rw [preS_ne _ _ _ _ (by decide), updS_nk _ _ _ _ (by decide), hP]
        refine q_rng (fun hR => ?_)
        refine q_iload_n (pc := 27) C dX4_reached_27 rfl rfl ?_
        refine q_aload_n (pc := 28) C dX4_reached_28 rfl rfl ?_
        refine q_getI (pc := 29) (ci := 4) (k := 1) (ki := 1) C rfl rfl fiX4_reached_X4 (by decide) k216 (by decide) rfl (by decide) flX4_reached_66 rfl rfl dX4_reached_29 ?_
        refine q_icmp_ge (pc := 32) (tgt := 53) C (by first | exact hR _ _ | exact hRo _ _ | assumption | exact r_bI _ | exact ⟨by omega, by omega⟩) (by first | exact hR _ _ | exact hRo _ _ | assumption | exact r_bI _ | exact ⟨by omega, by omega⟩) dX4_reached_32 (by decide) (fun hc => ?_) (fun hc => ?_)
        · have e : i = P := by omega
          subst e
          have y15 : preS (updS μ 216 0 0) 231 i (fun q => μ 218 q) 216 15 = (((μ 216 15).toNat : Nat) : Int) := by rw [preS_ne _ _ _ _ (by decide), updS_nk _ _ _ _ (by decide)]; omega
          refine q_aload_n (pc := 53) C dX4_reached_53 rfl rfl ?_
          refine q_callV (pc := 54) (As := []) (rest := []) C (m_find hlf D cy B (P := i) (g := (μ 216 15).toNat) y1 h6 y15 (by omega)) (cwV 0 C.2.2.2.2.1 gX4_reached_X4_find rfl rfl rfl (by decide +kernel) ⟨Nat.le_of_ble_eq_true rfl, Nat.le_of_ble_eq_true rfl⟩) (ci := 4) rfl k216 (by decide) (by decide) rfl rfl (by first | decide | simp [Value.category]) dX4_reached_54 (by decide) (fun _ _ h => h.elim) (fun v μ9 hv => ?_)
          have e8 := hv.1
          have e9 := hv.2.symm
          clear hv
          subst e8
          subst e9
          dsimp only [Option.toList, List.cons_append, List.nil_append]
          obtain ⟨r9, hr9⟩ : ∃ r9 : Int, r9 = fnM (preS (updS μ 216 0 0) 231 i (fun q => μ 218 q)) i (μ 216 15).toNat := ⟨_, rfl⟩
          have hrr : r9 = -2 ∨ (0 ≤ r9 ∧ r9 < 40) := by
            rw [hr9]
            rcases fnd_spec (fun k => ∀ q : Nat, q < i → preS (updS μ 216 0 0) 231 i (fun q => μ 218 q) 226 (ix k q) = preS (updS μ 216 0 0) 231 i (fun q => μ 218 q) 231 q) (μ 216 15).toNat 0 with ⟨z, -⟩ | ⟨j, -, z2, z3, -⟩
            · exact Or.inl z
            · exact Or.inr ⟨by unfold fnM; omega, by unfold fnM; omega⟩
          rw [← hr9]
          rcases Classical.em (r9 = -2) with hc2 | hc2
          · rw [if_pos hc2]
            refine q_istore_n (pc := 57) (lv2 := [_, _]) C dX4_reached_57 rfl (by decide) rfl ?_
            refine q_iload_n (pc := 58) C dX4_reached_58 rfl rfl ?_
            refine q_if_ge (pc := 59) (tgt := 67) C (by first | exact hR _ _ | exact hRo _ _ | assumption | exact r_bI _ | exact ⟨by omega, by omega⟩) dX4_reached_59 (by decide) (fun hd => ?_) (fun hd => ?_)
            · exact absurd hd (by decide)
            · refine q_bipush (pc := 62) C (by decide +kernel) dX4_reached_62 ?_
              refine q_goto (pc := 64) (tgt := 68) C dX4_reached_64 (by decide) ?_
              exact q_iret (pc := 68) C hret ⟨-2, ⟨by decide, by decide⟩, rfl, Or.inr ⟨hnn, rfl, hc2.symm⟩⟩ (by decide) (by decide) dX4_reached_68
          · rw [if_neg hc2]
            refine q_istore_n (pc := 57) (lv2 := [_, _]) C dX4_reached_57 rfl (by decide) rfl ?_
            refine q_iload_n (pc := 58) C dX4_reached_58 rfl rfl ?_
            refine q_if_ge (pc := 59) (tgt := 67) C (by first | exact hR _ _ | exact hRo _ _ | assumption | exact r_bI _ | exact ⟨by omega, by omega⟩) dX4_reached_59 (by decide) (fun hd => ?_) (fun hd => ?_)
            · refine q_iload_n (pc := 67) C dX4_reached_67 rfl rfl ?_
              exact q_iret (pc := 68) C hret ⟨r9, ⟨by omega, by omega⟩, rfl, Or.inr ⟨hnn, rfl, rfl⟩⟩ (by decide) (by decide) dX4_reached_68
            · exact absurd hd (by omega)
        · refine q_aload_n (pc := 35) C dX4_reached_35 rfl rfl ?_
          refine q_getR (pc := 36) (ci := 4) (k := 21) (r := 231) C rfl fiX4_reached_X4 (by decide) k216 (by decide) rfl (by decide) flX4_reached_60 rfl rfl dX4_reached_36 ?_
          refine q_iload_n (pc := 39) C dX4_reached_39 rfl rfl ?_
          refine q_aload_n (pc := 40) C dX4_reached_40 rfl rfl ?_
          refine q_getR (pc := 41) (ci := 4) (k := 4) (r := 218) C rfl fiX4_reached_X4 (by decide) k216 (by decide) rfl (by decide) flX4_reached_13 rfl rfl dX4_reached_41 ?_
          refine q_iload_n (pc := 44) C dX4_reached_44 rfl rfl ?_
          refine q_iaload (pc := 45) C k218 n218 (by decide) (by decide) (by omega) (by omega) dX4_reached_45 ?_
          rw [preS_ne _ _ _ _ (by decide), updS_ne _ _ _ _ (by decide)]
          have hR := hRo
          refine q_iastore (pc := 46) C k231 n231 (by decide) (by decide) (by omega) (by omega) (by first | exact hR _ _ | exact hRo _ _ | assumption | exact r_bI _ | exact ⟨by omega, by omega⟩) dX4_reached_46 ?_
          refine q_mu (preS_step (updS μ 216 0 0) 231 i (fun q => μ 218 q) rfl) ?_
          refine q_iinc (pc := 47) (lv2 := [_, _]) C dX4_reached_47 (by decide) rfl rfl ?_
          refine q_goto (pc := 50) (tgt := 27) C dX4_reached_50 (by decide) ?_
          exact ih (by omega)
      refine q_iconst (pc := 25) C dX4_reached_25 ?_
      refine q_istore_n (pc := 26) (lv2 := [_, _]) C dX4_reached_26 rfl (by decide) rfl ?_
      refine q_mu (preS_0 (updS μ 216 0 0) 231 (fun q => μ 218 q)).symm ?_
      exact L 0 (by omega)
    · refine q_iconst (pc := 23) C dX4_reached_23 ?_
      exact q_iret (pc := 24) C hret ⟨0, r_0, rfl, by rcases hc9 with ⟨z, y⟩ | ⟨z, y⟩; exact Or.inl ⟨y, by rw [z]⟩; exact absurd hq (by omega)⟩ (by decide) (by decide) dX4_reached_24
  refine q_aload_n (pc := 0) C dX4_reached_0 rfl rfl ?_
  refine q_aload_n (pc := 1) C dX4_reached_1 rfl rfl ?_
  refine q_getI (pc := 2) (ci := 4) (k := 15) (ki := 15) C rfl rfl fiX4_reached_X4 (by decide) k216 (by decide) rfl (by decide) flX4_reached_42 rfl rfl dX4_reached_2 ?_
  refine q_if_ge (pc := 5) (tgt := 12) C (by first | exact hR _ _ | exact hRo _ _ | assumption | exact r_bI _ | exact ⟨by omega, by omega⟩) dX4_reached_5 (by decide) (fun h1 => ?_) (fun h1 => ?_)
  · refine q_iconst (pc := 12) C dX4_reached_12 ?_
    exact J 0 (Or.inr ⟨rfl, by omega⟩)
  · refine q_iconst (pc := 8) C dX4_reached_8 ?_
    refine q_goto (pc := 9) (tgt := 13) C dX4_reached_9 (by decide) ?_
    exact J 1 (Or.inl ⟨rfl, by omega⟩)
def cntM (μ : St) (T : Nat) : Nat → Nat
  | 0 => 0
  | i + 1 => if ∃ t : Nat, t < T ∧ 0 ≤ μ 227 (iy i t) then cntM μ T i else cntM μ T i + 1
theorem cntM_le (μ : St) (T : Nat) : ∀ i, cntM μ T i ≤ i
  | 0 => Nat.le_refl _
  | i + 1 => by
    unfold cntM
    have := cntM_le μ T i
    split <;> omega
set_option maxHeartbeats 4000000 in
set_option maxRecDepth 100000 in
theorem m_stops {l : Launch} (hlf : l.stackTraces = false) (D : va_G) (cy : Nat → ClassId) (B : Nat) {μ : St} {T : Nat} (hT : μ 216 2 = T) (h8 : T ≤ 8) (hs : μ 216 15 ≤ 40) : PC l D cy B yX4_stops wsX4_stops (r0 1) [.ref (B + 216)] μ (qv (fun v μ2 => (μ 216 15 < 0 ∧ μ2 = updS μ 216 0 1) ∨ (¬ μ 216 15 < 0 ∧ v = cntM μ T (μ 216 15).toNat ∧ μ2 = updS μ 216 0 0))) noX := by
  refine PC.pre (fun hR => ?_)
  refine q_start (cc := cX4_stops) (maxL := 5) (ret := (some .int)) hlf (by decide +kernel) rfl (by simp [Value.category]) (Nat.le_of_ble_eq_true rfl) ?_
  intro p e s m args below meth c C hret hno
  show PW p l e (r0 1) s m args below meth c D cy B 5 0 0 _ 0 [some (.ref (B + 216)), none, none, none, none] [] μ
  have hRo := hR
  have J : ∀ c9 : Int, (c9 = 1 ∧ μ 216 15 < 0) ∨ (c9 = 0 ∧ ¬ μ 216 15 < 0) → PW p l e (r0 1) s m args below meth c D cy B 5 0 0 (vx_MQ below (Qp D cy B (qv (fun v μ2 => (μ 216 15 < 0 ∧ μ2 = updS μ 216 0 1) ∨ (¬ μ 216 15 < 0 ∧ v = cntM μ T (μ 216 15).toNat ∧ μ2 = updS μ 216 0 0)))) (Xp D cy B noX) args s (r0 1).cells (r0 1).slots (fun q => B ≤ q)) 13 [some (.ref (B + 216)), none, none, none, none] [iN c9, .ref (B + 216)] μ := by
    intro c9 hc9
    have hr9 : InR c9 := ⟨by omega, by omega⟩
    refine q_put (pc := 13) (ci := 4) (k := 0) (ki := 0) (ty0 := tyX4) C rfl rfl fiX4_stops_X4 (by decide) k216 (by decide) rfl (by decide) flX4_stops_63 rfl tyX4_ok nmX4 rfl rfl rfl (by first | exact hR _ _ | exact hRo _ _ | assumption | exact r_bI _ | exact ⟨by omega, by omega⟩) dX4_stops_13 ?_
    obtain ⟨ν, hν⟩ : ∃ ν : St, ν = updS μ 216 0 c9 := ⟨_, rfl⟩
    refine q_mu hν.symm ?_
    have w227 : ∀ k, ν 227 k = μ 227 k := fun k => by rw [hν, updS_ne _ _ _ _ (by decide)]
    have w15 : ν 216 15 = μ 216 15 := by rw [hν, updS_nk _ _ _ _ (by decide)]
    have w2 : ν 216 2 = T := by rw [hν, updS_nk _ _ _ _ (by decide), hT]
    have L : ∀ i : Nat, i ≤ (μ 216 15).toNat → PW p l e (r0 1) s m args below meth c D cy B 5 0 0 (vx_MQ below (Qp D cy B (qv (fun v μ2 => (μ 216 15 < 0 ∧ μ2 = updS μ 216 0 1) ∨ (¬ μ 216 15 < 0 ∧ v = cntM μ T (μ 216 15).toNat ∧ μ2 = updS μ 216 0 0)))) (Xp D cy B noX) args s (r0 1).cells (r0 1).slots (fun q => B ≤ q)) 20 [some (.ref (B + 216)), some (iN (cntM μ T i)), some (iN i), none, none] [] ν := by
      refine up_to _ _ (fun i hi ih => ?_)
      have hcl := cntM_le μ T i
      refine q_rng (fun hR => ?_)
      refine q_iload_n (pc := 20) C dX4_stops_20 rfl rfl ?_
      refine q_aload_n (pc := 21) C dX4_stops_21 rfl rfl ?_
      refine q_getI (pc := 22) (ci := 4) (k := 15) (ki := 15) C rfl rfl fiX4_stops_X4 (by decide) k216 (by decide) rfl (by decide) flX4_stops_42 rfl rfl dX4_stops_22 ?_
      refine q_icmp_ge (pc := 25) (tgt := 91) C (by first | exact hR _ _ | exact hRo _ _ | assumption | exact r_bI _ | exact ⟨by omega, by omega⟩) (by first | exact hR _ _ | exact hRo _ _ | assumption | exact r_bI _ | exact ⟨by omega, by omega⟩) dX4_stops_25 (by decide) (fun hc => ?_) (fun hc => ?_)
      · have e : i = (μ 216 15).toNat := by omega
        refine q_iload_n (pc := 91) C dX4_stops_91 rfl rfl ?_
        exact q_iret (pc := 92) C hret ⟨cntM μ T i, ⟨by omega, by omega⟩, rfl, by rcases hc9 with ⟨z, y⟩ | ⟨z, y⟩; exact Or.inl ⟨y, by rw [hν, z]⟩; exact Or.inr ⟨y, by rw [e], by rw [hν, z]⟩⟩ (by decide) (by decide) dX4_stops_92
      · have IN : ∀ k : Nat, k ≤ T → PW p l e (r0 1) s m args below meth c D cy B 5 0 0 (vx_MQ below (Qp D cy B (qv (fun v μ2 => (μ 216 15 < 0 ∧ μ2 = updS μ 216 0 1) ∨ (¬ μ 216 15 < 0 ∧ v = cntM μ T (μ 216 15).toNat ∧ μ2 = updS μ 216 0 0)))) (Xp D cy B noX) args s (r0 1).cells (r0 1).slots (fun q => B ≤ q)) 33 [some (.ref (B + 216)), some (iN (cntM μ T i)), some (iN i), some (iN (bI (∃ t : Nat, t < k ∧ 0 ≤ μ 227 (iy i t)))), some (iN k)] [] ν := by
          refine up_to T _ (fun k hk ihk => ?_)
          have hz2 := bI_01 (∃ t : Nat, t < k ∧ 0 ≤ μ 227 (iy i t))
          have J2 : ∀ b : Int, b = bI (∃ t : Nat, t < k + 1 ∧ 0 ≤ μ 227 (iy i t)) → k < T → PW p l e (r0 1) s m args below meth c D cy B 5 0 0 (vx_MQ below (Qp D cy B (qv (fun v μ2 => (μ 216 15 < 0 ∧ μ2 = updS μ 216 0 1) ∨ (¬ μ 216 15 < 0 ∧ v = cntM μ T (μ 216 15).toNat ∧ μ2 = updS μ 216 0 0)))) (Xp D cy B noX) args s (r0 1).cells (r0 1).slots (fun q => B ≤ q)) 66 [some (.ref (B + 216)), some (iN (cntM μ T i)), some (iN i), some (iN (bI (∃ t : Nat, t < k ∧ 0 ≤ μ 227 (iy i t)))), some (iN k)] [iN b] ν := by
            intro b hb hkP
            rw [hb]
            refine q_istore_n (pc := 66) (lv2 := [_, _, _, _, _]) C dX4_stops_66 rfl (by decide) rfl ?_
            refine q_iinc (pc := 67) (lv2 := [_, _, _, _, _]) C dX4_stops_67 (by decide) rfl rfl ?_
            refine q_goto (pc := 70) (tgt := 33) C dX4_stops_70 (by decide) ?_
            exact ihk hkP
          have J3 : ∀ b : Nat, b = cntM μ T (i + 1) → PW p l e (r0 1) s m args below meth c D cy B 5 0 0 (vx_MQ below (Qp D cy B (qv (fun v μ2 => (μ 216 15 < 0 ∧ μ2 = updS μ 216 0 1) ∨ (¬ μ 216 15 < 0 ∧ v = cntM μ T (μ 216 15).toNat ∧ μ2 = updS μ 216 0 0)))) (Xp D cy B noX) args s (r0 1).cells (r0 1).slots (fun q => B ≤ q)) 84 [some (.ref (B + 216)), some (iN (cntM μ T i)), some (iN i), some (iN (bI (∃ t : Nat, t < k ∧ 0 ≤ μ 227 (iy i t)))), some (iN k)] [iN b] ν := by
            intro b hb
            rw [hb]
            refine q_istore_n (pc := 84) (lv2 := [_, _, _, _, _]) C dX4_stops_84 rfl (by decide) rfl ?_
            refine q_drop 3 (lv2 := [_, _, _, none, _]) rfl ?_
            refine q_drop 4 (lv2 := [_, _, _, _, none]) rfl ?_
            refine q_iinc (pc := 85) (lv2 := [_, _, _, _, _]) C dX4_stops_85 (by decide) rfl rfl ?_
            refine q_goto (pc := 88) (tgt := 20) C dX4_stops_88 (by decide) ?_
            exact ih (by omega)
          refine q_iload (pc := 33) C dX4_stops_33 rfl ?_
          refine q_aload_n (pc := 35) C dX4_stops_35 rfl rfl ?_
          refine q_getI (pc := 36) (ci := 4) (k := 2) (ki := 2) C rfl rfl fiX4_stops_X4 (by decide) k216 (by decide) rfl (by decide) flX4_stops_69 rfl rfl dX4_stops_36 ?_
          refine q_icmp_ge (pc := 39) (tgt := 73) C (by first | exact hR _ _ | exact hRo _ _ | assumption | exact r_bI _ | exact ⟨by omega, by omega⟩) (by first | exact hR _ _ | exact hRo _ _ | assumption | exact r_bI _ | exact ⟨by omega, by omega⟩) dX4_stops_39 (by decide) (fun hd => ?_) (fun hd => ?_)
          · have e : k = T := by omega
            refine q_iload_n (pc := 73) C dX4_stops_73 rfl rfl ?_
            refine q_if_eq (pc := 74) (tgt := 81) C (by first | exact hR _ _ | exact hRo _ _ | assumption | exact r_bI _ | exact ⟨by omega, by omega⟩) dX4_stops_74 (by decide) (fun he => ?_) (fun he => ?_)
            · have hno := bI_0.mp he
              rw [e] at hno
              refine q_iload_n (pc := 81) C dX4_stops_81 rfl rfl ?_
              refine q_iconst (pc := 82) C dX4_stops_82 ?_
              refine q_iadd (pc := 83) C dX4_stops_83 ?_
              rw [show (cntM μ T i : Int) + 1 = ((cntM μ T i + 1 : Nat) : Int) by omega]
              refine J3 _ ?_
              show _ = if ∃ t : Nat, t < T ∧ 0 ≤ μ 227 (iy i t) then cntM μ T i else cntM μ T i + 1
              rw [if_neg hno]
            · have hyes := bI_1.mp (show bI (∃ t : Nat, t < k ∧ 0 ≤ μ 227 (iy i t)) = 1 by omega)
              rw [e] at hyes
              refine q_iload_n (pc := 77) C dX4_stops_77 rfl rfl ?_
              refine q_goto (pc := 78) (tgt := 84) C dX4_stops_78 (by decide) ?_
              refine J3 _ ?_
              show _ = if ∃ t : Nat, t < T ∧ 0 ≤ μ 227 (iy i t) then cntM μ T i else cntM μ T i + 1
              rw [if_pos hyes]
          · refine q_iload_n (pc := 42) C dX4_stops_42 rfl rfl ?_
            refine q_if_ne (pc := 43) (tgt := 61) C (by first | exact hR _ _ | exact hRo _ _ | assumption | exact r_bI _ | exact ⟨by omega, by omega⟩) dX4_stops_43 (by decide) (fun he => ?_) (fun he => ?_)
            · refine q_iconst (pc := 61) C dX4_stops_61 ?_
              refine q_goto (pc := 62) (tgt := 66) C dX4_stops_62 (by decide) ?_
              obtain ⟨j, hj, hj2⟩ := bI_1.mp (show bI (∃ t : Nat, t < k ∧ 0 ≤ μ 227 (iy i t)) = 1 by omega)
              exact J2 1 (bI_t ⟨j, by omega, hj2⟩).symm (by omega)
            · have hno := bI_0.mp (show bI (∃ t : Nat, t < k ∧ 0 ≤ μ 227 (iy i t)) = 0 by omega)
              refine q_aload_n (pc := 46) C dX4_stops_46 rfl rfl ?_
              refine q_getR (pc := 47) (ci := 4) (k := 17) (r := 227) C rfl fiX4_stops_X4 (by decide) k216 (by decide) rfl (by decide) flX4_stops_48 rfl rfl dX4_stops_47 ?_
              refine q_bipush (pc := 50) C (by decide +kernel) dX4_stops_50 ?_
              refine q_iload_n (pc := 52) C dX4_stops_52 rfl rfl ?_
              refine q_imul (pc := 53) C dX4_stops_53 ?_
              refine q_iload (pc := 54) C dX4_stops_54 rfl ?_
              refine q_iadd (pc := 56) C dX4_stops_56 ?_
              refine q_iaload (pc := 57) C k227 n227 (by decide) (by decide) (by omega) (by omega) dX4_stops_57 ?_
              rw [w227]
              refine q_if_lt (pc := 58) (tgt := 65) C (by first | exact hR _ _ | exact hRo _ _ | assumption | exact r_bI _ | exact ⟨by omega, by omega⟩) dX4_stops_58 (by decide) (fun hf => ?_) (fun hf => ?_)
              · refine q_iconst (pc := 65) C dX4_stops_65 ?_
                refine J2 0 (bI_f ?_).symm (by omega)
                rintro ⟨j, hj, hj2⟩
                by_cases e : j = k
                · subst e
                  exact absurd hj2 (Int.not_le.mpr hf)
                · exact hno ⟨j, by omega, hj2⟩
              · refine q_iconst (pc := 61) C dX4_stops_61 ?_
                refine q_goto (pc := 62) (tgt := 66) C dX4_stops_62 (by decide) ?_
                exact J2 1 (bI_t ⟨k, by omega, Int.not_lt.mp hf⟩).symm (by omega)
        have I0 := IN 0 (by omega)
        rw [show bI (∃ t : Nat, t < 0 ∧ 0 ≤ μ 227 (iy i t)) = 0 from bI_f (by rintro ⟨j, hj, -⟩; omega)] at I0
        refine q_iconst (pc := 28) C dX4_stops_28 ?_
        refine q_istore_n (pc := 29) (lv2 := [_, _, _, _, _]) C dX4_stops_29 rfl (by decide) rfl ?_
        refine q_iconst (pc := 30) C dX4_stops_30 ?_
        refine q_istore (pc := 31) (lv2 := [_, _, _, _, _]) C dX4_stops_31 (by decide) rfl ?_
        exact I0
    refine q_iconst (pc := 16) C dX4_stops_16 ?_
    refine q_istore_n (pc := 17) (lv2 := [_, _, _, _, _]) C dX4_stops_17 rfl (by decide) rfl ?_
    refine q_iconst (pc := 18) C dX4_stops_18 ?_
    refine q_istore_n (pc := 19) (lv2 := [_, _, _, _, _]) C dX4_stops_19 rfl (by decide) rfl ?_
    exact L 0 (by omega)
  refine q_aload_n (pc := 0) C dX4_stops_0 rfl rfl ?_
  refine q_aload_n (pc := 1) C dX4_stops_1 rfl rfl ?_
  refine q_getI (pc := 2) (ci := 4) (k := 15) (ki := 15) C rfl rfl fiX4_stops_X4 (by decide) k216 (by decide) rfl (by decide) flX4_stops_42 rfl rfl dX4_stops_2 ?_
  refine q_if_ge (pc := 5) (tgt := 12) C (by first | exact hR _ _ | exact hRo _ _ | assumption | exact r_bI _ | exact ⟨by omega, by omega⟩) dX4_stops_5 (by decide) (fun h1 => ?_) (fun h1 => ?_)
  · refine q_iconst (pc := 12) C dX4_stops_12 ?_
    exact J 0 (Or.inr ⟨rfl, by omega⟩)
  · refine q_iconst (pc := 8) C dX4_stops_8 ?_
    refine q_goto (pc := 9) (tgt := 13) C dX4_stops_9 (by decide) ?_
    exact J 1 (Or.inl ⟨rfl, by omega⟩)

