theorem fiX4_bound_X4 : ∀ w ∈ u_ws RX4 TX4 22, w ∈ wsX4_bound := by decide +kernel
theorem fiX4_count_X4 : ∀ w ∈ u_ws RX4 TX4 22, w ∈ wsX4_count := by decide +kernel
theorem fiX4_greatest_X4 : ∀ w ∈ u_ws RX4 TX4 22, w ∈ wsX4_greatest := by decide +kernel
theorem fiX4_node_X4 : ∀ w ∈ u_ws RX4 TX4 22, w ∈ wsX4_node := by decide +kernel
theorem flX4_bound_63 : Cond.fieldLink RX4 63 RX4 (TX4 0).2.1 (TX4 0).2.2.1 ∈ wsX4_bound := by decide +kernel
theorem flX4_bound_22 : Cond.fieldLink RX4 22 RX4 (TX4 7).2.1 (TX4 7).2.2.1 ∈ wsX4_bound := by decide +kernel
theorem flX4_count_63 : Cond.fieldLink RX4 63 RX4 (TX4 0).2.1 (TX4 0).2.2.1 ∈ wsX4_count := by decide +kernel
theorem flX4_count_22 : Cond.fieldLink RX4 22 RX4 (TX4 7).2.1 (TX4 7).2.2.1 ∈ wsX4_count := by decide +kernel
theorem flX4_count_26 : Cond.fieldLink RX4 26 RX4 (TX4 8).2.1 (TX4 8).2.2.1 ∈ wsX4_count := by decide +kernel
theorem flX4_greatest_22 : Cond.fieldLink RX4 22 RX4 (TX4 7).2.1 (TX4 7).2.2.1 ∈ wsX4_greatest := by decide +kernel
theorem flX4_greatest_26 : Cond.fieldLink RX4 26 RX4 (TX4 8).2.1 (TX4 8).2.2.1 ∈ wsX4_greatest := by decide +kernel
theorem flX4_node_63 : Cond.fieldLink RX4 63 RX4 (TX4 0).2.1 (TX4 0).2.2.1 ∈ wsX4_node := by decide +kernel
theorem flX4_node_22 : Cond.fieldLink RX4 22 RX4 (TX4 7).2.1 (TX4 7).2.2.1 ∈ wsX4_node := by decide +kernel
theorem flX4_node_29 : Cond.fieldLink RX4 29 RX4 (TX4 9).2.1 (TX4 9).2.2.1 ∈ wsX4_node := by decide +kernel
theorem flX4_node_32 : Cond.fieldLink RX4 32 RX4 (TX4 10).2.1 (TX4 10).2.2.1 ∈ wsX4_node := by decide +kernel
theorem flX4_node_38 : Cond.fieldLink RX4 38 RX4 (TX4 12).2.1 (TX4 12).2.2.1 ∈ wsX4_node := by decide +kernel
set_option maxHeartbeats 4000000 in
set_option maxRecDepth 100000 in
theorem m_greatest {l : Launch} (hlf : l.stackTraces = false) (D : va_G) (cy : Nat → ClassId) (B : Nat) {μ : St} {n a : Nat} (ha : a < 6) (hn : n ≤ 100) (hs : μ 216 7 = n) : PC l D cy B yX4_greatest wsX4_greatest (r0 0) [.ref (B + 216), iN a] μ (ret1 (gmax (fun i => μ 221 (ix i a)) n) μ) noX := by
  refine PC.pre (fun hR => ?_)
  refine q_start (cc := cX4_greatest) (maxL := 4) (ret := (some .int)) hlf (by decide +kernel) rfl (by simp [Value.category]) (Nat.le_of_ble_eq_true rfl) ?_
  intro p e s m args below meth c C hret hno
  show PW p l e (r0 0) s m args below meth c D cy B 4 0 0 _ 0 [some (.ref (B + 216)), some (iN a), none, none] [] μ
  have L : ∀ i : Nat, i ≤ n → PW p l e (r0 0) s m args below meth c D cy B 4 0 0 (vx_MQ below (Qp D cy B (ret1 (gmax (fun i => μ 221 (ix i a)) n) μ)) (Xp D cy B noX) args s (r0 0).cells (r0 0).slots (fun q => B ≤ q)) 4 [some (.ref (B + 216)), some (iN a), some (iN (gmax (fun i => μ 221 (ix i a)) i)), some (iN i)] [] μ := by
    refine up_to n _ (fun i hi ih => ?_)
    have hg : InR (gmax (fun i => μ 221 (ix i a)) i) := gmax_r (fun j => hR _ _) i
    have J : ∀ b : Int, InR b → b = gmax (fun i => μ 221 (ix i a)) (i + 1) → i < n → PW p l e (r0 0) s m args below meth c D cy B 4 0 0 (vx_MQ below (Qp D cy B (ret1 (gmax (fun i => μ 221 (ix i a)) n) μ)) (Xp D cy B noX) args s (r0 0).cells (r0 0).slots (fun q => B ≤ q)) 42 [some (.ref (B + 216)), some (iN a), some (iN (gmax (fun i => μ 221 (ix i a)) i)), some (iN i)] [iN b] μ := by
      intro b hb hb2 hin
      refine q_istore_n (pc := 42) (lv2 := [_, _, _, _]) C dX4_greatest_42 rfl (by decide) rfl ?_
      refine q_iinc (pc := 43) (lv2 := [_, _, _, _]) C dX4_greatest_43 (by decide) rfl rfl ?_
      refine q_goto (pc := 46) (tgt := 4) C dX4_greatest_46 (by decide) ?_
      rw [hb2]
      exact ih hin
    refine q_iload_n (pc := 4) C dX4_greatest_4 rfl rfl ?_
    refine q_aload_n (pc := 5) C dX4_greatest_5 rfl rfl ?_
    refine q_getI (pc := 6) (ci := 4) (k := 7) (ki := 7) C rfl rfl fiX4_greatest_X4 (by decide) k216 (by decide) rfl (by decide) flX4_greatest_22 rfl rfl dX4_greatest_6 ?_
    refine q_icmp_ge (pc := 9) (tgt := 49) C (by first | exact hR _ _ | exact hRo _ _ | assumption | exact ⟨by omega, by omega⟩) (by first | exact hR _ _ | exact hRo _ _ | assumption | exact ⟨by omega, by omega⟩) dX4_greatest_9 (by decide) (fun hc => ?_) (fun hc => ?_)
    · have e : i = n := by omega
      subst e
      refine q_iload_n (pc := 49) C dX4_greatest_49 rfl rfl ?_
      exact q_iret (pc := 50) C hret ⟨rfl, rfl⟩ (by decide) (by decide) dX4_greatest_50
    · refine q_aload_n (pc := 12) C dX4_greatest_12 rfl rfl ?_
      refine q_getR (pc := 13) (ci := 4) (k := 8) (r := 221) C rfl fiX4_greatest_X4 (by decide) k216 (by decide) rfl (by decide) flX4_greatest_26 rfl rfl dX4_greatest_13 ?_
      refine q_bipush (pc := 16) C (by decide +kernel) dX4_greatest_16 ?_
      refine q_iload_n (pc := 18) C dX4_greatest_18 rfl rfl ?_
      refine q_imul (pc := 19) C dX4_greatest_19 ?_
      refine q_iload_n (pc := 20) C dX4_greatest_20 rfl rfl ?_
      refine q_iadd (pc := 21) C dX4_greatest_21 ?_
      refine q_iaload (pc := 22) C k221 n221 (by decide) (by decide) (by omega) (by omega) dX4_greatest_22 ?_
      refine q_iload_n (pc := 23) C dX4_greatest_23 rfl rfl ?_
      refine q_icmp_le (pc := 24) (tgt := 41) C (by first | exact hR _ _ | exact hRo _ _ | assumption | exact ⟨by omega, by omega⟩) (by first | exact hR _ _ | exact hRo _ _ | assumption | exact ⟨by omega, by omega⟩) dX4_greatest_24 (by decide) (fun hd => ?_) (fun hd => ?_)
      · refine q_iload_n (pc := 41) C dX4_greatest_41 rfl rfl ?_
        refine J _ hg ?_ (by omega)
        show _ = if gmax (fun i => μ 221 (ix i a)) i < μ 221 (ix i a) then _ else _
        rw [if_neg (Int.not_lt.mpr hd)]
      · refine q_aload_n (pc := 27) C dX4_greatest_27 rfl rfl ?_
        refine q_getR (pc := 28) (ci := 4) (k := 8) (r := 221) C rfl fiX4_greatest_X4 (by decide) k216 (by decide) rfl (by decide) flX4_greatest_26 rfl rfl dX4_greatest_28 ?_
        refine q_bipush (pc := 31) C (by decide +kernel) dX4_greatest_31 ?_
        refine q_iload_n (pc := 33) C dX4_greatest_33 rfl rfl ?_
        refine q_imul (pc := 34) C dX4_greatest_34 ?_
        refine q_iload_n (pc := 35) C dX4_greatest_35 rfl rfl ?_
        refine q_iadd (pc := 36) C dX4_greatest_36 ?_
        refine q_iaload (pc := 37) C k221 n221 (by decide) (by decide) (by omega) (by omega) dX4_greatest_37 ?_
        refine q_goto (pc := 38) (tgt := 42) C dX4_greatest_38 (by decide) ?_
        refine J _ (hR _ _) ?_ (by omega)
        show _ = if gmax (fun i => μ 221 (ix i a)) i < μ 221 (ix i a) then _ else _
        rw [if_pos (Int.not_le.mp hd)]
  refine q_iconst (pc := 0) C dX4_greatest_0 ?_
  refine q_istore_n (pc := 1) (lv2 := [_, _, _, _]) C dX4_greatest_1 rfl (by decide) rfl ?_
  refine q_iconst (pc := 2) C dX4_greatest_2 ?_
  refine q_istore_n (pc := 3) (lv2 := [_, _, _, _]) C dX4_greatest_3 rfl (by decide) rfl ?_
  exact L 0 (by omega)
set_option maxHeartbeats 4000000 in
set_option maxRecDepth 100000 in
theorem m_count {l : Launch} (hlf : l.stackTraces = false) (D : va_G) (cy : Nat → ClassId) (B : Nat) {μ : St} {P : Nat} {n a : Int} (hn : InR n) (ha : InR a) (hP : μ 216 1 = P) (h6 : P ≤ 6) (hs : μ 216 7 ≤ 100) : PC l D cy B yX4_count wsX4_count (r0 1) [.ref (B + 216), iN n, iN a] μ (qv (fun v μ2 => (μ 216 7 < 0 ∧ μ2 = updS μ 216 0 1) ∨ (¬ μ 216 7 < 0 ∧ ¬ ((0 ≤ n ∧ n < μ 216 7) ∧ (0 ≤ a ∧ a < P)) ∧ μ2 = updS μ 216 0 2) ∨ (¬ μ 216 7 < 0 ∧ ((0 ≤ n ∧ n < μ 216 7) ∧ (0 ≤ a ∧ a < P)) ∧ v = (if μ 221 (6 * n + a) = 1000000000 then -1 else μ 221 (6 * n + a)) ∧ μ2 = updS μ 216 0 0))) noX := by
  refine PC.pre (fun hR => ?_)
  refine q_start (cc := cX4_count) (maxL := 3) (ret := (some .int)) hlf (by decide +kernel) rfl (by simp [Value.category]) (Nat.le_of_ble_eq_true rfl) ?_
  intro p e s m args below meth c C hret hno
  show PW p l e (r0 1) s m args below meth c D cy B 3 0 0 _ 0 [some (.ref (B + 216)), some (iN n), some (iN a)] [] μ
  have J : ∀ c9 : Int, (c9 = 1 ∧ μ 216 7 < 0) ∨ (c9 = 2 ∧ ¬ μ 216 7 < 0 ∧ ¬ ((0 ≤ n ∧ n < μ 216 7) ∧ (0 ≤ a ∧ a < P))) ∨ (c9 = 0 ∧ ¬ μ 216 7 < 0 ∧ ((0 ≤ n ∧ n < μ 216 7) ∧ (0 ≤ a ∧ a < P))) → PW p l e (r0 1) s m args below meth c D cy B 3 0 0 (vx_MQ below (Qp D cy B (qv (fun v μ2 => (μ 216 7 < 0 ∧ μ2 = updS μ 216 0 1) ∨ (¬ μ 216 7 < 0 ∧ ¬ ((0 ≤ n ∧ n < μ 216 7) ∧ (0 ≤ a ∧ a < P)) ∧ μ2 = updS μ 216 0 2) ∨ (¬ μ 216 7 < 0 ∧ ((0 ≤ n ∧ n < μ 216 7) ∧ (0 ≤ a ∧ a < P)) ∧ v = (if μ 221 (6 * n + a) = 1000000000 then -1 else μ 221 (6 * n + a)) ∧ μ2 = updS μ 216 0 0)))) (Xp D cy B noX) args s (r0 1).cells (r0 1).slots (fun q => B ≤ q)) 37 [some (.ref (B + 216)), some (iN n), some (iN a)] [iN c9, .ref (B + 216)] μ := by
    intro c9 hc9
    have hr9 : InR c9 := ⟨by omega, by omega⟩
    refine q_put (pc := 37) (ci := 4) (k := 0) (ki := 0) (ty0 := tyX4) C rfl rfl fiX4_count_X4 (by decide) k216 (by decide) rfl (by decide) flX4_count_63 rfl tyX4_ok nmX4 rfl rfl rfl (by first | exact hR _ _ | exact hRo _ _ | assumption | exact ⟨by omega, by omega⟩) dX4_count_37 ?_
    refine q_aload_n (pc := 40) C dX4_count_40 rfl rfl ?_
    refine q_getI (pc := 41) (ci := 4) (k := 0) (ki := 0) C rfl rfl fiX4_count_X4 (by decide) k216 (by decide) rfl (by decide) flX4_count_63 rfl rfl dX4_count_41 ?_
    simp only [updS_ap, Nat.reduceEqDiff, Int.reduceEq, Int.toNat_natCast, false_and, true_and, and_false, and_true, and_self, if_false, if_true, ↓reduceIte]
    refine q_if_le (pc := 44) (tgt := 51) C (by first | exact hR _ _ | exact hRo _ _ | assumption | exact ⟨by omega, by omega⟩) dX4_count_44 (by decide) (fun hq => ?_) (fun hq => ?_)
    · have h0 : c9 = 0 := by omega
      subst h0
      refine q_aload_n (pc := 51) C dX4_count_51 rfl rfl ?_
      refine q_getR (pc := 52) (ci := 4) (k := 8) (r := 221) C rfl fiX4_count_X4 (by decide) k216 (by decide) rfl (by decide) flX4_count_26 rfl rfl dX4_count_52 ?_
      refine q_bipush (pc := 55) C (by decide +kernel) dX4_count_55 ?_
      refine q_iload_n (pc := 57) C dX4_count_57 rfl rfl ?_
      refine q_imul (pc := 58) C dX4_count_58 ?_
      refine q_iload_n (pc := 59) C dX4_count_59 rfl rfl ?_
      refine q_iadd (pc := 60) C dX4_count_60 ?_
      refine q_iaload (pc := 61) C k221 n221 (by decide) (by decide) (by omega) (by omega) dX4_count_61 ?_
      rw [updS_ne _ _ _ _ (by decide)]
      refine q_callS (pc := 62) (As := [_]) (rest := []) C (m_told hlf D cy B (x := μ 221 (6 * n + a)) (hR _ _)) (va_cwS 1 C.2.2.2.2.1 gX4_count_X4_told rfl rfl rfl (by decide +kernel) ⟨Nat.le_of_ble_eq_true rfl, Nat.le_of_ble_eq_true rfl⟩) rfl rfl (by first | decide | simp [Value.category]) dX4_count_62 (by decide) (fun _ _ h => h.elim) (fun v μ9 hv => ?_)
      have e8 := hv.1
      have e9 := hv.2.symm
      clear hv
      subst e8
      subst e9
      dsimp only [Option.toList, List.cons_append, List.nil_append]
      exact q_iret (pc := 65) C hret ⟨_, r_if ⟨by decide, by decide⟩ (hR _ _), rfl, Or.inr (Or.inr ⟨by omega, by omega, rfl, rfl⟩)⟩ (by decide) (by decide) dX4_count_65
    · refine q_iconst (pc := 47) C dX4_count_47 ?_
      refine q_goto (pc := 48) (tgt := 65) C dX4_count_48 (by decide) ?_
      exact q_iret (pc := 65) C hret ⟨0, r_0, rfl, by rcases hc9 with ⟨z, y⟩ | ⟨z, y⟩ | ⟨z, y⟩; exact Or.inl ⟨y, by rw [z]⟩; exact Or.inr (Or.inl ⟨y.1, y.2, by rw [z]⟩); exact absurd hq (by omega)⟩ (by decide) (by decide) dX4_count_65
  refine q_aload_n (pc := 0) C dX4_count_0 rfl rfl ?_
  refine q_aload_n (pc := 1) C dX4_count_1 rfl rfl ?_
  refine q_getI (pc := 2) (ci := 4) (k := 7) (ki := 7) C rfl rfl fiX4_count_X4 (by decide) k216 (by decide) rfl (by decide) flX4_count_22 rfl rfl dX4_count_2 ?_
  refine q_if_ge (pc := 5) (tgt := 12) C (by first | exact hR _ _ | exact hRo _ _ | assumption | exact ⟨by omega, by omega⟩) dX4_count_5 (by decide) (fun h1 => ?_) (fun h1 => ?_)
  · refine q_iload_n (pc := 12) C dX4_count_12 rfl rfl ?_
    refine q_if_lt (pc := 13) (tgt := 32) C (by first | exact hR _ _ | exact hRo _ _ | assumption | exact ⟨by omega, by omega⟩) dX4_count_13 (by decide) (fun h2 => ?_) (fun h2 => ?_)
    · refine q_iconst (pc := 32) C dX4_count_32 ?_
      refine q_goto (pc := 33) (tgt := 37) C dX4_count_33 (by decide) ?_
      exact J 2 (Or.inr (Or.inl ⟨rfl, by omega, by omega⟩))
    · refine q_iload_n (pc := 16) C dX4_count_16 rfl rfl ?_
      refine q_aload_n (pc := 17) C dX4_count_17 rfl rfl ?_
      refine q_getI (pc := 18) (ci := 4) (k := 7) (ki := 7) C rfl rfl fiX4_count_X4 (by decide) k216 (by decide) rfl (by decide) flX4_count_22 rfl rfl dX4_count_18 ?_
      refine q_icmp_ge (pc := 21) (tgt := 32) C (by first | exact hR _ _ | exact hRo _ _ | assumption | exact ⟨by omega, by omega⟩) (by first | exact hR _ _ | exact hRo _ _ | assumption | exact ⟨by omega, by omega⟩) dX4_count_21 (by decide) (fun h3 => ?_) (fun h3 => ?_)
      · refine q_iconst (pc := 32) C dX4_count_32 ?_
        refine q_goto (pc := 33) (tgt := 37) C dX4_count_33 (by decide) ?_
        exact J 2 (Or.inr (Or.inl ⟨rfl, by omega, by omega⟩))
      · refine q_aload_n (pc := 24) C dX4_count_24 rfl rfl ?_
        refine q_iload_n (pc := 25) C dX4_count_25 rfl rfl ?_
        refine q_callV (pc := 26) (As := [_]) (rest := [_]) C (m_noPlace hlf D cy B (P := P) (n := a) ha hP) (cwV 1 C.2.2.2.2.1 gX4_count_X4_noPlace rfl rfl rfl (by decide +kernel) ⟨Nat.le_of_ble_eq_true rfl, Nat.le_of_ble_eq_true rfl⟩) (ci := 4) rfl k216 (by decide) (by decide) rfl rfl (by first | decide | simp [Value.category]) dX4_count_26 (by decide) (fun _ _ h => h.elim) (fun v μ9 hv => ?_)
        have e8 := hv.1
        have e9 := hv.2.symm
        clear hv
        subst e8
        subst e9
        dsimp only [Option.toList, List.cons_append, List.nil_append]
        have hb1 := bI_01 (¬ (0 ≤ a ∧ a < (P : Int)))
        refine q_if_eq (pc := 29) (tgt := 36) C (by first | exact hR _ _ | exact hRo _ _ | assumption | exact ⟨by omega, by omega⟩) dX4_count_29 (by decide) (fun h4 => ?_) (fun h4 => ?_)
        · have h2' := bI_0.mp h4
          refine q_iconst (pc := 36) C dX4_count_36 ?_
          exact J 0 (Or.inr (Or.inr ⟨rfl, by omega, by omega⟩))
        · have h2' := bI_1.mp (show bI (¬ (0 ≤ a ∧ a < (P : Int))) = 1 by omega)
          refine q_iconst (pc := 32) C dX4_count_32 ?_
          refine q_goto (pc := 33) (tgt := 37) C dX4_count_33 (by decide) ?_
          exact J 2 (Or.inr (Or.inl ⟨rfl, by omega, by omega⟩))
  · refine q_iconst (pc := 8) C dX4_count_8 ?_
    refine q_goto (pc := 9) (tgt := 37) C dX4_count_9 (by decide) ?_
    exact J 1 (Or.inl ⟨rfl, by omega⟩)
set_option maxHeartbeats 4000000 in
set_option maxRecDepth 100000 in
theorem m_node {l : Launch} (hlf : l.stackTraces = false) (D : va_G) (cy : Nat → ClassId) (B : Nat) {μ : St} {n i : Int} (hn : InR n) (hi : InR i) (hs : μ 216 7 ≤ 100) : PC l D cy B yX4_node wsX4_node (r0 0) [.ref (B + 216), iN n, iN i] μ (qv (fun v μ2 => (μ 216 7 < 0 ∧ μ2 = updS μ 216 0 1) ∨ (¬ μ 216 7 < 0 ∧ ¬ (0 ≤ n ∧ n < μ 216 7) ∧ μ2 = updS μ 216 0 2) ∨ (¬ μ 216 7 < 0 ∧ (0 ≤ n ∧ n < μ 216 7) ∧ v = (if i = 2 then (if μ 225 n = 0 then 0 else 1) else if n = 0 ∨ (¬ i = 0 ∧ ¬ i = 1) then -2 else if i = 0 then μ 222 n else μ 223 n) ∧ μ2 = updS μ 216 0 0))) noX := by
  refine PC.pre (fun hR => ?_)
  refine q_start (cc := cX4_node) (maxL := 3) (ret := (some .int)) hlf (by decide +kernel) rfl (by simp [Value.category]) (Nat.le_of_ble_eq_true rfl) ?_
  intro p e s m args below meth c C hret hno
  show PW p l e (r0 0) s m args below meth c D cy B 3 0 0 _ 0 [some (.ref (B + 216)), some (iN n), some (iN i)] [] μ
  have J : ∀ c9 : Int, (c9 = 1 ∧ μ 216 7 < 0) ∨ (c9 = 2 ∧ ¬ μ 216 7 < 0 ∧ ¬ (0 ≤ n ∧ n < μ 216 7)) ∨ (c9 = 0 ∧ ¬ μ 216 7 < 0 ∧ (0 ≤ n ∧ n < μ 216 7)) → PW p l e (r0 0) s m args below meth c D cy B 3 0 0 (vx_MQ below (Qp D cy B (qv (fun v μ2 => (μ 216 7 < 0 ∧ μ2 = updS μ 216 0 1) ∨ (¬ μ 216 7 < 0 ∧ ¬ (0 ≤ n ∧ n < μ 216 7) ∧ μ2 = updS μ 216 0 2) ∨ (¬ μ 216 7 < 0 ∧ (0 ≤ n ∧ n < μ 216 7) ∧ v = (if i = 2 then (if μ 225 n = 0 then 0 else 1) else if n = 0 ∨ (¬ i = 0 ∧ ¬ i = 1) then -2 else if i = 0 then μ 222 n else μ 223 n) ∧ μ2 = updS μ 216 0 0)))) (Xp D cy B noX) args s (r0 0).cells (r0 0).slots (fun q => B ≤ q)) 29 [some (.ref (B + 216)), some (iN n), some (iN i)] [iN c9, .ref (B + 216)] μ := by
    intro c9 hc9
    have hr9 : InR c9 := ⟨by omega, by omega⟩
    refine q_put (pc := 29) (ci := 4) (k := 0) (ki := 0) (ty0 := tyX4) C rfl rfl fiX4_node_X4 (by decide) k216 (by decide) rfl (by decide) flX4_node_63 rfl tyX4_ok nmX4 rfl rfl rfl (by first | exact hR _ _ | exact hRo _ _ | assumption | exact ⟨by omega, by omega⟩) dX4_node_29 ?_
    refine q_aload_n (pc := 32) C dX4_node_32 rfl rfl ?_
    refine q_getI (pc := 33) (ci := 4) (k := 0) (ki := 0) C rfl rfl fiX4_node_X4 (by decide) k216 (by decide) rfl (by decide) flX4_node_63 rfl rfl dX4_node_33 ?_
    simp only [updS_ap, Nat.reduceEqDiff, Int.reduceEq, Int.toNat_natCast, false_and, true_and, and_false, and_true, and_self, if_false, if_true, ↓reduceIte]
    refine q_if_le (pc := 36) (tgt := 41) C (by first | exact hR _ _ | exact hRo _ _ | assumption | exact ⟨by omega, by omega⟩) dX4_node_36 (by decide) (fun hq => ?_) (fun hq => ?_)
    · have h0 : c9 = 0 := by omega
      subst h0
      refine q_iload_n (pc := 41) C dX4_node_41 rfl rfl ?_
      refine q_iconst (pc := 42) C dX4_node_42 ?_
      refine q_icmp_ne (pc := 43) (tgt := 61) C (by first | exact hR _ _ | exact hRo _ _ | assumption | exact ⟨by omega, by omega⟩) (by first | exact hR _ _ | exact hRo _ _ | assumption | exact ⟨by omega, by omega⟩) dX4_node_43 (by decide) (fun h2 => ?_) (fun h2 => ?_)
      · refine q_iload_n (pc := 61) C dX4_node_61 rfl rfl ?_
        refine q_if_eq (pc := 62) (tgt := 74) C (by first | exact hR _ _ | exact hRo _ _ | assumption | exact ⟨by omega, by omega⟩) dX4_node_62 (by decide) (fun h3 => ?_) (fun h3 => ?_)
        · refine q_bipush (pc := 74) C (by decide +kernel) dX4_node_74 ?_
          exact q_iret (pc := 76) C hret ⟨-2, ⟨by decide, by decide⟩, rfl, Or.inr (Or.inr ⟨by omega, by omega, by rw [if_neg h2, if_pos (Or.inl h3)], rfl⟩)⟩ (by decide) (by decide) dX4_node_76
        · refine q_iload_n (pc := 65) C dX4_node_65 rfl rfl ?_
          refine q_if_eq (pc := 66) (tgt := 77) C (by first | exact hR _ _ | exact hRo _ _ | assumption | exact ⟨by omega, by omega⟩) dX4_node_66 (by decide) (fun h4 => ?_) (fun h4 => ?_)
          · refine q_iload_n (pc := 77) C dX4_node_77 rfl rfl ?_
            refine q_if_ne (pc := 78) (tgt := 90) C (by first | exact hR _ _ | exact hRo _ _ | assumption | exact ⟨by omega, by omega⟩) dX4_node_78 (by decide) (fun h5 => ?_) (fun h5 => ?_)
            · exact absurd h4 h5
            · refine q_aload_n (pc := 81) C dX4_node_81 rfl rfl ?_
              refine q_getR (pc := 82) (ci := 4) (k := 9) (r := 222) C rfl fiX4_node_X4 (by decide) k216 (by decide) rfl (by decide) flX4_node_29 rfl rfl dX4_node_82 ?_
              refine q_iload_n (pc := 85) C dX4_node_85 rfl rfl ?_
              refine q_iaload (pc := 86) C k222 n222 (by decide) (by decide) (by omega) (by omega) dX4_node_86 ?_
              rw [updS_ne _ _ _ _ (by decide)]
              refine q_goto (pc := 87) (tgt := 96) C dX4_node_87 (by decide) ?_
              exact q_iret (pc := 96) C hret ⟨_, hR _ _, rfl, Or.inr (Or.inr ⟨by omega, by omega, by rw [if_neg h2, if_neg (by omega), if_pos h4], rfl⟩)⟩ (by decide) (by decide) dX4_node_96
          · refine q_iload_n (pc := 69) C dX4_node_69 rfl rfl ?_
            refine q_iconst (pc := 70) C dX4_node_70 ?_
            refine q_icmp_eq (pc := 71) (tgt := 77) C (by first | exact hR _ _ | exact hRo _ _ | assumption | exact ⟨by omega, by omega⟩) (by first | exact hR _ _ | exact hRo _ _ | assumption | exact ⟨by omega, by omega⟩) dX4_node_71 (by decide) (fun h5 => ?_) (fun h5 => ?_)
            · refine q_iload_n (pc := 77) C dX4_node_77 rfl rfl ?_
              refine q_if_ne (pc := 78) (tgt := 90) C (by first | exact hR _ _ | exact hRo _ _ | assumption | exact ⟨by omega, by omega⟩) dX4_node_78 (by decide) (fun h6 => ?_) (fun h6 => ?_)
              · refine q_aload_n (pc := 90) C dX4_node_90 rfl rfl ?_
                refine q_getR (pc := 91) (ci := 4) (k := 10) (r := 223) C rfl fiX4_node_X4 (by decide) k216 (by decide) rfl (by decide) flX4_node_32 rfl rfl dX4_node_91 ?_
                refine q_iload_n (pc := 94) C dX4_node_94 rfl rfl ?_
                refine q_iaload (pc := 95) C k223 n223 (by decide) (by decide) (by omega) (by omega) dX4_node_95 ?_
                rw [updS_ne _ _ _ _ (by decide)]
                exact q_iret (pc := 96) C hret ⟨_, hR _ _, rfl, Or.inr (Or.inr ⟨by omega, by omega, by rw [if_neg h2, if_neg (by omega), if_neg h4], rfl⟩)⟩ (by decide) (by decide) dX4_node_96
              · exact absurd h6 h4
            · refine q_bipush (pc := 74) C (by decide +kernel) dX4_node_74 ?_
              exact q_iret (pc := 76) C hret ⟨-2, ⟨by decide, by decide⟩, rfl, Or.inr (Or.inr ⟨by omega, by omega, by rw [if_neg h2, if_pos (Or.inr ⟨h4, h5⟩)], rfl⟩)⟩ (by decide) (by decide) dX4_node_76
      · refine q_aload_n (pc := 46) C dX4_node_46 rfl rfl ?_
        refine q_getR (pc := 47) (ci := 4) (k := 12) (r := 225) C rfl fiX4_node_X4 (by decide) k216 (by decide) rfl (by decide) flX4_node_38 rfl rfl dX4_node_47 ?_
        refine q_iload_n (pc := 50) C dX4_node_50 rfl rfl ?_
        refine q_baload (pc := 51) C k225 n225 (by decide) (by decide) (by omega) (by omega) dX4_node_51 ?_
        rw [updS_ne _ _ _ _ (by decide)]
        refine q_if_eq (pc := 52) (tgt := 59) C (by first | exact hR _ _ | exact hRo _ _ | assumption | exact ⟨by omega, by omega⟩) dX4_node_52 (by decide) (fun h3 => ?_) (fun h3 => ?_)
        · refine q_iconst (pc := 59) C dX4_node_59 ?_
          exact q_iret (pc := 60) C hret ⟨0, r_0, rfl, Or.inr (Or.inr ⟨by omega, by omega, by rw [if_pos (by omega), if_pos h3], rfl⟩)⟩ (by decide) (by decide) dX4_node_60
        · refine q_iconst (pc := 55) C dX4_node_55 ?_
          refine q_goto (pc := 56) (tgt := 60) C dX4_node_56 (by decide) ?_
          exact q_iret (pc := 60) C hret ⟨1, ⟨by decide, by decide⟩, rfl, Or.inr (Or.inr ⟨by omega, by omega, by rw [if_pos (by omega), if_neg h3], rfl⟩)⟩ (by decide) (by decide) dX4_node_60
    · refine q_iconst (pc := 39) C dX4_node_39 ?_
      exact q_iret (pc := 40) C hret ⟨0, r_0, rfl, by rcases hc9 with ⟨z, y⟩ | ⟨z, y⟩ | ⟨z, y⟩; exact Or.inl ⟨y, by rw [z]⟩; exact Or.inr (Or.inl ⟨y.1, y.2, by rw [z]⟩); exact absurd hq (by omega)⟩ (by decide) (by decide) dX4_node_40
  refine q_aload_n (pc := 0) C dX4_node_0 rfl rfl ?_
  refine q_aload_n (pc := 1) C dX4_node_1 rfl rfl ?_
  refine q_getI (pc := 2) (ci := 4) (k := 7) (ki := 7) C rfl rfl fiX4_node_X4 (by decide) k216 (by decide) rfl (by decide) flX4_node_22 rfl rfl dX4_node_2 ?_
  refine q_if_ge (pc := 5) (tgt := 12) C (by first | exact hR _ _ | exact hRo _ _ | assumption | exact ⟨by omega, by omega⟩) dX4_node_5 (by decide) (fun h1 => ?_) (fun h1 => ?_)
  · refine q_iload_n (pc := 12) C dX4_node_12 rfl rfl ?_
    refine q_if_lt (pc := 13) (tgt := 24) C (by first | exact hR _ _ | exact hRo _ _ | assumption | exact ⟨by omega, by omega⟩) dX4_node_13 (by decide) (fun h2 => ?_) (fun h2 => ?_)
    · refine q_iconst (pc := 24) C dX4_node_24 ?_
      refine q_goto (pc := 25) (tgt := 29) C dX4_node_25 (by decide) ?_
      exact J 2 (Or.inr (Or.inl ⟨rfl, by omega, by omega⟩))
    · refine q_iload_n (pc := 16) C dX4_node_16 rfl rfl ?_
      refine q_aload_n (pc := 17) C dX4_node_17 rfl rfl ?_
      refine q_getI (pc := 18) (ci := 4) (k := 7) (ki := 7) C rfl rfl fiX4_node_X4 (by decide) k216 (by decide) rfl (by decide) flX4_node_22 rfl rfl dX4_node_18 ?_
      refine q_icmp_lt (pc := 21) (tgt := 28) C (by first | exact hR _ _ | exact hRo _ _ | assumption | exact ⟨by omega, by omega⟩) (by first | exact hR _ _ | exact hRo _ _ | assumption | exact ⟨by omega, by omega⟩) dX4_node_21 (by decide) (fun h3 => ?_) (fun h3 => ?_)
      · refine q_iconst (pc := 28) C dX4_node_28 ?_
        exact J 0 (Or.inr (Or.inr ⟨rfl, by omega, by omega⟩))
      · refine q_iconst (pc := 24) C dX4_node_24 ?_
        refine q_goto (pc := 25) (tgt := 29) C dX4_node_25 (by decide) ?_
        exact J 2 (Or.inr (Or.inl ⟨rfl, by omega, by omega⟩))
  · refine q_iconst (pc := 8) C dX4_node_8 ?_
    refine q_goto (pc := 9) (tgt := 29) C dX4_node_9 (by decide) ?_
    exact J 1 (Or.inl ⟨rfl, by omega⟩)
set_option maxHeartbeats 4000000 in
set_option maxRecDepth 100000 in
theorem m_bound {l : Launch} (hlf : l.stackTraces = false) (D : va_G) (cy : Nat → ClassId) (B : Nat) {μ : St} {P : Nat} {a : Int} (ha : InR a) (hP : μ 216 1 = P) (h6 : P ≤ 6) (hs : μ 216 7 ≤ 100) : PC l D cy B yX4_bound wsX4_bound (r0 1) [.ref (B + 216), iN a] μ (qv (fun v μ2 => (μ 216 7 < 0 ∧ μ2 = updS μ 216 0 1) ∨ (¬ μ 216 7 < 0 ∧ ¬ (0 ≤ a ∧ a < P) ∧ μ2 = updS μ 216 0 2) ∨ (¬ μ 216 7 < 0 ∧ (0 ≤ a ∧ a < P) ∧ v = (if gmax (fun i => μ 221 (ix i a.toNat)) (μ 216 7).toNat = 1000000000 then -1 else gmax (fun i => μ 221 (ix i a.toNat)) (μ 216 7).toNat) ∧ μ2 = updS μ 216 0 0))) noX := by
  refine PC.pre (fun hR => ?_)
  refine q_start (cc := cX4_bound) (maxL := 2) (ret := (some .int)) hlf (by decide +kernel) rfl (by simp [Value.category]) (Nat.le_of_ble_eq_true rfl) ?_
  intro p e s m args below meth c C hret hno
  show PW p l e (r0 1) s m args below meth c D cy B 2 0 0 _ 0 [some (.ref (B + 216)), some (iN a)] [] μ
  have J : ∀ c9 : Int, (c9 = 1 ∧ μ 216 7 < 0) ∨ (c9 = 2 ∧ ¬ μ 216 7 < 0 ∧ ¬ (0 ≤ a ∧ a < P)) ∨ (c9 = 0 ∧ ¬ μ 216 7 < 0 ∧ (0 ≤ a ∧ a < P)) → PW p l e (r0 1) s m args below meth c D cy B 2 0 0 (vx_MQ below (Qp D cy B (qv (fun v μ2 => (μ 216 7 < 0 ∧ μ2 = updS μ 216 0 1) ∨ (¬ μ 216 7 < 0 ∧ ¬ (0 ≤ a ∧ a < P) ∧ μ2 = updS μ 216 0 2) ∨ (¬ μ 216 7 < 0 ∧ (0 ≤ a ∧ a < P) ∧ v = (if gmax (fun i => μ 221 (ix i a.toNat)) (μ 216 7).toNat = 1000000000 then -1 else gmax (fun i => μ 221 (ix i a.toNat)) (μ 216 7).toNat) ∧ μ2 = updS μ 216 0 0)))) (Xp D cy B noX) args s (r0 1).cells (r0 1).slots (fun q => B ≤ q)) 25 [some (.ref (B + 216)), some (iN a)] [iN c9, .ref (B + 216)] μ := by
    intro c9 hc9
    have hr9 : InR c9 := ⟨by omega, by omega⟩
    refine q_put (pc := 25) (ci := 4) (k := 0) (ki := 0) (ty0 := tyX4) C rfl rfl fiX4_bound_X4 (by decide) k216 (by decide) rfl (by decide) flX4_bound_63 rfl tyX4_ok nmX4 rfl rfl rfl (by first | exact hR _ _ | exact hRo _ _ | assumption | exact ⟨by omega, by omega⟩) dX4_bound_25 ?_
    refine q_aload_n (pc := 28) C dX4_bound_28 rfl rfl ?_
    refine q_getI (pc := 29) (ci := 4) (k := 0) (ki := 0) C rfl rfl fiX4_bound_X4 (by decide) k216 (by decide) rfl (by decide) flX4_bound_63 rfl rfl dX4_bound_29 ?_
    simp only [updS_ap, Nat.reduceEqDiff, Int.reduceEq, Int.toNat_natCast, false_and, true_and, and_false, and_true, and_self, if_false, if_true, ↓reduceIte]
    refine q_if_le (pc := 32) (tgt := 39) C (by first | exact hR _ _ | exact hRo _ _ | assumption | exact ⟨by omega, by omega⟩) dX4_bound_32 (by decide) (fun hq => ?_) (fun hq => ?_)
    · have h0 : c9 = 0 := by omega
      subst h0
      obtain ⟨a9, ha9⟩ : ∃ a9 : Nat, a = a9 := ⟨a.toNat, by omega⟩
      subst ha9
      obtain ⟨n9, hn9⟩ : ∃ n9 : Nat, μ 216 7 = n9 := ⟨(μ 216 7).toNat, by omega⟩
      have hg : InR (gmax (fun i => updS μ 216 0 0 221 (ix i a9)) n9) := gmax_r (fun j => by rw [updS_ne _ _ _ _ (by decide)]; exact hR _ _) n9
      refine q_aload_n (pc := 39) C dX4_bound_39 rfl rfl ?_
      refine q_iload_n (pc := 40) C dX4_bound_40 rfl rfl ?_
      refine q_callV (pc := 41) (As := [_]) (rest := []) C (m_greatest hlf D cy B (n := n9) (a := a9) (by omega) (by omega) (by rw [updS_nk _ _ _ _ (by decide)]; exact hn9)) (cwV 1 C.2.2.2.2.1 gX4_bound_X4_greatest rfl rfl rfl (by decide +kernel) ⟨Nat.le_of_ble_eq_true rfl, Nat.le_of_ble_eq_true rfl⟩) (ci := 4) rfl k216 (by decide) (by decide) rfl rfl (by first | decide | simp [Value.category]) dX4_bound_41 (by decide) (fun _ _ h => h.elim) (fun v μ9 hv => ?_)
      have e8 := hv.1
      have e9 := hv.2.symm
      clear hv
      subst e8
      subst e9
      dsimp only [Option.toList, List.cons_append, List.nil_append]
      refine q_callS (pc := 44) (As := [_]) (rest := []) C (m_told hlf D cy B (x := gmax (fun i => updS μ 216 0 0 221 (ix i a9)) n9) hg) (va_cwS 1 C.2.2.2.2.1 gX4_bound_X4_told rfl rfl rfl (by decide +kernel) ⟨Nat.le_of_ble_eq_true rfl, Nat.le_of_ble_eq_true rfl⟩) rfl rfl (by first | decide | simp [Value.category]) dX4_bound_44 (by decide) (fun _ _ h => h.elim) (fun v μ9 hv => ?_)
      have e8 := hv.1
      have e9 := hv.2.symm
      clear hv
      subst e8
      subst e9
      dsimp only [Option.toList, List.cons_append, List.nil_append]
      exact q_iret (pc := 47) C hret ⟨_, r_if ⟨by decide, by decide⟩ hg, rfl, Or.inr (Or.inr ⟨by omega, by omega, by rw [hn9]; rfl, rfl⟩)⟩ (by decide) (by decide) dX4_bound_47
    · refine q_iconst (pc := 35) C dX4_bound_35 ?_
      refine q_goto (pc := 36) (tgt := 47) C dX4_bound_36 (by decide) ?_
      exact q_iret (pc := 47) C hret ⟨0, r_0, rfl, by rcases hc9 with ⟨z, y⟩ | ⟨z, y⟩ | ⟨z, y⟩; exact Or.inl ⟨y, by rw [z]⟩; exact Or.inr (Or.inl ⟨y.1, y.2, by rw [z]⟩); exact absurd hq (by omega)⟩ (by decide) (by decide) dX4_bound_47
  refine q_aload_n (pc := 0) C dX4_bound_0 rfl rfl ?_
  refine q_aload_n (pc := 1) C dX4_bound_1 rfl rfl ?_
  refine q_getI (pc := 2) (ci := 4) (k := 7) (ki := 7) C rfl rfl fiX4_bound_X4 (by decide) k216 (by decide) rfl (by decide) flX4_bound_22 rfl rfl dX4_bound_2 ?_
  refine q_if_ge (pc := 5) (tgt := 12) C (by first | exact hR _ _ | exact hRo _ _ | assumption | exact ⟨by omega, by omega⟩) dX4_bound_5 (by decide) (fun h1 => ?_) (fun h1 => ?_)
  · refine q_aload_n (pc := 12) C dX4_bound_12 rfl rfl ?_
    refine q_iload_n (pc := 13) C dX4_bound_13 rfl rfl ?_
    refine q_callV (pc := 14) (As := [_]) (rest := [_]) C (m_noPlace hlf D cy B (P := P) (n := a) ha hP) (cwV 1 C.2.2.2.2.1 gX4_bound_X4_noPlace rfl rfl rfl (by decide +kernel) ⟨Nat.le_of_ble_eq_true rfl, Nat.le_of_ble_eq_true rfl⟩) (ci := 4) rfl k216 (by decide) (by decide) rfl rfl (by first | decide | simp [Value.category]) dX4_bound_14 (by decide) (fun _ _ h => h.elim) (fun v μ9 hv => ?_)
    have e8 := hv.1
    have e9 := hv.2.symm
    clear hv
    subst e8
    subst e9
    dsimp only [Option.toList, List.cons_append, List.nil_append]
    have hb1 := bI_01 (¬ (0 ≤ a ∧ a < (P : Int)))
    refine q_if_eq (pc := 17) (tgt := 24) C (by first | exact hR _ _ | exact hRo _ _ | assumption | exact ⟨by omega, by omega⟩) dX4_bound_17 (by decide) (fun h4 => ?_) (fun h4 => ?_)
    · have h2' := bI_0.mp h4
      refine q_iconst (pc := 24) C dX4_bound_24 ?_
      exact J 0 (Or.inr (Or.inr ⟨rfl, by omega, by omega⟩))
    · have h2' := bI_1.mp (show bI (¬ (0 ≤ a ∧ a < (P : Int))) = 1 by omega)
      refine q_iconst (pc := 20) C dX4_bound_20 ?_
      refine q_goto (pc := 21) (tgt := 25) C dX4_bound_21 (by decide) ?_
      exact J 2 (Or.inr (Or.inl ⟨rfl, by omega, by omega⟩))
  · refine q_iconst (pc := 8) C dX4_bound_8 ?_
    refine q_goto (pc := 9) (tgt := 25) C dX4_bound_9 (by decide) ?_
    exact J 1 (Or.inl ⟨rfl, by omega⟩)

