theorem fiX4_anyEndless_X4 : ∀ w ∈ u_ws RX4 TX4 22, w ∈ wsX4_anyEndless := by decide +kernel
theorem fiX4_covered_X4 : ∀ w ∈ u_ws RX4 TX4 22, w ∈ wsX4_covered := by decide +kernel
theorem fiX4_depth_X4 : ∀ w ∈ u_ws RX4 TX4 22, w ∈ wsX4_depth := by decide +kernel
theorem fiX4_growth_X4 : ∀ w ∈ u_ws RX4 TX4 22, w ∈ wsX4_growth := by decide +kernel
theorem fiX4_possible_X4 : ∀ w ∈ u_ws RX4 TX4 22, w ∈ wsX4_possible := by decide +kernel
theorem flX4_anyEndless_66 : Cond.fieldLink RX4 66 RX4 (TX4 1).2.1 (TX4 1).2.2.1 ∈ wsX4_anyEndless := by decide +kernel
theorem flX4_covered_63 : Cond.fieldLink RX4 63 RX4 (TX4 0).2.1 (TX4 0).2.2.1 ∈ wsX4_covered := by decide +kernel
theorem flX4_covered_66 : Cond.fieldLink RX4 66 RX4 (TX4 1).2.1 (TX4 1).2.2.1 ∈ wsX4_covered := by decide +kernel
theorem flX4_covered_13 : Cond.fieldLink RX4 13 RX4 (TX4 4).2.1 (TX4 4).2.2.1 ∈ wsX4_covered := by decide +kernel
theorem flX4_covered_22 : Cond.fieldLink RX4 22 RX4 (TX4 7).2.1 (TX4 7).2.2.1 ∈ wsX4_covered := by decide +kernel
theorem flX4_covered_26 : Cond.fieldLink RX4 26 RX4 (TX4 8).2.1 (TX4 8).2.2.1 ∈ wsX4_covered := by decide +kernel
theorem flX4_depth_29 : Cond.fieldLink RX4 29 RX4 (TX4 9).2.1 (TX4 9).2.2.1 ∈ wsX4_depth := by decide +kernel
theorem flX4_growth_63 : Cond.fieldLink RX4 63 RX4 (TX4 0).2.1 (TX4 0).2.2.1 ∈ wsX4_growth := by decide +kernel
theorem flX4_growth_22 : Cond.fieldLink RX4 22 RX4 (TX4 7).2.1 (TX4 7).2.2.1 ∈ wsX4_growth := by decide +kernel
theorem flX4_growth_29 : Cond.fieldLink RX4 29 RX4 (TX4 9).2.1 (TX4 9).2.2.1 ∈ wsX4_growth := by decide +kernel
theorem flX4_growth_32 : Cond.fieldLink RX4 32 RX4 (TX4 10).2.1 (TX4 10).2.2.1 ∈ wsX4_growth := by decide +kernel
theorem flX4_growth_89 : Cond.fieldLink RX4 89 RX4 (TX4 13).2.1 (TX4 13).2.2.1 ∈ wsX4_growth := by decide +kernel
theorem flX4_growth_92 : Cond.fieldLink RX4 92 RX4 (TX4 14).2.1 (TX4 14).2.2.1 ∈ wsX4_growth := by decide +kernel
theorem flX4_possible_63 : Cond.fieldLink RX4 63 RX4 (TX4 0).2.1 (TX4 0).2.2.1 ∈ wsX4_possible := by decide +kernel
theorem flX4_possible_22 : Cond.fieldLink RX4 22 RX4 (TX4 7).2.1 (TX4 7).2.2.1 ∈ wsX4_possible := by decide +kernel
set_option maxHeartbeats 4000000 in
set_option maxRecDepth 100000 in
theorem m_covered {l : Launch} (hlf : l.stackTraces = false) (D : va_G) (cy : Nat → ClassId) (B : Nat) {μ : St} {P : Nat} (hP : μ 216 1 = P) (h6 : P ≤ 6) (hs : μ 216 7 ≤ 100) : PC l D cy B yX4_covered wsX4_covered (r0 1) [.ref (B + 216)] μ (qv (fun v μ2 => (μ 216 7 < 0 ∧ μ2 = updS μ 216 0 1) ∨ (¬ μ 216 7 < 0 ∧ v = bI (∃ i : Nat, i < (μ 216 7).toNat ∧ ∀ q : Nat, q < P → μ 218 q ≤ μ 221 (ix i q)) ∧ μ2 = updS μ 216 0 0))) noX := by
  refine PC.pre (fun hR => ?_)
  refine q_start (cc := cX4_covered) (maxL := 5) (ret := (some .boolean)) hlf (by decide +kernel) rfl (by simp [Value.category]) (Nat.le_of_ble_eq_true rfl) ?_
  intro p e s m args below meth c C hret hno
  show PW p l e (r0 1) s m args below meth c D cy B 5 0 0 _ 0 [some (.ref (B + 216)), none, none, none, none] [] μ
  have hRo := hR
  have J : ∀ c9 : Int, (c9 = 1 ∧ μ 216 7 < 0) ∨ (c9 = 0 ∧ ¬ μ 216 7 < 0) → PW p l e (r0 1) s m args below meth c D cy B 5 0 0 (vx_MQ below (Qp D cy B (qv (fun v μ2 => (μ 216 7 < 0 ∧ μ2 = updS μ 216 0 1) ∨ (¬ μ 216 7 < 0 ∧ v = bI (∃ i : Nat, i < (μ 216 7).toNat ∧ ∀ q : Nat, q < P → μ 218 q ≤ μ 221 (ix i q)) ∧ μ2 = updS μ 216 0 0)))) (Xp D cy B noX) args s (r0 1).cells (r0 1).slots (fun q => B ≤ q)) 13 [some (.ref (B + 216)), none, none, none, none] [iN c9, .ref (B + 216)] μ := by
    intro c9 hc9
    have hr9 : InR c9 := ⟨by omega, by omega⟩
    refine q_put (pc := 13) (ci := 4) (k := 0) (ki := 0) (ty0 := tyX4) C rfl rfl fiX4_covered_X4 (by decide) k216 (by decide) rfl (by decide) flX4_covered_63 rfl tyX4_ok nmX4 rfl rfl rfl (by first | exact hR _ _ | exact hRo _ _ | assumption | exact ⟨by omega, by omega⟩) dX4_covered_13 ?_
    obtain ⟨ν, hν⟩ : ∃ ν : St, ν = updS μ 216 0 c9 := ⟨_, rfl⟩
    refine q_mu hν.symm ?_
    have w218 : ∀ k, ν 218 k = μ 218 k := fun k => by rw [hν, updS_ne _ _ _ _ (by decide)]
    have w221 : ∀ k, ν 221 k = μ 221 k := fun k => by rw [hν, updS_ne _ _ _ _ (by decide)]
    have w7 : ν 216 7 = μ 216 7 := by rw [hν, updS_nk _ _ _ _ (by decide)]
    have w1 : ν 216 1 = P := by rw [hν, updS_nk _ _ _ _ (by decide), hP]
    have L : ∀ i : Nat, i ≤ (μ 216 7).toNat → PW p l e (r0 1) s m args below meth c D cy B 5 0 0 (vx_MQ below (Qp D cy B (qv (fun v μ2 => (μ 216 7 < 0 ∧ μ2 = updS μ 216 0 1) ∨ (¬ μ 216 7 < 0 ∧ v = bI (∃ i : Nat, i < (μ 216 7).toNat ∧ ∀ q : Nat, q < P → μ 218 q ≤ μ 221 (ix i q)) ∧ μ2 = updS μ 216 0 0)))) (Xp D cy B noX) args s (r0 1).cells (r0 1).slots (fun q => B ≤ q)) 20 [some (.ref (B + 216)), some (iN (bI (∃ j : Nat, j < i ∧ ∀ q : Nat, q < P → μ 218 q ≤ μ 221 (ix j q)))), some (iN i), none, none] [] ν := by
      refine up_to _ _ (fun i hi ih => ?_)
      have hz := bI_01 (∃ j : Nat, j < i ∧ ∀ q : Nat, q < P → μ 218 q ≤ μ 221 (ix j q))
      refine q_rng (fun hR => ?_)
      refine q_iload_n (pc := 20) C dX4_covered_20 rfl rfl ?_
      refine q_aload_n (pc := 21) C dX4_covered_21 rfl rfl ?_
      refine q_getI (pc := 22) (ci := 4) (k := 7) (ki := 7) C rfl rfl fiX4_covered_X4 (by decide) k216 (by decide) rfl (by decide) flX4_covered_22 rfl rfl dX4_covered_22 ?_
      refine q_icmp_ge (pc := 25) (tgt := 100) C (by first | exact hR _ _ | exact hRo _ _ | assumption | exact ⟨by omega, by omega⟩) (by first | exact hR _ _ | exact hRo _ _ | assumption | exact ⟨by omega, by omega⟩) dX4_covered_25 (by decide) (fun hc => ?_) (fun hc => ?_)
      · refine q_iload_n (pc := 100) C dX4_covered_100 rfl rfl ?_
        exact q_zret (pc := 101) C hret (by first | exact Or.inl rfl | exact Or.inr rfl | assumption) ⟨_, r_bI _, rfl, by rcases hc9 with ⟨z, y⟩ | ⟨z, y⟩; exact Or.inl ⟨y, by rw [hν, z]⟩; exact Or.inr ⟨y, by rw [show i = (μ 216 7).toNat by omega], by rw [hν, z]⟩⟩ (by decide) (by decide) dX4_covered_101
      · have IN : ∀ k : Nat, k ≤ P → PW p l e (r0 1) s m args below meth c D cy B 5 0 0 (vx_MQ below (Qp D cy B (qv (fun v μ2 => (μ 216 7 < 0 ∧ μ2 = updS μ 216 0 1) ∨ (¬ μ 216 7 < 0 ∧ v = bI (∃ i : Nat, i < (μ 216 7).toNat ∧ ∀ q : Nat, q < P → μ 218 q ≤ μ 221 (ix i q)) ∧ μ2 = updS μ 216 0 0)))) (Xp D cy B noX) args s (r0 1).cells (r0 1).slots (fun q => B ≤ q)) 33 [some (.ref (B + 216)), some (iN (bI (∃ j : Nat, j < i ∧ ∀ q : Nat, q < P → μ 218 q ≤ μ 221 (ix j q)))), some (iN i), some (iN (bI (∀ q : Nat, q < k → μ 218 q ≤ μ 221 (ix i q)))), some (iN k)] [] ν := by
          refine up_to P _ (fun k hk ihk => ?_)
          have hz2 := bI_01 (∀ q : Nat, q < k → μ 218 q ≤ μ 221 (ix i q))
          have J2 : ∀ b : Int, b = bI (∀ q : Nat, q < k + 1 → μ 218 q ≤ μ 221 (ix i q)) → k < P → PW p l e (r0 1) s m args below meth c D cy B 5 0 0 (vx_MQ below (Qp D cy B (qv (fun v μ2 => (μ 216 7 < 0 ∧ μ2 = updS μ 216 0 1) ∨ (¬ μ 216 7 < 0 ∧ v = bI (∃ i : Nat, i < (μ 216 7).toNat ∧ ∀ q : Nat, q < P → μ 218 q ≤ μ 221 (ix i q)) ∧ μ2 = updS μ 216 0 0)))) (Xp D cy B noX) args s (r0 1).cells (r0 1).slots (fun q => B ≤ q)) 73 [some (.ref (B + 216)), some (iN (bI (∃ j : Nat, j < i ∧ ∀ q : Nat, q < P → μ 218 q ≤ μ 221 (ix j q)))), some (iN i), some (iN (bI (∀ q : Nat, q < k → μ 218 q ≤ μ 221 (ix i q)))), some (iN k)] [iN b] ν := by
            intro b hb hkP
            rw [hb]
            refine q_istore_n (pc := 73) (lv2 := [_, _, _, _, _]) C dX4_covered_73 rfl (by decide) rfl ?_
            refine q_iinc (pc := 74) (lv2 := [_, _, _, _, _]) C dX4_covered_74 (by decide) rfl rfl ?_
            refine q_goto (pc := 77) (tgt := 33) C dX4_covered_77 (by decide) ?_
            exact ihk hkP
          have J3 : ∀ b : Int, b = bI (∃ j : Nat, j < i + 1 ∧ ∀ q : Nat, q < P → μ 218 q ≤ μ 221 (ix j q)) → PW p l e (r0 1) s m args below meth c D cy B 5 0 0 (vx_MQ below (Qp D cy B (qv (fun v μ2 => (μ 216 7 < 0 ∧ μ2 = updS μ 216 0 1) ∨ (¬ μ 216 7 < 0 ∧ v = bI (∃ i : Nat, i < (μ 216 7).toNat ∧ ∀ q : Nat, q < P → μ 218 q ≤ μ 221 (ix i q)) ∧ μ2 = updS μ 216 0 0)))) (Xp D cy B noX) args s (r0 1).cells (r0 1).slots (fun q => B ≤ q)) 93 [some (.ref (B + 216)), some (iN (bI (∃ j : Nat, j < i ∧ ∀ q : Nat, q < P → μ 218 q ≤ μ 221 (ix j q)))), some (iN i), some (iN (bI (∀ q : Nat, q < k → μ 218 q ≤ μ 221 (ix i q)))), some (iN k)] [iN b] ν := by
            intro b hb
            rw [hb]
            refine q_istore_n (pc := 93) (lv2 := [_, _, _, _, _]) C dX4_covered_93 rfl (by decide) rfl ?_
            refine q_drop 3 (lv2 := [_, _, _, none, _]) rfl ?_
            refine q_drop 4 (lv2 := [_, _, _, _, none]) rfl ?_
            refine q_iinc (pc := 94) (lv2 := [_, _, _, _, _]) C dX4_covered_94 (by decide) rfl rfl ?_
            refine q_goto (pc := 97) (tgt := 20) C dX4_covered_97 (by decide) ?_
            exact ih (by omega)
          refine q_iload (pc := 33) C dX4_covered_33 rfl ?_
          refine q_aload_n (pc := 35) C dX4_covered_35 rfl rfl ?_
          refine q_getI (pc := 36) (ci := 4) (k := 1) (ki := 1) C rfl rfl fiX4_covered_X4 (by decide) k216 (by decide) rfl (by decide) flX4_covered_66 rfl rfl dX4_covered_36 ?_
          refine q_icmp_ge (pc := 39) (tgt := 80) C (by first | exact hR _ _ | exact hRo _ _ | assumption | exact ⟨by omega, by omega⟩) (by first | exact hR _ _ | exact hRo _ _ | assumption | exact ⟨by omega, by omega⟩) dX4_covered_39 (by decide) (fun hd => ?_) (fun hd => ?_)
          · have e : k = P := by omega
            subst e
            refine q_iload_n (pc := 80) C dX4_covered_80 rfl rfl ?_
            refine q_if_ne (pc := 81) (tgt := 88) C (by first | exact hR _ _ | exact hRo _ _ | assumption | exact ⟨by omega, by omega⟩) dX4_covered_81 (by decide) (fun he => ?_) (fun he => ?_)
            · refine q_iconst (pc := 88) C dX4_covered_88 ?_
              refine q_goto (pc := 89) (tgt := 93) C dX4_covered_89 (by decide) ?_
              obtain ⟨j, hj, hj2⟩ := bI_1.mp (show bI (∃ j : Nat, j < i ∧ ∀ q : Nat, q < k → μ 218 q ≤ μ 221 (ix j q)) = 1 by omega)
              exact J3 1 (bI_t ⟨j, by omega, hj2⟩).symm
            · have hno := bI_0.mp (show bI (∃ j : Nat, j < i ∧ ∀ q : Nat, q < k → μ 218 q ≤ μ 221 (ix j q)) = 0 by omega)
              refine q_iload_n (pc := 84) C dX4_covered_84 rfl rfl ?_
              refine q_if_eq (pc := 85) (tgt := 92) C (by first | exact hR _ _ | exact hRo _ _ | assumption | exact ⟨by omega, by omega⟩) dX4_covered_85 (by decide) (fun hf => ?_) (fun hf => ?_)
              · refine q_iconst (pc := 92) C dX4_covered_92 ?_
                refine J3 0 (bI_f ?_).symm
                rintro ⟨j, hj, hj2⟩
                by_cases e : j = i
                · subst e
                  exact bI_0.mp hf hj2
                · exact hno ⟨j, by omega, hj2⟩
              · refine q_iconst (pc := 88) C dX4_covered_88 ?_
                refine q_goto (pc := 89) (tgt := 93) C dX4_covered_89 (by decide) ?_
                exact J3 1 (bI_t ⟨i, by omega, bI_1.mp (by omega)⟩).symm
          · refine q_iload_n (pc := 42) C dX4_covered_42 rfl rfl ?_
            refine q_if_eq (pc := 43) (tgt := 72) C (by first | exact hR _ _ | exact hRo _ _ | assumption | exact ⟨by omega, by omega⟩) dX4_covered_43 (by decide) (fun he => ?_) (fun he => ?_)
            · refine q_iconst (pc := 72) C dX4_covered_72 ?_
              refine J2 0 (bI_f (fun z => ?_)).symm (by omega)
              exact bI_0.mp he (fun q hq => z q (by omega))
            · have hyes := bI_1.mp (show bI (∀ q : Nat, q < k → μ 218 q ≤ μ 221 (ix i q)) = 1 by omega)
              refine q_aload_n (pc := 46) C dX4_covered_46 rfl rfl ?_
              refine q_getR (pc := 47) (ci := 4) (k := 8) (r := 221) C rfl fiX4_covered_X4 (by decide) k216 (by decide) rfl (by decide) flX4_covered_26 rfl rfl dX4_covered_47 ?_
              refine q_bipush (pc := 50) C (by decide +kernel) dX4_covered_50 ?_
              refine q_iload_n (pc := 52) C dX4_covered_52 rfl rfl ?_
              refine q_imul (pc := 53) C dX4_covered_53 ?_
              refine q_iload (pc := 54) C dX4_covered_54 rfl ?_
              refine q_iadd (pc := 56) C dX4_covered_56 ?_
              refine q_iaload (pc := 57) C k221 n221 (by decide) (by decide) (by omega) (by omega) dX4_covered_57 ?_
              rw [w221]
              refine q_aload_n (pc := 58) C dX4_covered_58 rfl rfl ?_
              refine q_getR (pc := 59) (ci := 4) (k := 4) (r := 218) C rfl fiX4_covered_X4 (by decide) k216 (by decide) rfl (by decide) flX4_covered_13 rfl rfl dX4_covered_59 ?_
              refine q_iload (pc := 62) C dX4_covered_62 rfl ?_
              refine q_iaload (pc := 64) C k218 n218 (by decide) (by decide) (by omega) (by omega) dX4_covered_64 ?_
              rw [w218]
              refine q_icmp_lt (pc := 65) (tgt := 72) C (by first | exact hR _ _ | exact hRo _ _ | assumption | exact ⟨by omega, by omega⟩) (by first | exact hR _ _ | exact hRo _ _ | assumption | exact ⟨by omega, by omega⟩) dX4_covered_65 (by decide) (fun hf => ?_) (fun hf => ?_)
              · refine q_iconst (pc := 72) C dX4_covered_72 ?_
                exact J2 0 (bI_f (fun z => Int.not_le.mpr hf (z k (by omega)))).symm (by omega)
              · refine q_iconst (pc := 68) C dX4_covered_68 ?_
                refine q_goto (pc := 69) (tgt := 73) C dX4_covered_69 (by decide) ?_
                refine J2 1 (bI_t (fun q hq => ?_)).symm (by omega)
                by_cases e : q = k
                · subst e; exact Int.not_lt.mp hf
                · exact hyes q (by omega)
        have I0 := IN 0 (by omega)
        rw [show bI (∀ q : Nat, q < 0 → μ 218 q ≤ μ 221 (ix i q)) = 1 from bI_t (fun q hq => absurd hq (by omega))] at I0
        refine q_iconst (pc := 28) C dX4_covered_28 ?_
        refine q_istore_n (pc := 29) (lv2 := [_, _, _, _, _]) C dX4_covered_29 rfl (by decide) rfl ?_
        refine q_iconst (pc := 30) C dX4_covered_30 ?_
        refine q_istore (pc := 31) (lv2 := [_, _, _, _, _]) C dX4_covered_31 (by decide) rfl ?_
        exact I0
    have L0 := L 0 (by omega)
    rw [show bI (∃ j : Nat, j < 0 ∧ ∀ q : Nat, q < P → μ 218 q ≤ μ 221 (ix j q)) = 0 from bI_f (by rintro ⟨j, hj, -⟩; omega)] at L0
    refine q_iconst (pc := 16) C dX4_covered_16 ?_
    refine q_istore_n (pc := 17) (lv2 := [_, _, _, _, _]) C dX4_covered_17 rfl (by decide) rfl ?_
    refine q_iconst (pc := 18) C dX4_covered_18 ?_
    refine q_istore_n (pc := 19) (lv2 := [_, _, _, _, _]) C dX4_covered_19 rfl (by decide) rfl ?_
    exact L0
  refine q_aload_n (pc := 0) C dX4_covered_0 rfl rfl ?_
  refine q_aload_n (pc := 1) C dX4_covered_1 rfl rfl ?_
  refine q_getI (pc := 2) (ci := 4) (k := 7) (ki := 7) C rfl rfl fiX4_covered_X4 (by decide) k216 (by decide) rfl (by decide) flX4_covered_22 rfl rfl dX4_covered_2 ?_
  refine q_if_ge (pc := 5) (tgt := 12) C (by first | exact hR _ _ | exact hRo _ _ | assumption | exact ⟨by omega, by omega⟩) dX4_covered_5 (by decide) (fun h1 => ?_) (fun h1 => ?_)
  · refine q_iconst (pc := 12) C dX4_covered_12 ?_
    exact J 0 (Or.inr ⟨rfl, by omega⟩)
  · refine q_iconst (pc := 8) C dX4_covered_8 ?_
    refine q_goto (pc := 9) (tgt := 13) C dX4_covered_9 (by decide) ?_
    exact J 1 (Or.inl ⟨rfl, by omega⟩)
set_option maxHeartbeats 4000000 in
set_option maxRecDepth 100000 in
theorem m_possible {l : Launch} (hlf : l.stackTraces = false) (D : va_G) (cy : Nat → ClassId) (B : Nat) {μ : St} {P T : Nat} {t : Int} (ht : InR t) (hP : μ 216 1 = P) (h6 : P ≤ 6) (hT : μ 216 2 = T) (h8 : T ≤ 8) (hs : μ 216 7 ≤ 100) : PC l D cy B yX4_possible wsX4_possible (r0 1) [.ref (B + 216), iN t] μ (qv (fun v μ2 => (μ 216 7 < 0 ∧ μ2 = updS μ 216 0 1) ∨ (¬ μ 216 7 < 0 ∧ ¬ (0 ≤ t ∧ t < T) ∧ μ2 = updS μ 216 0 2) ∨ (¬ μ 216 7 < 0 ∧ (0 ≤ t ∧ t < T) ∧ v = bI (∃ i : Nat, i < (μ 216 7).toNat ∧ ∀ q : Nat, q < P → μ 219 (ix t.toNat q) ≤ μ 221 (ix i q)) ∧ μ2 = updS μ 216 0 0))) noX := by
  refine PC.pre (fun hR => ?_)
  refine q_start (cc := cX4_possible) (maxL := 4) (ret := (some .boolean)) hlf (by decide +kernel) rfl (by simp [Value.category]) (Nat.le_of_ble_eq_true rfl) ?_
  intro p e s m args below meth c C hret hno
  show PW p l e (r0 1) s m args below meth c D cy B 4 0 0 _ 0 [some (.ref (B + 216)), some (iN t), none, none] [] μ
  have hRo := hR
  have J : ∀ c9 : Int, (c9 = 1 ∧ μ 216 7 < 0) ∨ (c9 = 2 ∧ ¬ μ 216 7 < 0 ∧ ¬ (0 ≤ t ∧ t < T)) ∨ (c9 = 0 ∧ ¬ μ 216 7 < 0 ∧ (0 ≤ t ∧ t < T)) → PW p l e (r0 1) s m args below meth c D cy B 4 0 0 (vx_MQ below (Qp D cy B (qv (fun v μ2 => (μ 216 7 < 0 ∧ μ2 = updS μ 216 0 1) ∨ (¬ μ 216 7 < 0 ∧ ¬ (0 ≤ t ∧ t < T) ∧ μ2 = updS μ 216 0 2) ∨ (¬ μ 216 7 < 0 ∧ (0 ≤ t ∧ t < T) ∧ v = bI (∃ i : Nat, i < (μ 216 7).toNat ∧ ∀ q : Nat, q < P → μ 219 (ix t.toNat q) ≤ μ 221 (ix i q)) ∧ μ2 = updS μ 216 0 0)))) (Xp D cy B noX) args s (r0 1).cells (r0 1).slots (fun q => B ≤ q)) 25 [some (.ref (B + 216)), some (iN t), none, none] [iN c9, .ref (B + 216)] μ := by
    intro c9 hc9
    have hr9 : InR c9 := ⟨by omega, by omega⟩
    refine q_put (pc := 25) (ci := 4) (k := 0) (ki := 0) (ty0 := tyX4) C rfl rfl fiX4_possible_X4 (by decide) k216 (by decide) rfl (by decide) flX4_possible_63 rfl tyX4_ok nmX4 rfl rfl rfl (by first | exact hR _ _ | exact hRo _ _ | assumption | exact ⟨by omega, by omega⟩) dX4_possible_25 ?_
    obtain ⟨ν, hν⟩ : ∃ ν : St, ν = updS μ 216 0 c9 := ⟨_, rfl⟩
    refine q_mu hν.symm ?_
    have w0 : ν 216 0 = c9 := by rw [hν, updS_self]
    have w7 : ν 216 7 = μ 216 7 := by rw [hν, updS_nk _ _ _ _ (by decide)]
    have w1 : ν 216 1 = P := by rw [hν, updS_nk _ _ _ _ (by decide), hP]
    have wb : ∀ i t9 : Nat, (∀ q : Nat, q < P → ν 219 (ix t9 q) ≤ ν 221 (ix i q)) ↔ ∀ q : Nat, q < P → μ 219 (ix t9 q) ≤ μ 221 (ix i q) := by
      intro i t9
      have w219 : ∀ k, ν 219 k = μ 219 k := fun k => by rw [hν, updS_ne _ _ _ _ (by decide)]
      have w221 : ∀ k, ν 221 k = μ 221 k := fun k => by rw [hν, updS_ne _ _ _ _ (by decide)]
      constructor
      · intro z q hq
        have := z q hq
        rw [w219, w221] at this
        exact this
      · intro z q hq
        rw [w219, w221]
        exact z q hq
    by_cases h0 : c9 = 0
    · subst h0
      obtain ⟨t9, ht9⟩ : ∃ t9 : Nat, t = t9 := ⟨t.toNat, by omega⟩
      have L : ∀ i : Nat, i ≤ (μ 216 7).toNat → PW p l e (r0 1) s m args below meth c D cy B 4 0 0 (vx_MQ below (Qp D cy B (qv (fun v μ2 => (μ 216 7 < 0 ∧ μ2 = updS μ 216 0 1) ∨ (¬ μ 216 7 < 0 ∧ ¬ (0 ≤ t ∧ t < T) ∧ μ2 = updS μ 216 0 2) ∨ (¬ μ 216 7 < 0 ∧ (0 ≤ t ∧ t < T) ∧ v = bI (∃ i : Nat, i < (μ 216 7).toNat ∧ ∀ q : Nat, q < P → μ 219 (ix t.toNat q) ≤ μ 221 (ix i q)) ∧ μ2 = updS μ 216 0 0)))) (Xp D cy B noX) args s (r0 1).cells (r0 1).slots (fun q => B ≤ q)) 32 [some (.ref (B + 216)), some (iN t), some (iN (bI (∃ j : Nat, j < i ∧ ∀ q : Nat, q < P → μ 219 (ix t9 q) ≤ μ 221 (ix j q)))), some (iN i)] [] ν := by
        refine up_to _ _ (fun i hi ih => ?_)
        have hz := bI_01 (∃ j : Nat, j < i ∧ ∀ q : Nat, q < P → μ 219 (ix t9 q) ≤ μ 221 (ix j q))
        have J2 : ∀ b : Int, b = bI (∃ j : Nat, j < i + 1 ∧ ∀ q : Nat, q < P → μ 219 (ix t9 q) ≤ μ 221 (ix j q)) → i < (μ 216 7).toNat → PW p l e (r0 1) s m args below meth c D cy B 4 0 0 (vx_MQ below (Qp D cy B (qv (fun v μ2 => (μ 216 7 < 0 ∧ μ2 = updS μ 216 0 1) ∨ (¬ μ 216 7 < 0 ∧ ¬ (0 ≤ t ∧ t < T) ∧ μ2 = updS μ 216 0 2) ∨ (¬ μ 216 7 < 0 ∧ (0 ≤ t ∧ t < T) ∧ v = bI (∃ i : Nat, i < (μ 216 7).toNat ∧ ∀ q : Nat, q < P → μ 219 (ix t.toNat q) ≤ μ 221 (ix i q)) ∧ μ2 = updS μ 216 0 0)))) (Xp D cy B noX) args s (r0 1).cells (r0 1).slots (fun q => B ≤ q)) 65 [some (.ref (B + 216)), some (iN t), some (iN (bI (∃ j : Nat, j < i ∧ ∀ q : Nat, q < P → μ 219 (ix t9 q) ≤ μ 221 (ix j q)))), some (iN i)] [iN b] ν := by
          intro b hb hin
          rw [hb]
          refine q_istore_n (pc := 65) (lv2 := [_, _, _, _]) C dX4_possible_65 rfl (by decide) rfl ?_
          refine q_iinc (pc := 66) (lv2 := [_, _, _, _]) C dX4_possible_66 (by decide) rfl rfl ?_
          refine q_goto (pc := 69) (tgt := 32) C dX4_possible_69 (by decide) ?_
          exact ih hin
        refine q_rng (fun hR => ?_)
        refine q_iload_n (pc := 32) C dX4_possible_32 rfl rfl ?_
        refine q_aload_n (pc := 33) C dX4_possible_33 rfl rfl ?_
        refine q_getI (pc := 34) (ci := 4) (k := 7) (ki := 7) C rfl rfl fiX4_possible_X4 (by decide) k216 (by decide) rfl (by decide) flX4_possible_22 rfl rfl dX4_possible_34 ?_
        refine q_icmp_ge (pc := 37) (tgt := 72) C (by first | exact hR _ _ | exact hRo _ _ | assumption | exact ⟨by omega, by omega⟩) (by first | exact hR _ _ | exact hRo _ _ | assumption | exact ⟨by omega, by omega⟩) dX4_possible_37 (by decide) (fun hc => ?_) (fun hc => ?_)
        · refine q_iload_n (pc := 72) C dX4_possible_72 rfl rfl ?_
          exact q_zret (pc := 73) C hret (by first | exact Or.inl rfl | exact Or.inr rfl | assumption) ⟨_, r_bI _, rfl, Or.inr (Or.inr ⟨by omega, by omega, by rw [show i = (μ 216 7).toNat by omega, ht9]; rfl, hν⟩)⟩ (by decide) (by decide) dX4_possible_73
        · refine q_aload_n (pc := 40) C dX4_possible_40 rfl rfl ?_
          refine q_getI (pc := 41) (ci := 4) (k := 0) (ki := 0) C rfl rfl fiX4_possible_X4 (by decide) k216 (by decide) rfl (by decide) flX4_possible_63 rfl rfl dX4_possible_41 ?_
          rw [w0]
          refine q_if_ne (pc := 44) (tgt := 72) C (by first | exact hR _ _ | exact hRo _ _ | assumption | exact ⟨by omega, by omega⟩) dX4_possible_44 (by decide) (fun hd => ?_) (fun hd => ?_)
          · exact absurd rfl hd
          · refine q_iload_n (pc := 47) C dX4_possible_47 rfl rfl ?_
            refine q_if_ne (pc := 48) (tgt := 60) C (by first | exact hR _ _ | exact hRo _ _ | assumption | exact ⟨by omega, by omega⟩) dX4_possible_48 (by decide) (fun he => ?_) (fun he => ?_)
            · refine q_iconst (pc := 60) C dX4_possible_60 ?_
              refine q_goto (pc := 61) (tgt := 65) C dX4_possible_61 (by decide) ?_
              obtain ⟨j, hj, hj2⟩ := bI_1.mp (show bI (∃ j : Nat, j < i ∧ ∀ q : Nat, q < P → μ 219 (ix t9 q) ≤ μ 221 (ix j q)) = 1 by omega)
              exact J2 1 (bI_t ⟨j, by omega, hj2⟩).symm (by omega)
            · have hno := bI_0.mp (show bI (∃ j : Nat, j < i ∧ ∀ q : Nat, q < P → μ 219 (ix t9 q) ≤ μ 221 (ix j q)) = 0 by omega)
              subst ht9
              refine q_aload_n (pc := 51) C dX4_possible_51 rfl rfl ?_
              refine q_iload_n (pc := 52) C dX4_possible_52 rfl rfl ?_
              refine q_iload_n (pc := 53) C dX4_possible_53 rfl rfl ?_
              refine q_callV (pc := 54) (As := [_, _]) (rest := []) C (m_enabledAt hlf D cy B (P := P) (n := i) (t := t9) w1 h6 (by omega) (by omega)) (cwV 2 C.2.2.2.2.1 gX4_possible_X4_enabledAt rfl rfl rfl (by decide +kernel) ⟨Nat.le_of_ble_eq_true rfl, Nat.le_of_ble_eq_true rfl⟩) (ci := 4) rfl k216 (by decide) (by decide) rfl rfl (by first | decide | simp [Value.category]) dX4_possible_54 (by decide) (fun _ _ h => h.elim) (fun v μ9 hv => ?_)
              have e8 := hv.1
              have e9 := hv.2.symm
              clear hv
              subst e8
              subst e9
              dsimp only [Option.toList, List.cons_append, List.nil_append]
              have hz3 := bI_01 (∀ q : Nat, q < P → ν 219 (ix t9 q) ≤ ν 221 (ix i q))
              refine q_if_eq (pc := 57) (tgt := 64) C (by first | exact hR _ _ | exact hRo _ _ | assumption | exact ⟨by omega, by omega⟩) dX4_possible_57 (by decide) (fun hf => ?_) (fun hf => ?_)
              · refine q_iconst (pc := 64) C dX4_possible_64 ?_
                refine J2 0 (bI_f ?_).symm (by omega)
                rintro ⟨j, hj, hj2⟩
                by_cases e : j = i
                · subst e
                  exact bI_0.mp hf ((wb _ _).mpr hj2)
                · exact hno ⟨j, by omega, hj2⟩
              · refine q_iconst (pc := 60) C dX4_possible_60 ?_
                refine q_goto (pc := 61) (tgt := 65) C dX4_possible_61 (by decide) ?_
                exact J2 1 (bI_t ⟨i, by omega, (wb _ _).mp (bI_1.mp (by omega))⟩).symm (by omega)
      have L0 := L 0 (by omega)
      rw [show bI (∃ j : Nat, j < 0 ∧ ∀ q : Nat, q < P → μ 219 (ix t9 q) ≤ μ 221 (ix j q)) = 0 from bI_f (by rintro ⟨j, hj, -⟩; omega)] at L0
      refine q_iconst (pc := 28) C dX4_possible_28 ?_
      refine q_istore_n (pc := 29) (lv2 := [_, _, _, _]) C dX4_possible_29 rfl (by decide) rfl ?_
      refine q_iconst (pc := 30) C dX4_possible_30 ?_
      refine q_istore_n (pc := 31) (lv2 := [_, _, _, _]) C dX4_possible_31 rfl (by decide) rfl ?_
      exact L0
    · refine q_rng (fun hR => ?_)
      have hend : ∀ k9 : Int, PW p l e (r0 1) s m args below meth c D cy B 4 0 0 (vx_MQ below (Qp D cy B (qv (fun v μ2 => (μ 216 7 < 0 ∧ μ2 = updS μ 216 0 1) ∨ (¬ μ 216 7 < 0 ∧ ¬ (0 ≤ t ∧ t < T) ∧ μ2 = updS μ 216 0 2) ∨ (¬ μ 216 7 < 0 ∧ (0 ≤ t ∧ t < T) ∧ v = bI (∃ i : Nat, i < (μ 216 7).toNat ∧ ∀ q : Nat, q < P → μ 219 (ix t.toNat q) ≤ μ 221 (ix i q)) ∧ μ2 = updS μ 216 0 0)))) (Xp D cy B noX) args s (r0 1).cells (r0 1).slots (fun q => B ≤ q)) 72 [some (.ref (B + 216)), some (iN t), some (iN 0), some (iN 0)] [] ν := by
        intro _
        refine q_iload_n (pc := 72) C dX4_possible_72 rfl rfl ?_
        exact q_zret (pc := 73) C hret (by first | exact Or.inl rfl | exact Or.inr rfl | assumption) ⟨0, r_0, rfl, by rcases hc9 with ⟨z, y⟩ | ⟨z, y⟩ | ⟨z, y⟩; exact Or.inl ⟨y, by rw [hν, z]⟩; exact Or.inr (Or.inl ⟨y.1, y.2, by rw [hν, z]⟩); exact absurd z h0⟩ (by decide) (by decide) dX4_possible_73
      refine q_iconst (pc := 28) C dX4_possible_28 ?_
      refine q_istore_n (pc := 29) (lv2 := [_, _, _, _]) C dX4_possible_29 rfl (by decide) rfl ?_
      refine q_iconst (pc := 30) C dX4_possible_30 ?_
      refine q_istore_n (pc := 31) (lv2 := [_, _, _, _]) C dX4_possible_31 rfl (by decide) rfl ?_
      refine q_iload_n (pc := 32) C dX4_possible_32 rfl rfl ?_
      refine q_aload_n (pc := 33) C dX4_possible_33 rfl rfl ?_
      refine q_getI (pc := 34) (ci := 4) (k := 7) (ki := 7) C rfl rfl fiX4_possible_X4 (by decide) k216 (by decide) rfl (by decide) flX4_possible_22 rfl rfl dX4_possible_34 ?_
      refine q_icmp_ge (pc := 37) (tgt := 72) C (by first | exact hR _ _ | exact hRo _ _ | assumption | exact ⟨by omega, by omega⟩) (by first | exact hR _ _ | exact hRo _ _ | assumption | exact ⟨by omega, by omega⟩) dX4_possible_37 (by decide) (fun hc => ?_) (fun hc => ?_)
      · exact hend 0
      · refine q_aload_n (pc := 40) C dX4_possible_40 rfl rfl ?_
        refine q_getI (pc := 41) (ci := 4) (k := 0) (ki := 0) C rfl rfl fiX4_possible_X4 (by decide) k216 (by decide) rfl (by decide) flX4_possible_63 rfl rfl dX4_possible_41 ?_
        rw [w0]
        refine q_if_ne (pc := 44) (tgt := 72) C (by first | exact hR _ _ | exact hRo _ _ | assumption | exact ⟨by omega, by omega⟩) dX4_possible_44 (by decide) (fun hd => ?_) (fun hd => ?_)
        · exact hend 0
        · exact absurd hd h0
  refine q_aload_n (pc := 0) C dX4_possible_0 rfl rfl ?_
  refine q_aload_n (pc := 1) C dX4_possible_1 rfl rfl ?_
  refine q_getI (pc := 2) (ci := 4) (k := 7) (ki := 7) C rfl rfl fiX4_possible_X4 (by decide) k216 (by decide) rfl (by decide) flX4_possible_22 rfl rfl dX4_possible_2 ?_
  refine q_if_ge (pc := 5) (tgt := 12) C (by first | exact hR _ _ | exact hRo _ _ | assumption | exact ⟨by omega, by omega⟩) dX4_possible_5 (by decide) (fun h1 => ?_) (fun h1 => ?_)
  · refine q_aload_n (pc := 12) C dX4_possible_12 rfl rfl ?_
    refine q_iload_n (pc := 13) C dX4_possible_13 rfl rfl ?_
    refine q_callV (pc := 14) (As := [_]) (rest := [_]) C (m_noTransition hlf D cy B (T := T) (n := t) ht hT) (cwV 1 C.2.2.2.2.1 gX4_possible_X4_noTransition rfl rfl rfl (by decide +kernel) ⟨Nat.le_of_ble_eq_true rfl, Nat.le_of_ble_eq_true rfl⟩) (ci := 4) rfl k216 (by decide) (by decide) rfl rfl (by first | decide | simp [Value.category]) dX4_possible_14 (by decide) (fun _ _ h => h.elim) (fun v μ9 hv => ?_)
    have e8 := hv.1
    have e9 := hv.2.symm
    clear hv
    subst e8
    subst e9
    dsimp only [Option.toList, List.cons_append, List.nil_append]
    have hb1 := bI_01 (¬ (0 ≤ t ∧ t < (T : Int)))
    refine q_if_eq (pc := 17) (tgt := 24) C (by first | exact hR _ _ | exact hRo _ _ | assumption | exact ⟨by omega, by omega⟩) dX4_possible_17 (by decide) (fun h4 => ?_) (fun h4 => ?_)
    · have h2' := bI_0.mp h4
      refine q_iconst (pc := 24) C dX4_possible_24 ?_
      exact J 0 (Or.inr (Or.inr ⟨rfl, by omega, by omega⟩))
    · have h2' := bI_1.mp (show bI (¬ (0 ≤ t ∧ t < (T : Int))) = 1 by omega)
      refine q_iconst (pc := 20) C dX4_possible_20 ?_
      refine q_goto (pc := 21) (tgt := 25) C dX4_possible_21 (by decide) ?_
      exact J 2 (Or.inr (Or.inl ⟨rfl, by omega, by omega⟩))
  · refine q_iconst (pc := 8) C dX4_possible_8 ?_
    refine q_goto (pc := 9) (tgt := 25) C dX4_possible_9 (by decide) ?_
    exact J 1 (Or.inl ⟨rfl, by omega⟩)
/- the nodes below n are a tree in the model, dp their depths -/
def chM (μ : St) (n : Nat) (dp : Nat → Nat) : Prop := ∀ i : Nat, i < n → (i = 0 ∧ dp i = 0 ∧ μ 222 i = -1) ∨ ∃ j : Nat, j < i ∧ μ 222 i = j ∧ dp i = dp j + 1
theorem chM_le {μ : St} {n : Nat} {dp : Nat → Nat} (h : chM μ n dp) : ∀ i : Nat, i < n → dp i ≤ i := by
  intro i
  induction i using Nat.strongRecOn with
  | ind i ih =>
    intro hi
    rcases h i hi with ⟨e1, e2, -⟩ | ⟨j, hj, -, h3⟩
    · omega
    · have := ih j hj (by omega)
      omega
set_option maxHeartbeats 4000000 in
set_option maxRecDepth 100000 in
theorem m_depth {l : Launch} (hlf : l.stackTraces = false) (D : va_G) (cy : Nat → ClassId) (B : Nat) {μ : St} {n k : Nat} {dp : Nat → Nat} (hn : n ≤ 100) (hk : k < n) (hch : chM μ n dp) : PC l D cy B yX4_depth wsX4_depth (r0 0) [.ref (B + 216), iN k] μ (ret1 (dp k) μ) noX := by
  refine PC.pre (fun hR => ?_)
  refine q_start (cc := cX4_depth) (maxL := 4) (ret := (some .int)) hlf (by decide +kernel) rfl (by simp [Value.category]) (Nat.le_of_ble_eq_true rfl) ?_
  intro p e s m args below meth c C hret hno
  show PW p l e (r0 0) s m args below meth c D cy B 4 0 0 _ 0 [some (.ref (B + 216)), some (iN k), none, none] [] μ
  have hle := chM_le hch k hk
  have L : ∀ (d u c9 : Nat), u < n → dp u = d → c9 + d = dp k → PW p l e (r0 0) s m args below meth c D cy B 4 0 0 (vx_MQ below (Qp D cy B (ret1 (dp k) μ)) (Xp D cy B noX) args s (r0 0).cells (r0 0).slots (fun q => B ≤ q)) 4 [some (.ref (B + 216)), some (iN k), some (iN c9), some (iN u)] [] μ := by
    intro d
    induction d with
    | zero =>
      intro u c9 hu hd hc
      rcases hch u hu with ⟨e1, e2, -⟩ | ⟨j, hj, -, h3⟩
      · subst e1
        refine q_iload_n (pc := 4) C dX4_depth_4 rfl rfl ?_
        refine q_if_le (pc := 5) (tgt := 21) C (by first | exact hR _ _ | exact hRo _ _ | assumption | exact ⟨by omega, by omega⟩) dX4_depth_5 (by decide) (fun hq => ?_) (fun hq => ?_)
        · refine q_iload_n (pc := 21) C dX4_depth_21 rfl rfl ?_
          exact q_iret (pc := 22) C hret ⟨by rw [show c9 = dp k by omega], rfl⟩ (by decide) (by decide) dX4_depth_22
        · exact absurd hq (by decide)
      · omega
    | succ d ih =>
      intro u c9 hu hd hc
      rcases hch u hu with ⟨e1, e2, -⟩ | ⟨j, hj, h2, h3⟩
      · omega
      · refine q_iload_n (pc := 4) C dX4_depth_4 rfl rfl ?_
        refine q_if_le (pc := 5) (tgt := 21) C (by first | exact hR _ _ | exact hRo _ _ | assumption | exact ⟨by omega, by omega⟩) dX4_depth_5 (by decide) (fun hq => ?_) (fun hq => ?_)
        · exact absurd hq (by omega)
        · refine q_iinc (pc := 8) (lv2 := [_, _, _, _]) C dX4_depth_8 (by decide) rfl rfl ?_
          refine q_aload_n (pc := 11) C dX4_depth_11 rfl rfl ?_
          refine q_getR (pc := 12) (ci := 4) (k := 9) (r := 222) C rfl fiX4_depth_X4 (by decide) k216 (by decide) rfl (by decide) flX4_depth_29 rfl rfl dX4_depth_12 ?_
          refine q_iload_n (pc := 15) C dX4_depth_15 rfl rfl ?_
          refine q_iaload (pc := 16) C k222 n222 (by decide) (by decide) (by omega) (by omega) dX4_depth_16 ?_
          rw [h2]
          refine q_istore_n (pc := 17) (lv2 := [_, _, _, _]) C dX4_depth_17 rfl (by decide) rfl ?_
          refine q_goto (pc := 18) (tgt := 4) C dX4_depth_18 (by decide) ?_
          exact ih j (c9 + 1) (by omega) (by omega) (by omega)
  refine q_iconst (pc := 0) C dX4_depth_0 ?_
  refine q_istore_n (pc := 1) (lv2 := [_, _, _, _]) C dX4_depth_1 rfl (by decide) rfl ?_
  refine q_iload_n (pc := 2) C dX4_depth_2 rfl rfl ?_
  refine q_istore_n (pc := 3) (lv2 := [_, _, _, _]) C dX4_depth_3 rfl (by decide) rfl ?_
  exact L (dp k) k 0 hk rfl (by omega)
def upM (μ : St) : Nat → Nat → Nat
  | 0, u => u
  | k + 1, u => upM μ k (μ 222 u).toNat
theorem upM_succ (μ : St) (k u : Nat) : upM μ (k + 1) u = upM μ k (μ 222 u).toNat := rfl
set_option maxHeartbeats 4000000 in
set_option maxRecDepth 100000 in
theorem m_growth {l : Launch} (hlf : l.stackTraces = false) (D : va_G) (cy : Nat → ClassId) (B : Nat) {μ : St} {i : Int} {dp : Nat → Nat} (hi : InR i) (hs : μ 216 7 ≤ 100) (hch : chM μ (μ 216 7).toNat dp) (hgr : ¬ μ 216 7 < 0 → μ 216 13 = -1 ∨ ∃ f s9 : Nat, f < (μ 216 7).toNat ∧ s9 < (μ 216 7).toNat ∧ μ 216 13 = f ∧ μ 216 14 = s9) : PC l D cy B yX4_growth wsX4_growth (r0 1) [.ref (B + 216), iN i] μ (qv (fun v μ2 => (μ 216 7 < 0 ∧ μ2 = updS μ 216 0 1) ∨ (¬ μ 216 7 < 0 ∧ i < -1 ∧ μ2 = updS μ 216 0 2) ∨ (¬ μ 216 7 < 0 ∧ -1 ≤ i ∧ μ2 = updS μ 216 0 0 ∧ ((μ 216 13 = -1 ∧ v = -2) ∨ ∃ f s9 : Nat, f < (μ 216 7).toNat ∧ s9 < (μ 216 7).toNat ∧ μ 216 13 = f ∧ μ 216 14 = s9 ∧ ((i = -1 ∧ v = dp s9) ∨ ∃ k : Nat, i = k ∧ v = if dp f ≤ k then -1 else μ 223 (upM μ (dp f - (k + 1)) f)))))) noX := by
  refine PC.pre (fun hR => ?_)
  refine q_start (cc := cX4_growth) (maxL := 4) (ret := (some .int)) hlf (by decide +kernel) rfl (by simp [Value.category]) (Nat.le_of_ble_eq_true rfl) ?_
  intro p e s m args below meth c C hret hno
  show PW p l e (r0 1) s m args below meth c D cy B 4 0 0 _ 0 [some (.ref (B + 216)), some (iN i), none, none] [] μ
  have hR9 := hR
  have J : ∀ c9 : Int, (c9 = 1 ∧ μ 216 7 < 0) ∨ (c9 = 2 ∧ ¬ μ 216 7 < 0 ∧ i < -1) ∨ (c9 = 0 ∧ ¬ μ 216 7 < 0 ∧ -1 ≤ i) → PW p l e (r0 1) s m args below meth c D cy B 4 0 0 (vx_MQ below (Qp D cy B (qv (fun v μ2 => (μ 216 7 < 0 ∧ μ2 = updS μ 216 0 1) ∨ (¬ μ 216 7 < 0 ∧ i < -1 ∧ μ2 = updS μ 216 0 2) ∨ (¬ μ 216 7 < 0 ∧ -1 ≤ i ∧ μ2 = updS μ 216 0 0 ∧ ((μ 216 13 = -1 ∧ v = -2) ∨ ∃ f s9 : Nat, f < (μ 216 7).toNat ∧ s9 < (μ 216 7).toNat ∧ μ 216 13 = f ∧ μ 216 14 = s9 ∧ ((i = -1 ∧ v = dp s9) ∨ ∃ k : Nat, i = k ∧ v = if dp f ≤ k then -1 else μ 223 (upM μ (dp f - (k + 1)) f))))))) (Xp D cy B noX) args s (r0 1).cells (r0 1).slots (fun q => B ≤ q)) 22 [some (.ref (B + 216)), some (iN i), none, none] [iN c9, .ref (B + 216)] μ := by
    intro c9 hc9
    have hr9 : InR c9 := ⟨by omega, by omega⟩
    refine q_put (pc := 22) (ci := 4) (k := 0) (ki := 0) (ty0 := tyX4) C rfl rfl fiX4_growth_X4 (by decide) k216 (by decide) rfl (by decide) flX4_growth_63 rfl tyX4_ok nmX4 rfl rfl rfl (by first | exact hR _ _ | exact hRo _ _ | assumption | exact ⟨by omega, by omega⟩) dX4_growth_22 ?_
    refine q_aload_n (pc := 25) C dX4_growth_25 rfl rfl ?_
    refine q_getI (pc := 26) (ci := 4) (k := 0) (ki := 0) C rfl rfl fiX4_growth_X4 (by decide) k216 (by decide) rfl (by decide) flX4_growth_63 rfl rfl dX4_growth_26 ?_
    simp only [updS_ap, Nat.reduceEqDiff, Int.reduceEq, Int.toNat_natCast, false_and, true_and, and_false, and_true, and_self, if_false, if_true, ↓reduceIte]
    refine q_if_le (pc := 29) (tgt := 34) C (by first | exact hR _ _ | exact hRo _ _ | assumption | exact ⟨by omega, by omega⟩) dX4_growth_29 (by decide) (fun hq => ?_) (fun hq => ?_)
    · have h0 : c9 = 0 := by omega
      subst h0
      have hnn : ¬ μ 216 7 < 0 := by omega
      obtain ⟨n9, hn9⟩ : ∃ n9 : Nat, μ 216 7 = n9 := ⟨(μ 216 7).toNat, by omega⟩
      rw [hn9] at hch hgr
      rw [show ((n9 : Nat) : Int).toNat = n9 from rfl] at hch hgr
      obtain ⟨ν, hν⟩ : ∃ ν : St, ν = updS μ 216 0 0 := ⟨_, rfl⟩
      refine q_mu hν.symm ?_
      have w222 : ∀ k, ν 222 k = μ 222 k := fun k => by rw [hν, updS_ne _ _ _ _ (by decide)]
      have w223 : ∀ k, ν 223 k = μ 223 k := fun k => by rw [hν, updS_ne _ _ _ _ (by decide)]
      have w13 : ν 216 13 = μ 216 13 := by rw [hν, updS_nk _ _ _ _ (by decide)]
      have w14 : ν 216 14 = μ 216 14 := by rw [hν, updS_nk _ _ _ _ (by decide)]
      have hch2 : chM ν n9 dp := fun i hi => by rw [w222]; exact hch i hi
      refine q_rng (fun hR => ?_)
      refine q_aload_n (pc := 34) C dX4_growth_34 rfl rfl ?_
      refine q_getI (pc := 35) (ci := 4) (k := 13) (ki := 13) C rfl rfl fiX4_growth_X4 (by decide) k216 (by decide) rfl (by decide) flX4_growth_89 rfl rfl dX4_growth_35 ?_
      rcases hgr (by omega) with hg | ⟨f, s9, hf, hs9, hg, hg2⟩
      · rw [w13.trans hg]
        refine q_if_ge (pc := 38) (tgt := 44) C (by first | exact hR _ _ | exact hRo _ _ | assumption | exact ⟨by omega, by omega⟩) dX4_growth_38 (by decide) (fun h2 => ?_) (fun h2 => ?_)
        · exact absurd h2 (by decide)
        · refine q_bipush (pc := 41) C (by decide +kernel) dX4_growth_41 ?_
          exact q_iret (pc := 43) C hret ⟨-2, ⟨by decide, by decide⟩, rfl, Or.inr (Or.inr ⟨by omega, by omega, hν, Or.inl ⟨hg, rfl⟩⟩)⟩ (by decide) (by decide) dX4_growth_43
      · have hdf := chM_le hch f hf
        rw [w13.trans hg]
        refine q_if_ge (pc := 38) (tgt := 44) C (by first | exact hR _ _ | exact hRo _ _ | assumption | exact ⟨by omega, by omega⟩) dX4_growth_38 (by decide) (fun h2 => ?_) (fun h2 => ?_)
        · refine q_iload_n (pc := 44) C dX4_growth_44 rfl rfl ?_
          refine q_if_ge (pc := 45) (tgt := 57) C (by first | exact hR _ _ | exact hRo _ _ | assumption | exact ⟨by omega, by omega⟩) dX4_growth_45 (by decide) (fun h3 => ?_) (fun h3 => ?_)
          · obtain ⟨k, hk⟩ : ∃ k : Nat, i = k := ⟨i.toNat, by omega⟩
            have hkr := hi.2
            have RT : ∀ (l9 : Int) (u : Nat), u < n9 → InR l9 → l9 ≤ 0 → ((l9 < 0 ∧ dp f ≤ k) ∨ (¬ l9 < 0 ∧ ¬ dp f ≤ k ∧ u = upM μ (dp f - (k + 1)) f)) → PW p l e (r0 1) s m args below meth c D cy B 4 0 0 (vx_MQ below (Qp D cy B (qv (fun v μ2 => (μ 216 7 < 0 ∧ μ2 = updS μ 216 0 1) ∨ (¬ μ 216 7 < 0 ∧ i < -1 ∧ μ2 = updS μ 216 0 2) ∨ (¬ μ 216 7 < 0 ∧ -1 ≤ i ∧ μ2 = updS μ 216 0 0 ∧ ((μ 216 13 = -1 ∧ v = -2) ∨ ∃ f s9 : Nat, f < (μ 216 7).toNat ∧ s9 < (μ 216 7).toNat ∧ μ 216 13 = f ∧ μ 216 14 = s9 ∧ ((i = -1 ∧ v = dp s9) ∨ ∃ k : Nat, i = k ∧ v = if dp f ≤ k then -1 else μ 223 (upM μ (dp f - (k + 1)) f))))))) (Xp D cy B noX) args s (r0 1).cells (r0 1).slots (fun q => B ≤ q)) 92 [some (.ref (B + 216)), some (iN i), some (iN l9), some (iN u)] [] ν := by
              intro l9 u hu hl hl0 hcs
              refine q_iload_n (pc := 92) C dX4_growth_92 rfl rfl ?_
              refine q_if_ge (pc := 93) (tgt := 100) C (by first | exact hR _ _ | exact hRo _ _ | assumption | exact ⟨by omega, by omega⟩) dX4_growth_93 (by decide) (fun h7 => ?_) (fun h7 => ?_)
              · refine q_aload_n (pc := 100) C dX4_growth_100 rfl rfl ?_
                refine q_getR (pc := 101) (ci := 4) (k := 10) (r := 223) C rfl fiX4_growth_X4 (by decide) k216 (by decide) rfl (by decide) flX4_growth_32 rfl rfl dX4_growth_101 ?_
                refine q_iload_n (pc := 104) C dX4_growth_104 rfl rfl ?_
                refine q_iaload (pc := 105) C k223 n223 (by decide) (by decide) (by omega) (by omega) dX4_growth_105 ?_
                rw [w223]
                exact q_iret (pc := 106) C hret ⟨_, hR9 _ _, rfl, Or.inr (Or.inr ⟨by omega, by omega, hν, Or.inr ⟨f, s9, by omega, by omega, hg, hg2, Or.inr ⟨k, hk, by rw [if_neg (by omega), show u = upM μ (dp f - (k + 1)) f by omega]⟩⟩⟩)⟩ (by decide) (by decide) dX4_growth_106
              · refine q_iconst (pc := 96) C dX4_growth_96 ?_
                refine q_goto (pc := 97) (tgt := 106) C dX4_growth_97 (by decide) ?_
                exact q_iret (pc := 106) C hret ⟨-1, ⟨by decide, by decide⟩, rfl, Or.inr (Or.inr ⟨by omega, by omega, hν, Or.inr ⟨f, s9, by omega, by omega, hg, hg2, Or.inr ⟨k, hk, by rw [if_pos (by omega)]⟩⟩⟩)⟩ (by decide) (by decide) dX4_growth_106
            have L : ∀ (j u : Nat), u < n9 → dp u = k + 1 + j → upM μ j u = upM μ (dp f - (k + 1)) f → ¬ dp f ≤ k → k + 1 + j ≤ 100 → PW p l e (r0 1) s m args below meth c D cy B 4 0 0 (vx_MQ below (Qp D cy B (qv (fun v μ2 => (μ 216 7 < 0 ∧ μ2 = updS μ 216 0 1) ∨ (¬ μ 216 7 < 0 ∧ i < -1 ∧ μ2 = updS μ 216 0 2) ∨ (¬ μ 216 7 < 0 ∧ -1 ≤ i ∧ μ2 = updS μ 216 0 0 ∧ ((μ 216 13 = -1 ∧ v = -2) ∨ ∃ f s9 : Nat, f < (μ 216 7).toNat ∧ s9 < (μ 216 7).toNat ∧ μ 216 13 = f ∧ μ 216 14 = s9 ∧ ((i = -1 ∧ v = dp s9) ∨ ∃ k : Nat, i = k ∧ v = if dp f ≤ k then -1 else μ 223 (upM μ (dp f - (k + 1)) f))))))) (Xp D cy B noX) args s (r0 1).cells (r0 1).slots (fun q => B ≤ q)) 75 [some (.ref (B + 216)), some (iN i), some (iN j), some (iN u)] [] ν := by
              intro j
              induction j with
              | zero =>
                intro u hu hdu hup hdk hk1
                refine q_iload_n (pc := 75) C dX4_growth_75 rfl rfl ?_
                refine q_if_le (pc := 76) (tgt := 92) C (by first | exact hR _ _ | exact hRo _ _ | assumption | exact ⟨by omega, by omega⟩) dX4_growth_76 (by decide) (fun h6 => ?_) (fun h6 => ?_)
                · exact RT 0 u hu r_0 (by omega) (Or.inr ⟨by omega, hdk, hup⟩)
                · exact absurd (show (0 : Int) ≤ 0 by decide) h6
              | succ j ih =>
                intro u hu hdu hup hdk hk1
                rcases hch u hu with ⟨e1, e2, -⟩ | ⟨u2, hu2, y2, y3⟩
                · omega
                · refine q_iload_n (pc := 75) C dX4_growth_75 rfl rfl ?_
                  refine q_if_le (pc := 76) (tgt := 92) C (by first | exact hR _ _ | exact hRo _ _ | assumption | exact ⟨by omega, by omega⟩) dX4_growth_76 (by decide) (fun h6 => ?_) (fun h6 => ?_)
                  · exact absurd h6 (by omega)
                  · refine q_aload_n (pc := 79) C dX4_growth_79 rfl rfl ?_
                    refine q_getR (pc := 80) (ci := 4) (k := 9) (r := 222) C rfl fiX4_growth_X4 (by decide) k216 (by decide) rfl (by decide) flX4_growth_29 rfl rfl dX4_growth_80 ?_
                    refine q_iload_n (pc := 83) C dX4_growth_83 rfl rfl ?_
                    refine q_iaload (pc := 84) C k222 n222 (by decide) (by decide) (by omega) (by omega) dX4_growth_84 ?_
                    rw [w222, y2]
                    refine q_istore_n (pc := 85) (lv2 := [_, _, _, _]) C dX4_growth_85 rfl (by decide) rfl ?_
                    refine q_iinc (pc := 86) (lv2 := [_, _, _, _]) C dX4_growth_86 (by decide) rfl rfl ?_
                    refine q_goto (pc := 89) (tgt := 75) C dX4_growth_89 (by decide) ?_
                    rw [show ((j + 1 : Nat) : Int) + -1 = (j : Int) by omega]
                    exact ih u2 (by omega) (by omega) (by rw [← hup, upM_succ, y2]; rfl) hdk (by omega)
            refine q_aload_n (pc := 57) C dX4_growth_57 rfl rfl ?_
            refine q_aload_n (pc := 58) C dX4_growth_58 rfl rfl ?_
            refine q_getI (pc := 59) (ci := 4) (k := 13) (ki := 13) C rfl rfl fiX4_growth_X4 (by decide) k216 (by decide) rfl (by decide) flX4_growth_89 rfl rfl dX4_growth_59 ?_
            rw [w13.trans hg]
            refine q_callV (pc := 62) (As := [_]) (rest := []) C (m_depth hlf D cy B (n := n9) (k := f) (dp := dp) (by omega) hf hch2) (cwV 1 C.2.2.2.2.1 gX4_growth_X4_depth rfl rfl rfl (by decide +kernel) ⟨Nat.le_of_ble_eq_true rfl, Nat.le_of_ble_eq_true rfl⟩) (ci := 4) rfl k216 (by decide) (by decide) rfl rfl (by first | decide | simp [Value.category]) dX4_growth_62 (by decide) (fun _ _ h => h.elim) (fun v μ9 hv => ?_)
            have e8 := hv.1
            have e9 := hv.2.symm
            clear hv
            subst e8
            subst e9
            dsimp only [Option.toList, List.cons_append, List.nil_append]
            refine q_iconst (pc := 65) C dX4_growth_65 ?_
            refine q_isub (pc := 66) C dX4_growth_66 ?_
            refine q_iload_n (pc := 67) C dX4_growth_67 rfl rfl ?_
            refine q_isub (pc := 68) C dX4_growth_68 ?_
            refine q_istore_n (pc := 69) (lv2 := [_, _, _, _]) C dX4_growth_69 rfl (by decide) rfl ?_
            refine q_aload_n (pc := 70) C dX4_growth_70 rfl rfl ?_
            refine q_getI (pc := 71) (ci := 4) (k := 13) (ki := 13) C rfl rfl fiX4_growth_X4 (by decide) k216 (by decide) rfl (by decide) flX4_growth_89 rfl rfl dX4_growth_71 ?_
            rw [w13.trans hg]
            refine q_istore_n (pc := 74) (lv2 := [_, _, _, _]) C dX4_growth_74 rfl (by decide) rfl ?_
            by_cases hdk : dp f ≤ k
            · refine q_iload_n (pc := 75) C dX4_growth_75 rfl rfl ?_
              refine q_if_le (pc := 76) (tgt := 92) C (by first | exact hR _ _ | exact hRo _ _ | assumption | exact ⟨by omega, by omega⟩) dX4_growth_76 (by decide) (fun h6 => ?_) (fun h6 => ?_)
              · exact RT _ f hf ⟨by omega, by omega⟩ h6 (Or.inl ⟨by omega, hdk⟩)
              · exact absurd h6 (by omega)
            · rw [show (dp f : Int) - 1 - i = ((dp f - (k + 1) : Nat) : Int) by omega]
              exact L (dp f - (k + 1)) f hf (by omega) rfl hdk (by omega)
          · have hds := chM_le hch s9 hs9
            refine q_aload_n (pc := 48) C dX4_growth_48 rfl rfl ?_
            refine q_aload_n (pc := 49) C dX4_growth_49 rfl rfl ?_
            refine q_getI (pc := 50) (ci := 4) (k := 14) (ki := 14) C rfl rfl fiX4_growth_X4 (by decide) k216 (by decide) rfl (by decide) flX4_growth_92 rfl rfl dX4_growth_50 ?_
            rw [w14.trans hg2]
            refine q_callV (pc := 53) (As := [_]) (rest := []) C (m_depth hlf D cy B (n := n9) (k := s9) (dp := dp) (by omega) hs9 hch2) (cwV 1 C.2.2.2.2.1 gX4_growth_X4_depth rfl rfl rfl (by decide +kernel) ⟨Nat.le_of_ble_eq_true rfl, Nat.le_of_ble_eq_true rfl⟩) (ci := 4) rfl k216 (by decide) (by decide) rfl rfl (by first | decide | simp [Value.category]) dX4_growth_53 (by decide) (fun _ _ h => h.elim) (fun v μ9 hv => ?_)
            have e8 := hv.1
            have e9 := hv.2.symm
            clear hv
            subst e8
            subst e9
            dsimp only [Option.toList, List.cons_append, List.nil_append]
            exact q_iret (pc := 56) C hret ⟨dp s9, ⟨by omega, by omega⟩, rfl, Or.inr (Or.inr ⟨by omega, by omega, hν, Or.inr ⟨f, s9, by omega, by omega, hg, hg2, Or.inl ⟨by omega, rfl⟩⟩⟩)⟩ (by decide) (by decide) dX4_growth_56
        · exact absurd h2 (by omega)
    · refine q_iconst (pc := 32) C dX4_growth_32 ?_
      exact q_iret (pc := 33) C hret ⟨0, r_0, rfl, by rcases hc9 with ⟨z, y⟩ | ⟨z, y⟩ | ⟨z, y⟩; exact Or.inl ⟨y, by rw [z]⟩; exact Or.inr (Or.inl ⟨y.1, y.2, by rw [z]⟩); exact absurd hq (by omega)⟩ (by decide) (by decide) dX4_growth_33
  refine q_aload_n (pc := 0) C dX4_growth_0 rfl rfl ?_
  refine q_aload_n (pc := 1) C dX4_growth_1 rfl rfl ?_
  refine q_getI (pc := 2) (ci := 4) (k := 7) (ki := 7) C rfl rfl fiX4_growth_X4 (by decide) k216 (by decide) rfl (by decide) flX4_growth_22 rfl rfl dX4_growth_2 ?_
  refine q_if_ge (pc := 5) (tgt := 12) C (by first | exact hR _ _ | exact hRo _ _ | assumption | exact ⟨by omega, by omega⟩) dX4_growth_5 (by decide) (fun h1 => ?_) (fun h1 => ?_)
  · refine q_iload_n (pc := 12) C dX4_growth_12 rfl rfl ?_
    refine q_iconst (pc := 13) C dX4_growth_13 ?_
    refine q_icmp_ge (pc := 14) (tgt := 21) C (by first | exact hR _ _ | exact hRo _ _ | assumption | exact ⟨by omega, by omega⟩) (by first | exact hR _ _ | exact hRo _ _ | assumption | exact ⟨by omega, by omega⟩) dX4_growth_14 (by decide) (fun h2 => ?_) (fun h2 => ?_)
    · refine q_iconst (pc := 21) C dX4_growth_21 ?_
      exact J 0 (Or.inr (Or.inr ⟨rfl, by omega, by omega⟩))
    · refine q_iconst (pc := 17) C dX4_growth_17 ?_
      refine q_goto (pc := 18) (tgt := 22) C dX4_growth_18 (by decide) ?_
      exact J 2 (Or.inr (Or.inl ⟨rfl, by omega, by omega⟩))
  · refine q_iconst (pc := 8) C dX4_growth_8 ?_
    refine q_goto (pc := 9) (tgt := 22) C dX4_growth_9 (by decide) ?_
    exact J 1 (Or.inl ⟨rfl, by omega⟩)
set_option maxHeartbeats 4000000 in
set_option maxRecDepth 100000 in
theorem m_anyEndless {l : Launch} (hlf : l.stackTraces = false) (D : va_G) (cy : Nat → ClassId) (B : Nat) {μ : St} {P n : Nat} (hP : μ 216 1 = P) (h6 : P ≤ 6) (hs : μ 216 7 = n) (hn : n ≤ 100) : PC l D cy B yX4_anyEndless wsX4_anyEndless (r0 1) [.ref (B + 216)] μ (ret1 (bI (∃ q : Nat, q < P ∧ gmax (fun i => μ 221 (ix i q)) n = 1000000000)) μ) noX := by
  refine PC.pre (fun hR => ?_)
  refine q_start (cc := cX4_anyEndless) (maxL := 3) (ret := (some .boolean)) hlf (by decide +kernel) rfl (by simp [Value.category]) (Nat.le_of_ble_eq_true rfl) ?_
  intro p e s m args below meth c C hret hno
  show PW p l e (r0 1) s m args below meth c D cy B 3 0 0 _ 0 [some (.ref (B + 216)), none, none] [] μ
  have hRo := hR
  have L : ∀ i : Nat, i ≤ P → PW p l e (r0 1) s m args below meth c D cy B 3 0 0 (vx_MQ below (Qp D cy B (ret1 (bI (∃ q : Nat, q < P ∧ gmax (fun i => μ 221 (ix i q)) n = 1000000000)) μ)) (Xp D cy B noX) args s (r0 1).cells (r0 1).slots (fun q => B ≤ q)) 4 [some (.ref (B + 216)), some (iN (bI (∃ q : Nat, q < i ∧ gmax (fun i => μ 221 (ix i q)) n = 1000000000))), some (iN i)] [] μ := by
    refine up_to P _ (fun i hi ih => ?_)
    have hz := bI_01 (∃ q : Nat, q < i ∧ gmax (fun i => μ 221 (ix i q)) n = 1000000000)
    have hg : InR (gmax (fun k => μ 221 (ix k i)) n) := gmax_r (fun j => hR _ _) n
    have J : ∀ b : Int, b = bI (∃ q : Nat, q < i + 1 ∧ gmax (fun i => μ 221 (ix i q)) n = 1000000000) → i < P → PW p l e (r0 1) s m args below meth c D cy B 3 0 0 (vx_MQ below (Qp D cy B (ret1 (bI (∃ q : Nat, q < P ∧ gmax (fun i => μ 221 (ix i q)) n = 1000000000)) μ)) (Xp D cy B noX) args s (r0 1).cells (r0 1).slots (fun q => B ≤ q)) 31 [some (.ref (B + 216)), some (iN (bI (∃ q : Nat, q < i ∧ gmax (fun i => μ 221 (ix i q)) n = 1000000000))), some (iN i)] [iN b] μ := by
      intro b hb hin
      rw [hb]
      refine q_istore_n (pc := 31) (lv2 := [_, _, _]) C dX4_anyEndless_31 rfl (by decide) rfl ?_
      refine q_iinc (pc := 32) (lv2 := [_, _, _]) C dX4_anyEndless_32 (by decide) rfl rfl ?_
      refine q_goto (pc := 35) (tgt := 4) C dX4_anyEndless_35 (by decide) ?_
      exact ih hin
    refine q_iload_n (pc := 4) C dX4_anyEndless_4 rfl rfl ?_
    refine q_aload_n (pc := 5) C dX4_anyEndless_5 rfl rfl ?_
    refine q_getI (pc := 6) (ci := 4) (k := 1) (ki := 1) C rfl rfl fiX4_anyEndless_X4 (by decide) k216 (by decide) rfl (by decide) flX4_anyEndless_66 rfl rfl dX4_anyEndless_6 ?_
    refine q_icmp_ge (pc := 9) (tgt := 38) C (by first | exact hR _ _ | exact hRo _ _ | assumption | exact ⟨by omega, by omega⟩) (by first | exact hR _ _ | exact hRo _ _ | assumption | exact ⟨by omega, by omega⟩) dX4_anyEndless_9 (by decide) (fun hc => ?_) (fun hc => ?_)
    · have e : i = P := by omega
      subst e
      refine q_iload_n (pc := 38) C dX4_anyEndless_38 rfl rfl ?_
      exact q_zret (pc := 39) C hret (by first | exact Or.inl rfl | exact Or.inr rfl | assumption) ⟨rfl, rfl⟩ (by decide) (by decide) dX4_anyEndless_39
    · refine q_iload_n (pc := 12) C dX4_anyEndless_12 rfl rfl ?_
      refine q_if_ne (pc := 13) (tgt := 26) C (by first | exact hR _ _ | exact hRo _ _ | assumption | exact ⟨by omega, by omega⟩) dX4_anyEndless_13 (by decide) (fun hd => ?_) (fun hd => ?_)
      · refine q_iconst (pc := 26) C dX4_anyEndless_26 ?_
        refine q_goto (pc := 27) (tgt := 31) C dX4_anyEndless_27 (by decide) ?_
        obtain ⟨j, hj, hj2⟩ := bI_1.mp (show bI (∃ q : Nat, q < i ∧ gmax (fun i => μ 221 (ix i q)) n = 1000000000) = 1 by omega)
        exact J 1 (bI_t ⟨j, by omega, hj2⟩).symm (by omega)
      · have hno := bI_0.mp (show bI (∃ q : Nat, q < i ∧ gmax (fun i => μ 221 (ix i q)) n = 1000000000) = 0 by omega)
        refine q_aload_n (pc := 16) C dX4_anyEndless_16 rfl rfl ?_
        refine q_iload_n (pc := 17) C dX4_anyEndless_17 rfl rfl ?_
        refine q_callV (pc := 18) (As := [_]) (rest := []) C (m_greatest hlf D cy B (n := n) (a := i) (by omega) hn hs) (cwV 1 C.2.2.2.2.1 gX4_anyEndless_X4_greatest rfl rfl rfl (by decide +kernel) ⟨Nat.le_of_ble_eq_true rfl, Nat.le_of_ble_eq_true rfl⟩) (ci := 4) rfl k216 (by decide) (by decide) rfl rfl (by first | decide | simp [Value.category]) dX4_anyEndless_18 (by decide) (fun _ _ h => h.elim) (fun v μ9 hv => ?_)
        have e8 := hv.1
        have e9 := hv.2.symm
        clear hv
        subst e8
        subst e9
        dsimp only [Option.toList, List.cons_append, List.nil_append]
        refine q_ldc (pc := 21) (n := 1000000000) (x := (1000000000 : Int32)) C (by decide +kernel) (by decide +kernel) dX4_anyEndless_21 ?_
        refine q_icmp_ne (pc := 23) (tgt := 30) C (by first | exact hR _ _ | exact hRo _ _ | assumption | exact ⟨by omega, by omega⟩) (by first | exact hR _ _ | exact hRo _ _ | assumption | exact ⟨by omega, by omega⟩) dX4_anyEndless_23 (by decide) (fun hf => ?_) (fun hf => ?_)
        · refine q_iconst (pc := 30) C dX4_anyEndless_30 ?_
          refine J 0 (bI_f ?_).symm (by omega)
          rintro ⟨j, hj, hj2⟩
          by_cases e : j = i
          · subst e
            exact hf hj2
          · exact hno ⟨j, by omega, hj2⟩
        · refine q_iconst (pc := 26) C dX4_anyEndless_26 ?_
          refine q_goto (pc := 27) (tgt := 31) C dX4_anyEndless_27 (by decide) ?_
          exact J 1 (bI_t ⟨i, by omega, hf⟩).symm (by omega)
  have L0 := L 0 (by omega)
  rw [show bI (∃ q : Nat, q < 0 ∧ gmax (fun i => μ 221 (ix i q)) n = 1000000000) = 0 from bI_f (by rintro ⟨j, hj, -⟩; omega)] at L0
  refine q_iconst (pc := 0) C dX4_anyEndless_0 ?_
  refine q_istore_n (pc := 1) (lv2 := [_, _, _]) C dX4_anyEndless_1 rfl (by decide) rfl ?_
  refine q_iconst (pc := 2) C dX4_anyEndless_2 ?_
  refine q_istore_n (pc := 3) (lv2 := [_, _, _]) C dX4_anyEndless_3 rfl (by decide) rfl ?_
  exact L0

