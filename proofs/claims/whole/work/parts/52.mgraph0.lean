theorem fiX4_addState_X4 : ∀ w ∈ u_ws RX4 TX4 22, w ∈ wsX4_addState := by decide +kernel
theorem fiX4_enabledIn_X4 : ∀ w ∈ u_ws RX4 TX4 22, w ∈ wsX4_enabledIn := by decide +kernel
theorem fiX4_find_X4 : ∀ w ∈ u_ws RX4 TX4 22, w ∈ wsX4_find := by decide +kernel
theorem flX4_addState_66 : Cond.fieldLink RX4 66 RX4 (TX4 1).2.1 (TX4 1).2.2.1 ∈ wsX4_addState := by decide +kernel
theorem flX4_addState_42 : Cond.fieldLink RX4 42 RX4 (TX4 15).2.1 (TX4 15).2.2.1 ∈ wsX4_addState := by decide +kernel
theorem flX4_addState_45 : Cond.fieldLink RX4 45 RX4 (TX4 16).2.1 (TX4 16).2.2.1 ∈ wsX4_addState := by decide +kernel
theorem flX4_addState_51 : Cond.fieldLink RX4 51 RX4 (TX4 18).2.1 (TX4 18).2.2.1 ∈ wsX4_addState := by decide +kernel
theorem flX4_addState_54 : Cond.fieldLink RX4 54 RX4 (TX4 19).2.1 (TX4 19).2.2.1 ∈ wsX4_addState := by decide +kernel
theorem flX4_addState_60 : Cond.fieldLink RX4 60 RX4 (TX4 21).2.1 (TX4 21).2.2.1 ∈ wsX4_addState := by decide +kernel
theorem flX4_enabledIn_66 : Cond.fieldLink RX4 66 RX4 (TX4 1).2.1 (TX4 1).2.2.1 ∈ wsX4_enabledIn := by decide +kernel
theorem flX4_enabledIn_16 : Cond.fieldLink RX4 16 RX4 (TX4 5).2.1 (TX4 5).2.2.1 ∈ wsX4_enabledIn := by decide +kernel
theorem flX4_enabledIn_45 : Cond.fieldLink RX4 45 RX4 (TX4 16).2.1 (TX4 16).2.2.1 ∈ wsX4_enabledIn := by decide +kernel
theorem flX4_find_66 : Cond.fieldLink RX4 66 RX4 (TX4 1).2.1 (TX4 1).2.2.1 ∈ wsX4_find := by decide +kernel
theorem flX4_find_42 : Cond.fieldLink RX4 42 RX4 (TX4 15).2.1 (TX4 15).2.2.1 ∈ wsX4_find := by decide +kernel
theorem flX4_find_45 : Cond.fieldLink RX4 45 RX4 (TX4 16).2.1 (TX4 16).2.2.1 ∈ wsX4_find := by decide +kernel
theorem flX4_find_60 : Cond.fieldLink RX4 60 RX4 (TX4 21).2.1 (TX4 21).2.2.1 ∈ wsX4_find := by decide +kernel
set_option maxHeartbeats 4000000 in
set_option maxRecDepth 100000 in
theorem m_enabledIn {l : Launch} (hlf : l.stackTraces = false) (D : va_G) (cy : Nat → ClassId) (B : Nat) {μ : St} {P n t : Nat} (hP : μ 216 1 = P) (h6 : P ≤ 6) (hn : n < 40) (ht : t < 8) : PC l D cy B yX4_enabledIn wsX4_enabledIn (r0 0) [.ref (B + 216), iN n, iN t] μ (ret1 (bI (∀ q : Nat, q < P → μ 219 (ix t q) ≤ μ 226 (ix n q))) μ) noX := by
  refine PC.pre (fun hR => ?_)
  refine q_start (cc := cX4_enabledIn) (maxL := 4) (ret := (some .boolean)) hlf (by decide +kernel) rfl (by simp [Value.category]) (Nat.le_of_ble_eq_true rfl) ?_
  intro p e s m args below meth c C hret hno
  show PW p l e (r0 0) s m args below meth c D cy B 4 0 0 _ 0 [some (.ref (B + 216)), some (iN n), some (iN t), none] [] μ
  have L : ∀ i : Nat, i ≤ P → (∀ q : Nat, q < i → μ 219 (ix t q) ≤ μ 226 (ix n q)) → PW p l e (r0 0) s m args below meth c D cy B 4 0 0 (vx_MQ below (Qp D cy B (ret1 (bI (∀ q : Nat, q < P → μ 219 (ix t q) ≤ μ 226 (ix n q))) μ)) (Xp D cy B noX) args s (r0 0).cells (r0 0).slots (fun q => B ≤ q)) 2 [some (.ref (B + 216)), some (iN n), some (iN t), some (iN i)] [] μ := by
    refine up_to P _ (fun i hi ih hI => ?_)
    refine q_iload_n (pc := 2) C dX4_enabledIn_2 rfl rfl ?_
    refine q_aload_n (pc := 3) C dX4_enabledIn_3 rfl rfl ?_
    refine q_getI (pc := 4) (ci := 4) (k := 1) (ki := 1) C rfl rfl fiX4_enabledIn_X4 (by decide) k216 (by decide) rfl (by decide) flX4_enabledIn_66 rfl rfl dX4_enabledIn_4 ?_
    refine q_icmp_ge (pc := 7) (tgt := 43) C (by first | exact hR _ _ | exact hRo _ _ | assumption | exact r_bI _ | exact ⟨by omega, by omega⟩) (by first | exact hR _ _ | exact hRo _ _ | assumption | exact r_bI _ | exact ⟨by omega, by omega⟩) dX4_enabledIn_7 (by decide) (fun hc => ?_) (fun hc => ?_)
    · refine q_iconst (pc := 43) C dX4_enabledIn_43 ?_
      exact q_zret (pc := 44) C hret (by first | exact Or.inl rfl | exact Or.inr rfl | assumption) ⟨by rw [bI_t (fun q hq => hI q (by omega))], rfl⟩ (by decide) (by decide) dX4_enabledIn_44
    · refine q_aload_n (pc := 10) C dX4_enabledIn_10 rfl rfl ?_
      refine q_getR (pc := 11) (ci := 4) (k := 16) (r := 226) C rfl fiX4_enabledIn_X4 (by decide) k216 (by decide) rfl (by decide) flX4_enabledIn_45 rfl rfl dX4_enabledIn_11 ?_
      refine q_bipush (pc := 14) C (by decide +kernel) dX4_enabledIn_14 ?_
      refine q_iload_n (pc := 16) C dX4_enabledIn_16 rfl rfl ?_
      refine q_imul (pc := 17) C dX4_enabledIn_17 ?_
      refine q_iload_n (pc := 18) C dX4_enabledIn_18 rfl rfl ?_
      refine q_iadd (pc := 19) C dX4_enabledIn_19 ?_
      refine q_iaload (pc := 20) C k226 n226 (by decide) (by decide) (by omega) (by omega) dX4_enabledIn_20 ?_
      refine q_aload_n (pc := 21) C dX4_enabledIn_21 rfl rfl ?_
      refine q_getR (pc := 22) (ci := 4) (k := 5) (r := 219) C rfl fiX4_enabledIn_X4 (by decide) k216 (by decide) rfl (by decide) flX4_enabledIn_16 rfl rfl dX4_enabledIn_22 ?_
      refine q_bipush (pc := 25) C (by decide +kernel) dX4_enabledIn_25 ?_
      refine q_iload_n (pc := 27) C dX4_enabledIn_27 rfl rfl ?_
      refine q_imul (pc := 28) C dX4_enabledIn_28 ?_
      refine q_iload_n (pc := 29) C dX4_enabledIn_29 rfl rfl ?_
      refine q_iadd (pc := 30) C dX4_enabledIn_30 ?_
      refine q_iaload (pc := 31) C k219 n219 (by decide) (by decide) (by omega) (by omega) dX4_enabledIn_31 ?_
      refine q_icmp_ge (pc := 32) (tgt := 37) C (by first | exact hR _ _ | exact hRo _ _ | assumption | exact r_bI _ | exact ⟨by omega, by omega⟩) (by first | exact hR _ _ | exact hRo _ _ | assumption | exact r_bI _ | exact ⟨by omega, by omega⟩) dX4_enabledIn_32 (by decide) (fun hd => ?_) (fun hd => ?_)
      · refine q_iinc (pc := 37) (lv2 := [_, _, _, _]) C dX4_enabledIn_37 (by decide) rfl rfl ?_
        refine q_goto (pc := 40) (tgt := 2) C dX4_enabledIn_40 (by decide) ?_
        refine ih (by omega) (fun q hq => ?_)
        by_cases e : q = i
        · rw [e]; exact hd
        · exact hI q (by omega)
      · refine q_iconst (pc := 35) C dX4_enabledIn_35 ?_
        exact q_zret (pc := 36) C hret (by first | exact Or.inl rfl | exact Or.inr rfl | assumption) ⟨by rw [bI_f (fun z => hd (z i (by omega)))], rfl⟩ (by decide) (by decide) dX4_enabledIn_36
  refine q_iconst (pc := 0) C dX4_enabledIn_0 ?_
  refine q_istore_n (pc := 1) (lv2 := [_, _, _, _]) C dX4_enabledIn_1 rfl (by decide) rfl ?_
  exact L 0 (by omega) (fun q hq => absurd hq (by omega))
def fnM (μ : St) (P g : Nat) : Int := fnd (fun i => ∀ q : Nat, q < P → μ 226 (ix i q) = μ 231 q) g 0
set_option maxHeartbeats 4000000 in
set_option maxRecDepth 100000 in
theorem m_find {l : Launch} (hlf : l.stackTraces = false) (D : va_G) (cy : Nat → ClassId) (B : Nat) {μ : St} {P g : Nat} (hP : μ 216 1 = P) (h6 : P ≤ 6) (hs : μ 216 15 = g) (hg : g ≤ 40) : PC l D cy B yX4_find wsX4_find (r0 0) [.ref (B + 216)] μ (ret1 (if fnM μ P g = -2 then -1 else fnM μ P g) μ) noX := by
  refine PC.pre (fun hR => ?_)
  refine q_start (cc := cX4_find) (maxL := 4) (ret := (some .int)) hlf (by decide +kernel) rfl (by simp [Value.category]) (Nat.le_of_ble_eq_true rfl) ?_
  intro p e s m args below meth c C hret hno
  show PW p l e (r0 0) s m args below meth c D cy B 4 0 0 _ 0 [some (.ref (B + 216)), none, none, none] [] μ
  have L : ∀ i : Nat, i ≤ g → fnd (fun i => ∀ q : Nat, q < P → μ 226 (ix i q) = μ 231 q) (g - i) i = fnM μ P g → PW p l e (r0 0) s m args below meth c D cy B 4 0 0 (vx_MQ below (Qp D cy B (ret1 (if fnM μ P g = -2 then -1 else fnM μ P g) μ)) (Xp D cy B noX) args s (r0 0).cells (r0 0).slots (fun q => B ≤ q)) 2 [some (.ref (B + 216)), some (iN i), none, none] [] μ := by
    refine up_to g _ (fun i hi ih hI => ?_)
    refine q_iload_n (pc := 2) C dX4_find_2 rfl rfl ?_
    refine q_aload_n (pc := 3) C dX4_find_3 rfl rfl ?_
    refine q_getI (pc := 4) (ci := 4) (k := 15) (ki := 15) C rfl rfl fiX4_find_X4 (by decide) k216 (by decide) rfl (by decide) flX4_find_42 rfl rfl dX4_find_4 ?_
    refine q_icmp_ge (pc := 7) (tgt := 70) C (by first | exact hR _ _ | exact hRo _ _ | assumption | exact r_bI _ | exact ⟨by omega, by omega⟩) (by first | exact hR _ _ | exact hRo _ _ | assumption | exact r_bI _ | exact ⟨by omega, by omega⟩) dX4_find_7 (by decide) (fun hc => ?_) (fun hc => ?_)
    · have hgi : g - i = 0 := by omega
      rw [hgi] at hI
      refine q_iconst (pc := 70) C dX4_find_70 ?_
      exact q_iret (pc := 71) C hret ⟨by rw [← hI]; rfl, rfl⟩ (by decide) (by decide) dX4_find_71
    · have hgi : g - i = (g - (i + 1)) + 1 := by omega
      rw [hgi] at hI
      unfold fnd at hI
      have IN : ∀ k : Nat, k ≤ P → PW p l e (r0 0) s m args below meth c D cy B 4 0 0 (vx_MQ below (Qp D cy B (ret1 (if fnM μ P g = -2 then -1 else fnM μ P g) μ)) (Xp D cy B noX) args s (r0 0).cells (r0 0).slots (fun q => B ≤ q)) 14 [some (.ref (B + 216)), some (iN i), some (iN (bI (∀ q : Nat, q < k → μ 226 (ix i q) = μ 231 q))), some (iN k)] [] μ := by
        refine up_to P _ (fun k hk ihk => ?_)
        have hz2 := bI_01 (∀ q : Nat, q < k → μ 226 (ix i q) = μ 231 q)
        have J2 : ∀ b : Int, b = bI (∀ q : Nat, q < k + 1 → μ 226 (ix i q) = μ 231 q) → k < P → PW p l e (r0 0) s m args below meth c D cy B 4 0 0 (vx_MQ below (Qp D cy B (ret1 (if fnM μ P g = -2 then -1 else fnM μ P g) μ)) (Xp D cy B noX) args s (r0 0).cells (r0 0).slots (fun q => B ≤ q)) 51 [some (.ref (B + 216)), some (iN i), some (iN (bI (∀ q : Nat, q < k → μ 226 (ix i q) = μ 231 q))), some (iN k)] [iN b] μ := by
          intro b hb hkP
          rw [hb]
          refine q_istore_n (pc := 51) (lv2 := [_, _, _, _]) C dX4_find_51 rfl (by decide) rfl ?_
          refine q_iinc (pc := 52) (lv2 := [_, _, _, _]) C dX4_find_52 (by decide) rfl rfl ?_
          refine q_goto (pc := 55) (tgt := 14) C dX4_find_55 (by decide) ?_
          exact ihk hkP
        refine q_iload_n (pc := 14) C dX4_find_14 rfl rfl ?_
        refine q_aload_n (pc := 15) C dX4_find_15 rfl rfl ?_
        refine q_getI (pc := 16) (ci := 4) (k := 1) (ki := 1) C rfl rfl fiX4_find_X4 (by decide) k216 (by decide) rfl (by decide) flX4_find_66 rfl rfl dX4_find_16 ?_
        refine q_icmp_ge (pc := 19) (tgt := 58) C (by first | exact hR _ _ | exact hRo _ _ | assumption | exact r_bI _ | exact ⟨by omega, by omega⟩) (by first | exact hR _ _ | exact hRo _ _ | assumption | exact r_bI _ | exact ⟨by omega, by omega⟩) dX4_find_19 (by decide) (fun hd => ?_) (fun hd => ?_)
        · have e : k = P := by omega
          subst e
          refine q_iload_n (pc := 58) C dX4_find_58 rfl rfl ?_
          refine q_if_eq (pc := 59) (tgt := 64) C (by first | exact hR _ _ | exact hRo _ _ | assumption | exact r_bI _ | exact ⟨by omega, by omega⟩) dX4_find_59 (by decide) (fun he => ?_) (fun he => ?_)
          · rw [if_neg (bI_0.mp he)] at hI
            refine q_drop 2 (lv2 := [_, _, none, _]) rfl ?_
            refine q_drop 3 (lv2 := [_, _, _, none]) rfl ?_
            refine q_iinc (pc := 64) (lv2 := [_, _, _, _]) C dX4_find_64 (by decide) rfl rfl ?_
            refine q_goto (pc := 67) (tgt := 2) C dX4_find_67 (by decide) ?_
            exact ih (by omega) hI
          · rw [if_pos (bI_1.mp (show bI (∀ q : Nat, q < k → μ 226 (ix i q) = μ 231 q) = 1 by omega))] at hI
            refine q_iload_n (pc := 62) C dX4_find_62 rfl rfl ?_
            exact q_iret (pc := 63) C hret ⟨by rw [← hI, if_neg (by omega)], rfl⟩ (by decide) (by decide) dX4_find_63
        · refine q_iload_n (pc := 22) C dX4_find_22 rfl rfl ?_
          refine q_if_eq (pc := 23) (tgt := 50) C (by first | exact hR _ _ | exact hRo _ _ | assumption | exact r_bI _ | exact ⟨by omega, by omega⟩) dX4_find_23 (by decide) (fun he => ?_) (fun he => ?_)
          · refine q_iconst (pc := 50) C dX4_find_50 ?_
            refine J2 0 (bI_f (fun z => ?_)).symm (by omega)
            exact bI_0.mp he (fun q hq => z q (by omega))
          · have hyes := bI_1.mp (show bI (∀ q : Nat, q < k → μ 226 (ix i q) = μ 231 q) = 1 by omega)
            refine q_aload_n (pc := 26) C dX4_find_26 rfl rfl ?_
            refine q_getR (pc := 27) (ci := 4) (k := 16) (r := 226) C rfl fiX4_find_X4 (by decide) k216 (by decide) rfl (by decide) flX4_find_45 rfl rfl dX4_find_27 ?_
            refine q_bipush (pc := 30) C (by decide +kernel) dX4_find_30 ?_
            refine q_iload_n (pc := 32) C dX4_find_32 rfl rfl ?_
            refine q_imul (pc := 33) C dX4_find_33 ?_
            refine q_iload_n (pc := 34) C dX4_find_34 rfl rfl ?_
            refine q_iadd (pc := 35) C dX4_find_35 ?_
            refine q_iaload (pc := 36) C k226 n226 (by decide) (by decide) (by omega) (by omega) dX4_find_36 ?_
            refine q_aload_n (pc := 37) C dX4_find_37 rfl rfl ?_
            refine q_getR (pc := 38) (ci := 4) (k := 21) (r := 231) C rfl fiX4_find_X4 (by decide) k216 (by decide) rfl (by decide) flX4_find_60 rfl rfl dX4_find_38 ?_
            refine q_iload_n (pc := 41) C dX4_find_41 rfl rfl ?_
            refine q_iaload (pc := 42) C k231 n231 (by decide) (by decide) (by omega) (by omega) dX4_find_42 ?_
            refine q_icmp_ne (pc := 43) (tgt := 50) C (by first | exact hR _ _ | exact hRo _ _ | assumption | exact r_bI _ | exact ⟨by omega, by omega⟩) (by first | exact hR _ _ | exact hRo _ _ | assumption | exact r_bI _ | exact ⟨by omega, by omega⟩) dX4_find_43 (by decide) (fun hf => ?_) (fun hf => ?_)
            · refine q_iconst (pc := 50) C dX4_find_50 ?_
              exact J2 0 (bI_f (fun z => hf (z k (by omega)))).symm (by omega)
            · refine q_iconst (pc := 46) C dX4_find_46 ?_
              refine q_goto (pc := 47) (tgt := 51) C dX4_find_47 (by decide) ?_
              refine J2 1 (bI_t (fun q hq => ?_)).symm (by omega)
              by_cases e : q = k
              · subst e; exact hf
              · exact hyes q (by omega)
      have I0 := IN 0 (by omega)
      rw [show bI (∀ q : Nat, q < 0 → μ 226 (ix i q) = μ 231 q) = 1 from bI_t (fun q hq => absurd hq (by omega))] at I0
      refine q_iconst (pc := 10) C dX4_find_10 ?_
      refine q_istore_n (pc := 11) (lv2 := [_, _, _, _]) C dX4_find_11 rfl (by decide) rfl ?_
      refine q_iconst (pc := 12) C dX4_find_12 ?_
      refine q_istore_n (pc := 13) (lv2 := [_, _, _, _]) C dX4_find_13 rfl (by decide) rfl ?_
      exact I0
  refine q_iconst (pc := 0) C dX4_find_0 ?_
  refine q_istore_n (pc := 1) (lv2 := [_, _, _, _]) C dX4_find_1 rfl (by decide) rfl ?_
  exact L 0 (by omega) rfl
def asM (μ : St) (P g : Nat) (u t : Int) : St := updS (updS (updS (blkS μ 226 (6 * (g : Int)) P (fun k => μ 231 k)) 228 g u) 229 g t) 216 15 ((g : Int) + 1)
set_option maxHeartbeats 4000000 in
set_option maxRecDepth 100000 in
theorem m_addState {l : Launch} (hlf : l.stackTraces = false) (D : va_G) (cy : Nat → ClassId) (B : Nat) {μ : St} {P g : Nat} {u t : Int} (hP : μ 216 1 = P) (h6 : P ≤ 6) (hs : μ 216 15 = g) (hg : g < 40) (hu : InR u) (ht : InR t) : PC l D cy B yX4_addState wsX4_addState (r0 0) [.ref (B + 216), iN u, iN t] μ (ret0 (asM μ P g u t)) noX := by
  refine PC.pre (fun hR => ?_)
  refine q_start (cc := cX4_addState) (maxL := 4) (ret := none) hlf (by decide +kernel) rfl (by simp [Value.category]) (Nat.le_of_ble_eq_true rfl) ?_
  intro p e s m args below meth c C hret hno
  show PW p l e (r0 0) s m args below meth c D cy B 4 0 0 _ 0 [some (.ref (B + 216)), some (iN u), some (iN t), none] [] μ
  have hRo := hR
  have L : ∀ i : Nat, i ≤ P → PW p l e (r0 0) s m args below meth c D cy B 4 0 0 (vx_MQ below (Qp D cy B (ret0 (asM μ P g u t))) (Xp D cy B noX) args s (r0 0).cells (r0 0).slots (fun q => B ≤ q)) 2 [some (.ref (B + 216)), some (iN u), some (iN t), some (iN i)] [] (blkS μ 226 (6 * (g : Int)) i (fun k => μ 231 k)) := by
    refine up_to P _ (fun i hi ih => ?_)
    have e1 : blkS μ 226 (6 * (g : Int)) i (fun k => μ 231 k) 216 1 = P := by rw [blkS_ne _ _ _ _ _ (by decide), hP]
    have e7 : blkS μ 226 (6 * (g : Int)) i (fun k => μ 231 k) 216 15 = g := by rw [blkS_ne _ _ _ _ _ (by decide), hs]
    refine q_rng (fun hR => ?_)
    refine q_iload_n (pc := 2) C dX4_addState_2 rfl rfl ?_
    refine q_aload_n (pc := 3) C dX4_addState_3 rfl rfl ?_
    refine q_getI (pc := 4) (ci := 4) (k := 1) (ki := 1) C rfl rfl fiX4_addState_X4 (by decide) k216 (by decide) rfl (by decide) flX4_addState_66 rfl rfl dX4_addState_4 ?_
    refine q_icmp_ge (pc := 7) (tgt := 36) C (by first | exact hR _ _ | exact hRo _ _ | assumption | exact r_bI _ | exact ⟨by omega, by omega⟩) (by first | exact hR _ _ | exact hRo _ _ | assumption | exact r_bI _ | exact ⟨by omega, by omega⟩) dX4_addState_7 (by decide) (fun hc => ?_) (fun hc => ?_)
    · have e : i = P := by omega
      subst e
      refine q_aload_n (pc := 36) C dX4_addState_36 rfl rfl ?_
      refine q_getR (pc := 37) (ci := 4) (k := 18) (r := 228) C rfl fiX4_addState_X4 (by decide) k216 (by decide) rfl (by decide) flX4_addState_51 rfl rfl dX4_addState_37 ?_
      refine q_aload_n (pc := 40) C dX4_addState_40 rfl rfl ?_
      refine q_getI (pc := 41) (ci := 4) (k := 15) (ki := 15) C rfl rfl fiX4_addState_X4 (by decide) k216 (by decide) rfl (by decide) flX4_addState_42 rfl rfl dX4_addState_41 ?_
      rw [e7]
      refine q_iload_n (pc := 44) C dX4_addState_44 rfl rfl ?_
      refine q_iastore (pc := 45) C k228 n228 (by decide) (by decide) (by omega) (by omega) (by first | exact hR _ _ | exact hRo _ _ | assumption | exact r_bI _ | exact ⟨by omega, by omega⟩) dX4_addState_45 ?_
      refine q_aload_n (pc := 46) C dX4_addState_46 rfl rfl ?_
      refine q_getR (pc := 47) (ci := 4) (k := 19) (r := 229) C rfl fiX4_addState_X4 (by decide) k216 (by decide) rfl (by decide) flX4_addState_54 rfl rfl dX4_addState_47 ?_
      refine q_aload_n (pc := 50) C dX4_addState_50 rfl rfl ?_
      refine q_getI (pc := 51) (ci := 4) (k := 15) (ki := 15) C rfl rfl fiX4_addState_X4 (by decide) k216 (by decide) rfl (by decide) flX4_addState_42 rfl rfl dX4_addState_51 ?_
      simp only [updS_ap, Nat.reduceEqDiff, Int.reduceEq, Int.toNat_natCast, false_and, true_and, and_false, and_true, and_self, if_false, if_true, ↓reduceIte]
      rw [e7]
      refine q_iload_n (pc := 54) C dX4_addState_54 rfl rfl ?_
      refine q_iastore (pc := 55) C k229 n229 (by decide) (by decide) (by omega) (by omega) (by first | exact hR _ _ | exact hRo _ _ | assumption | exact r_bI _ | exact ⟨by omega, by omega⟩) dX4_addState_55 ?_
      refine q_aload_n (pc := 56) C dX4_addState_56 rfl rfl ?_
      refine q_dup (pc := 57) C rfl dX4_addState_57 ?_
      refine q_getI (pc := 58) (ci := 4) (k := 15) (ki := 15) C rfl rfl fiX4_addState_X4 (by decide) k216 (by decide) rfl (by decide) flX4_addState_42 rfl rfl dX4_addState_58 ?_
      simp only [updS_ap, Nat.reduceEqDiff, Int.reduceEq, Int.toNat_natCast, false_and, true_and, and_false, and_true, and_self, if_false, if_true, ↓reduceIte]
      rw [e7]
      refine q_iconst (pc := 61) C dX4_addState_61 ?_
      refine q_iadd (pc := 62) C dX4_addState_62 ?_
      refine q_put (pc := 63) (ci := 4) (k := 15) (ki := 15) (ty0 := tyX4) C rfl rfl fiX4_addState_X4 (by decide) k216 (by decide) rfl (by decide) flX4_addState_42 rfl tyX4_ok nmX4 rfl rfl rfl (by first | exact hR _ _ | exact hRo _ _ | assumption | exact r_bI _ | exact ⟨by omega, by omega⟩) dX4_addState_63 ?_
      exact q_vret (pc := 66) C hret ⟨rfl, rfl⟩ (by decide) (by decide) dX4_addState_66
    · refine q_aload_n (pc := 10) C dX4_addState_10 rfl rfl ?_
      refine q_getR (pc := 11) (ci := 4) (k := 16) (r := 226) C rfl fiX4_addState_X4 (by decide) k216 (by decide) rfl (by decide) flX4_addState_45 rfl rfl dX4_addState_11 ?_
      refine q_bipush (pc := 14) C (by decide +kernel) dX4_addState_14 ?_
      refine q_aload_n (pc := 16) C dX4_addState_16 rfl rfl ?_
      refine q_getI (pc := 17) (ci := 4) (k := 15) (ki := 15) C rfl rfl fiX4_addState_X4 (by decide) k216 (by decide) rfl (by decide) flX4_addState_42 rfl rfl dX4_addState_17 ?_
      rw [e7]
      refine q_imul (pc := 20) C dX4_addState_20 ?_
      refine q_iload_n (pc := 21) C dX4_addState_21 rfl rfl ?_
      refine q_iadd (pc := 22) C dX4_addState_22 ?_
      refine q_aload_n (pc := 23) C dX4_addState_23 rfl rfl ?_
      refine q_getR (pc := 24) (ci := 4) (k := 21) (r := 231) C rfl fiX4_addState_X4 (by decide) k216 (by decide) rfl (by decide) flX4_addState_60 rfl rfl dX4_addState_24 ?_
      refine q_iload_n (pc := 27) C dX4_addState_27 rfl rfl ?_
      refine q_iaload (pc := 28) C k231 n231 (by decide) (by decide) (by omega) (by omega) dX4_addState_28 ?_
      rw [blkS_ne _ _ _ _ _ (by decide)]
      refine q_iastore (pc := 29) C k226 n226 (by decide) (by decide) (by omega) (by omega) (by first | exact hR _ _ | exact hRo _ _ | assumption | exact r_bI _ | exact ⟨by omega, by omega⟩) dX4_addState_29 ?_
      refine q_mu (blkS_step _ 226 (6 * (g : Int)) i (fun k => μ 231 k) rfl) ?_
      refine q_iinc (pc := 30) (lv2 := [_, _, _, _]) C dX4_addState_30 (by decide) rfl rfl ?_
      refine q_goto (pc := 33) (tgt := 2) C dX4_addState_33 (by decide) ?_
      exact ih (by omega)
  refine q_iconst (pc := 0) C dX4_addState_0 ?_
  refine q_istore_n (pc := 1) (lv2 := [_, _, _, _]) C dX4_addState_1 rfl (by decide) rfl ?_
  refine q_mu (blkS_0 _ 226 (6 * (g : Int)) (fun k => μ 231 k)).symm ?_
  exact L 0 (by omega)

