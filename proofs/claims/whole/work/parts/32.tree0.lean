theorem fiX2_hasEndless_X2 : ∀ w ∈ u_ws RX2 TX2 9, w ∈ wsX2_hasEndless := by decide +kernel
theorem fiX2_isAmongEarlier_X2 : ∀ w ∈ u_ws RX2 TX2 9, w ∈ wsX2_isAmongEarlier := by decide +kernel
theorem fiX2_noteFirstEndless_X2 : ∀ w ∈ u_ws RX2 TX2 9, w ∈ wsX2_noteFirstEndless := by decide +kernel
theorem flX2_hasEndless_61 : Cond.fieldLink RX2 61 RX2 (TX2 2).2.1 (TX2 2).2.2.1 ∈ wsX2_hasEndless := by decide +kernel
theorem flX2_isAmongEarlier_11 : Cond.fieldLink RX2 11 RX2 (TX2 4).2.1 (TX2 4).2.2.1 ∈ wsX2_isAmongEarlier := by decide +kernel
theorem flX2_noteFirstEndless_61 : Cond.fieldLink RX2 61 RX2 (TX2 2).2.1 (TX2 2).2.2.1 ∈ wsX2_noteFirstEndless := by decide +kernel
theorem flX2_noteFirstEndless_91 : Cond.fieldLink RX2 91 RX2 (TX2 3).2.1 (TX2 3).2.2.1 ∈ wsX2_noteFirstEndless := by decide +kernel
def moreV (μ : St) (a b : Nat) (k : Int) : Int := if μ b k < μ a k then 1000000 else μ a k
set_option maxHeartbeats 4000000 in
set_option maxRecDepth 100000 in
theorem c_more {l : Launch} (hlf : l.stackTraces = false) (D : va_G) (cy : Nat → ClassId) (B : Nat) {μ : St} {a b : Nat} (ka : kd a = 5) (na : ln a = 6) (la : a < 233) (kb : kd b = 5) (nb : ln b = 6) (lb : b < 233) (hab : b ≠ a) : PC l D cy B yX2_makeEndlessWhereMore wsX2_makeEndlessWhereMore (r0 0) [.ref (B + 22), .ref (B + a), .ref (B + b)] μ (ret0 (preS μ a 6 (moreV μ a b))) noX := by
  refine PC.pre (fun hR => ?_)
  refine q_start (cc := cX2_makeEndlessWhereMore) (maxL := 4) (ret := none) hlf (by decide +kernel) rfl (by simp [Value.category]) (Nat.le_of_ble_eq_true rfl) ?_
  intro p e s m args below meth c C hret hno
  show PW p l e (r0 0) s m args below meth c D cy B 4 0 0 _ 0 [some (.ref (B + 22)), some (.ref (B + a)), some (.ref (B + b)), none] [] μ
  have hRo := hR
  have L : ∀ i : Nat, i ≤ 6 → PW p l e (r0 0) s m args below meth c D cy B 4 0 0 (vx_MQ below (Qp D cy B (ret0 (preS μ a 6 (moreV μ a b)))) (Xp D cy B noX) args s (r0 0).cells (r0 0).slots (fun q => B ≤ q)) 2 [some (.ref (B + 22)), some (.ref (B + a)), some (.ref (B + b)), some (iN i)] [] (preS μ a i (moreV μ a b)) := by
    refine up_to 6 _ (fun i hi ih => ?_)
    refine q_rng (fun hR => ?_)
    refine q_iload_n (pc := 2) C dX2_makeEndlessWhereMore_2 rfl rfl ?_
    refine q_bipush (pc := 3) C (by decide +kernel) dX2_makeEndlessWhereMore_3 ?_
    refine q_icmp_ge (pc := 5) (tgt := 28) C (by first | exact hR _ _ | exact hRo _ _ | assumption | exact ⟨by omega, by omega⟩) (by first | exact hR _ _ | exact hRo _ _ | assumption | exact ⟨by omega, by omega⟩) dX2_makeEndlessWhereMore_5 (by decide) (fun hc => ?_) (fun hc => ?_)
    · have e : i = 6 := by omega
      subst e
      exact q_vret (pc := 28) C hret ⟨rfl, rfl⟩ (by decide) (by decide) dX2_makeEndlessWhereMore_28
    · refine q_aload_n (pc := 8) C dX2_makeEndlessWhereMore_8 rfl rfl ?_
      refine q_iload_n (pc := 9) C dX2_makeEndlessWhereMore_9 rfl rfl ?_
      refine q_iaload (pc := 10) C ka na (by decide) la (by omega) (by omega) dX2_makeEndlessWhereMore_10 ?_
      rw [preS_out μ a i _ a _ (Int.le_refl _)]
      refine q_aload_n (pc := 11) C dX2_makeEndlessWhereMore_11 rfl rfl ?_
      refine q_iload_n (pc := 12) C dX2_makeEndlessWhereMore_12 rfl rfl ?_
      refine q_iaload (pc := 13) C kb nb (by decide) lb (by omega) (by omega) dX2_makeEndlessWhereMore_13 ?_
      rw [preS_ne μ i _ _ hab]
      refine q_icmp_le (pc := 14) (tgt := 22) C (by first | exact hR _ _ | exact hRo _ _ | assumption | exact ⟨by omega, by omega⟩) (by first | exact hR _ _ | exact hRo _ _ | assumption | exact ⟨by omega, by omega⟩) dX2_makeEndlessWhereMore_14 (by decide) (fun hd => ?_) (fun hd => ?_)
      · refine q_mu (preS_skip μ a i (moreV μ a b) (by unfold moreV; rw [if_neg (by omega)])) ?_
        refine q_iinc (pc := 22) (lv2 := [_, _, _, _]) C dX2_makeEndlessWhereMore_22 (by decide) rfl rfl ?_
        refine q_goto (pc := 25) (tgt := 2) C dX2_makeEndlessWhereMore_25 (by decide) ?_
        exact ih (by omega)
      · refine q_aload_n (pc := 17) C dX2_makeEndlessWhereMore_17 rfl rfl ?_
        refine q_iload_n (pc := 18) C dX2_makeEndlessWhereMore_18 rfl rfl ?_
        refine q_ldc (pc := 19) (n := 1000000) (x := (1000000 : Int32)) C (by decide +kernel) (by decide +kernel) dX2_makeEndlessWhereMore_19 ?_
        refine q_iastore (pc := 21) C ka na (by decide) la (by omega) (by omega) (by first | exact hR _ _ | exact hRo _ _ | assumption | exact ⟨by omega, by omega⟩) dX2_makeEndlessWhereMore_21 ?_
        refine q_mu (preS_step μ a i (moreV μ a b) (by unfold moreV; rw [if_pos (by omega)])) ?_
        refine q_iinc (pc := 22) (lv2 := [_, _, _, _]) C dX2_makeEndlessWhereMore_22 (by decide) rfl rfl ?_
        refine q_goto (pc := 25) (tgt := 2) C dX2_makeEndlessWhereMore_25 (by decide) ?_
        exact ih (by omega)
  refine q_iconst (pc := 0) C dX2_makeEndlessWhereMore_0 ?_
  refine q_istore_n (pc := 1) (lv2 := [_, _, _, _]) C dX2_makeEndlessWhereMore_1 rfl (by decide) rfl ?_
  refine q_mu (preS_0 μ a (moreV μ a b)).symm ?_
  exact L 0 (by omega)
def noteS (μ : St) (n d : Int) : St := if μ 22 2 = -2 then updS (updS μ 22 2 n) 22 3 d else μ
set_option maxHeartbeats 4000000 in
set_option maxRecDepth 100000 in
theorem c_note {l : Launch} (hlf : l.stackTraces = false) (D : va_G) (cy : Nat → ClassId) (B : Nat) {μ : St} {n d : Int} (hn : InR n) (hd : InR d) : PC l D cy B yX2_noteFirstEndless wsX2_noteFirstEndless (r0 0) [.ref (B + 22), iN n, iN d] μ (ret0 (noteS μ n d)) noX := by
  refine PC.pre (fun hR => ?_)
  refine q_start (cc := cX2_noteFirstEndless) (maxL := 3) (ret := none) hlf (by decide +kernel) rfl (by simp [Value.category]) (Nat.le_of_ble_eq_true rfl) ?_
  intro p e s m args below meth c C hret hno
  show PW p l e (r0 0) s m args below meth c D cy B 3 0 0 _ 0 [some (.ref (B + 22)), some (iN n), some (iN d)] [] μ
  refine q_aload_n (pc := 0) C dX2_noteFirstEndless_0 rfl rfl ?_
  refine q_getI (pc := 1) (ci := 2) (k := 2) (ki := 2) C rfl rfl fiX2_noteFirstEndless_X2 (by decide) k22 (by decide) rfl (by decide) flX2_noteFirstEndless_61 rfl rfl dX2_noteFirstEndless_1 ?_
  refine q_bipush (pc := 4) C (by decide +kernel) dX2_noteFirstEndless_4 ?_
  refine q_icmp_ne (pc := 6) (tgt := 19) C (by first | exact hR _ _ | exact hRo _ _ | assumption | exact ⟨by omega, by omega⟩) (by first | exact hR _ _ | exact hRo _ _ | assumption | exact ⟨by omega, by omega⟩) dX2_noteFirstEndless_6 (by decide) (fun hc => ?_) (fun hc => ?_)
  · exact q_vret (pc := 19) C hret ⟨rfl, by unfold noteS; rw [if_neg hc]⟩ (by decide) (by decide) dX2_noteFirstEndless_19
  · refine q_aload_n (pc := 9) C dX2_noteFirstEndless_9 rfl rfl ?_
    refine q_iload_n (pc := 10) C dX2_noteFirstEndless_10 rfl rfl ?_
    refine q_put (pc := 11) (ci := 2) (k := 2) (ki := 2) (ty0 := tyX2) C rfl rfl fiX2_noteFirstEndless_X2 (by decide) k22 (by decide) rfl (by decide) flX2_noteFirstEndless_61 rfl tyX2_ok nmX2 rfl rfl rfl (by first | exact hR _ _ | exact hRo _ _ | assumption | exact ⟨by omega, by omega⟩) dX2_noteFirstEndless_11 ?_
    refine q_aload_n (pc := 14) C dX2_noteFirstEndless_14 rfl rfl ?_
    refine q_iload_n (pc := 15) C dX2_noteFirstEndless_15 rfl rfl ?_
    refine q_put (pc := 16) (ci := 2) (k := 3) (ki := 3) (ty0 := tyX2) C rfl rfl fiX2_noteFirstEndless_X2 (by decide) k22 (by decide) rfl (by decide) flX2_noteFirstEndless_91 rfl tyX2_ok nmX2 rfl rfl rfl (by first | exact hR _ _ | exact hRo _ _ | assumption | exact ⟨by omega, by omega⟩) dX2_noteFirstEndless_16 ?_
    exact q_vret (pc := 19) C hret ⟨rfl, by unfold noteS; rw [if_pos hc]⟩ (by decide) (by decide) dX2_noteFirstEndless_19
def amoP (μ : St) (n : Nat) : Prop := ∃ i : Nat, i < n ∧ ∀ q : Nat, q < 6 → μ (24 + i) q = μ (24 + n) q
def amo (μ : St) (n : Nat) : Int := bI (∃ i : Nat, i < n ∧ ∀ q : Nat, q < 6 → μ (24 + i) q = μ (24 + n) q)
theorem amo_01 (μ : St) (n : Nat) : amo μ n = 0 ∨ amo μ n = 1 := bI_01 _
set_option maxHeartbeats 4000000 in
set_option maxRecDepth 100000 in
theorem c_among {l : Launch} (hlf : l.stackTraces = false) (D : va_G) (cy : Nat → ClassId) (B : Nat) {μ : St} {n : Nat} (hn : n < 100) : PC l D cy B yX2_isAmongEarlier wsX2_isAmongEarlier (r0 1) [.ref (B + 22), iN n] μ (ret1 (amo μ n) μ) noX := by
  refine PC.pre (fun hR => ?_)
  refine q_start (cc := cX2_isAmongEarlier) (maxL := 3) (ret := (some .boolean)) hlf (by decide +kernel) rfl (by simp [Value.category]) (Nat.le_of_ble_eq_true rfl) ?_
  intro p e s m args below meth c C hret hno
  show PW p l e (r0 1) s m args below meth c D cy B 3 0 0 _ 0 [some (.ref (B + 22)), some (iN n), none] [] μ
  have L : ∀ i : Nat, i ≤ n → (∀ j : Nat, j < i → ¬ ∀ q : Nat, q < 6 → μ (24 + j) q = μ (24 + n) q) → PW p l e (r0 1) s m args below meth c D cy B 3 0 0 (vx_MQ below (Qp D cy B (ret1 (amo μ n) μ)) (Xp D cy B noX) args s (r0 1).cells (r0 1).slots (fun q => B ≤ q)) 2 [some (.ref (B + 22)), some (iN n), some (iN i)] [] μ := by
    refine up_to n _ (fun i hi ih hI => ?_)
    refine q_iload_n (pc := 2) C dX2_isAmongEarlier_2 rfl rfl ?_
    refine q_iload_n (pc := 3) C dX2_isAmongEarlier_3 rfl rfl ?_
    refine q_icmp_ge (pc := 4) (tgt := 33) C (by first | exact hR _ _ | exact hRo _ _ | assumption | exact ⟨by omega, by omega⟩) (by first | exact hR _ _ | exact hRo _ _ | assumption | exact ⟨by omega, by omega⟩) dX2_isAmongEarlier_4 (by decide) (fun hc => ?_) (fun hc => ?_)
    · refine q_iconst (pc := 33) C dX2_isAmongEarlier_33 ?_
      exact q_zret (pc := 34) C hret (by first | exact Or.inl rfl | exact Or.inr rfl | assumption) ⟨by unfold amo; rw [bI_f (fun z => by obtain ⟨j, hj, z⟩ := z; exact hI j (by omega) z)], rfl⟩ (by decide) (by decide) dX2_isAmongEarlier_34
    · refine q_aload_n (pc := 7) C dX2_isAmongEarlier_7 rfl rfl ?_
      refine q_getR (pc := 8) (ci := 2) (k := 4) (r := 23) C rfl fiX2_isAmongEarlier_X2 (by decide) k22 (by decide) rfl (by decide) flX2_isAmongEarlier_11 rfl rfl dX2_isAmongEarlier_8 ?_
      refine q_iload_n (pc := 11) C dX2_isAmongEarlier_11 rfl rfl ?_
      first | refine q_aaloadN (pc := 12) C k23 n23 (by decide) (by decide) (by omega) rfl dX2_isAmongEarlier_12 ?_ | refine q_aaload (pc := 12) C k23 n23 (by decide) (by decide) (by omega) (by omega) rfl dX2_isAmongEarlier_12 ?_
      refine q_aload_n (pc := 13) C dX2_isAmongEarlier_13 rfl rfl ?_
      refine q_getR (pc := 14) (ci := 2) (k := 4) (r := 23) C rfl fiX2_isAmongEarlier_X2 (by decide) k22 (by decide) rfl (by decide) flX2_isAmongEarlier_11 rfl rfl dX2_isAmongEarlier_14 ?_
      refine q_iload_n (pc := 17) C dX2_isAmongEarlier_17 rfl rfl ?_
      first | refine q_aaloadN (pc := 18) C k23 n23 (by decide) (by decide) (by omega) rfl dX2_isAmongEarlier_18 ?_ | refine q_aaload (pc := 18) C k23 n23 (by decide) (by decide) (by omega) (by omega) rfl dX2_isAmongEarlier_18 ?_
      refine q_callSN (pc := 19) (As := [_, _]) (rest := []) C (c_same hlf D cy B (a := 24 + i) (b := 24 + n) (k_r23 (by omega)) (n_r23 (by omega)) (l_r23 (by omega)) (k_r23 (by omega)) (n_r23 (by omega)) (l_r23 (by omega))) ⟨va_cnB (host := "CoverTrees") (index := 80) 2 C.2.2.2.2.1 gX2_isAmongEarlier_X3_same_n80 rfl rfl rfl (C.2.2.2.2.2.1.2.2.1 (RX2, 80, yX3_same) (by decide +kernel)) (C.2.2.2.2.1 _ (by decide +kernel)) (by decide +kernel) ⟨Nat.le_of_ble_eq_true rfl, Nat.le_of_ble_eq_true rfl⟩, C.2.2.2.2.1 _ (by decide +kernel), trivial⟩ rfl rfl (by first | decide | simp [Value.category]) dX2_isAmongEarlier_19 (by decide) (fun _ _ h => h.elim) (fun v μ9 hv => ?_)
      have e8 := hv.1
      have e9 := hv.2.symm
      clear hv
      subst e8
      subst e9
      dsimp only [Option.toList, List.cons_append, List.nil_append]
      have hz := bI_01 (∀ q : Nat, q < 6 → μ (24 + i) q = μ (24 + n) q)
      refine q_if_eq (pc := 22) (tgt := 27) C (by first | exact hR _ _ | exact hRo _ _ | assumption | exact ⟨by omega, by omega⟩) dX2_isAmongEarlier_22 (by decide) (fun hd => ?_) (fun hd => ?_)
      · refine q_iinc (pc := 27) (lv2 := [_, _, _]) C dX2_isAmongEarlier_27 (by decide) rfl rfl ?_
        refine q_goto (pc := 30) (tgt := 2) C dX2_isAmongEarlier_30 (by decide) ?_
        refine ih (by omega) (fun j hj => ?_)
        by_cases e : j = i
        · rw [e]; exact bI_0.mp hd
        · exact hI j (by omega)
      · refine q_iconst (pc := 25) C dX2_isAmongEarlier_25 ?_
        exact q_zret (pc := 26) C hret (by first | exact Or.inl rfl | exact Or.inr rfl | assumption) ⟨by unfold amo; rw [bI_t ⟨i, by omega, bI_1.mp (by omega)⟩], rfl⟩ (by decide) (by decide) dX2_isAmongEarlier_26
  refine q_iconst (pc := 0) C dX2_isAmongEarlier_0 ?_
  refine q_istore_n (pc := 1) (lv2 := [_, _, _]) C dX2_isAmongEarlier_1 rfl (by decide) rfl ?_
  exact L 0 (by omega) (fun j hj => absurd hj (by omega))
set_option maxHeartbeats 4000000 in
set_option maxRecDepth 100000 in
theorem c_hasEndless {l : Launch} (hlf : l.stackTraces = false) (D : va_G) (cy : Nat → ClassId) (B : Nat) {μ : St}  : PC l D cy B yX2_hasEndless wsX2_hasEndless (r0 0) [.ref (B + 22)] μ (ret1 (bI (¬ μ 22 2 = -2)) μ) noX := by
  refine PC.pre (fun hR => ?_)
  refine q_start (cc := cX2_hasEndless) (maxL := 1) (ret := (some .boolean)) hlf (by decide +kernel) rfl (by simp [Value.category]) (Nat.le_of_ble_eq_true rfl) ?_
  intro p e s m args below meth c C hret hno
  show PW p l e (r0 0) s m args below meth c D cy B 1 0 0 _ 0 [some (.ref (B + 22))] [] μ
  refine q_aload_n (pc := 0) C dX2_hasEndless_0 rfl rfl ?_
  refine q_getI (pc := 1) (ci := 2) (k := 2) (ki := 2) C rfl rfl fiX2_hasEndless_X2 (by decide) k22 (by decide) rfl (by decide) flX2_hasEndless_61 rfl rfl dX2_hasEndless_1 ?_
  refine q_bipush (pc := 4) C (by decide +kernel) dX2_hasEndless_4 ?_
  refine q_icmp_eq (pc := 6) (tgt := 13) C (by first | exact hR _ _ | exact hRo _ _ | assumption | exact ⟨by omega, by omega⟩) (by first | exact hR _ _ | exact hRo _ _ | assumption | exact ⟨by omega, by omega⟩) dX2_hasEndless_6 (by decide) (fun hc => ?_) (fun hc => ?_)
  · refine q_iconst (pc := 13) C dX2_hasEndless_13 ?_
    exact q_zret (pc := 14) C hret (by first | exact Or.inl rfl | exact Or.inr rfl | assumption) ⟨by rw [bI_f (fun z => z hc)], rfl⟩ (by decide) (by decide) dX2_hasEndless_14
  · refine q_iconst (pc := 9) C dX2_hasEndless_9 ?_
    refine q_goto (pc := 10) (tgt := 14) C dX2_hasEndless_10 (by decide) ?_
    exact q_zret (pc := 14) C hret (by first | exact Or.inl rfl | exact Or.inr rfl | assumption) ⟨by rw [bI_t hc], rfl⟩ (by decide) (by decide) dX2_hasEndless_14

