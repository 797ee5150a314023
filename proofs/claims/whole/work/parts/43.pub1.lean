theorem fiX3_bound_X3 : ∀ w ∈ u_ws RX3 TX3 4, w ∈ wsX3_bound := by decide +kernel
theorem fiX3_count_X2 : ∀ w ∈ u_ws RX2 TX2 9, w ∈ wsX3_count := by decide +kernel
theorem fiX3_count_X3 : ∀ w ∈ u_ws RX3 TX3 4, w ∈ wsX3_count := by decide +kernel
theorem fiX3_covered_X3 : ∀ w ∈ u_ws RX3 TX3 4, w ∈ wsX3_covered := by decide +kernel
theorem fiX3_growth_X2 : ∀ w ∈ u_ws RX2 TX2 9, w ∈ wsX3_growth := by decide +kernel
theorem fiX3_growth_X3 : ∀ w ∈ u_ws RX3 TX3 4, w ∈ wsX3_growth := by decide +kernel
theorem fiX3_node_X2 : ∀ w ∈ u_ws RX2 TX2 9, w ∈ wsX3_node := by decide +kernel
theorem fiX3_node_X3 : ∀ w ∈ u_ws RX3 TX3 4, w ∈ wsX3_node := by decide +kernel
theorem fiX3_possible_X3 : ∀ w ∈ u_ws RX3 TX3 4, w ∈ wsX3_possible := by decide +kernel
theorem flX3_bound_25 : Cond.fieldLink RX3 25 RX3 (TX3 2).2.1 (TX3 2).2.2.1 ∈ wsX3_bound := by decide +kernel
theorem flX3_count_25 : Cond.fieldLink RX3 25 RX3 (TX3 2).2.1 (TX3 2).2.2.1 ∈ wsX3_count := by decide +kernel
theorem flX3_covered_16 : Cond.fieldLink RX3 16 RX3 (TX3 1).2.1 (TX3 1).2.2.1 ∈ wsX3_covered := by decide +kernel
theorem flX3_covered_25 : Cond.fieldLink RX3 25 RX3 (TX3 2).2.1 (TX3 2).2.2.1 ∈ wsX3_covered := by decide +kernel
theorem flX3_growth_25 : Cond.fieldLink RX3 25 RX3 (TX3 2).2.1 (TX3 2).2.2.1 ∈ wsX3_growth := by decide +kernel
theorem flX3_node_25 : Cond.fieldLink RX3 25 RX3 (TX3 2).2.1 (TX3 2).2.2.1 ∈ wsX3_node := by decide +kernel
theorem flX3_possible_25 : Cond.fieldLink RX3 25 RX3 (TX3 2).2.1 (TX3 2).2.2.1 ∈ wsX3_possible := by decide +kernel
theorem hatX3_X3_growth_131 : ∀ w ∈ (vx_atS RX3 131 "java/lang/IllegalArgumentException" ["java/lang/RuntimeException", "java/lang/Exception"]).filter goodWord, w ∈ wsX3_growth := by decide +kernel
set_option maxHeartbeats 4000000 in
set_option maxRecDepth 100000 in
theorem c_count {l : Launch} (hlf : l.stackTraces = false) (D : va_G) (cy : Nat → ClassId) (B : Nat) {μ : St} {P : Nat} {n a : Int} (hn : InR n) (ha : InR a) (hP : μ 1 0 = P) (h6 : P ≤ 6) (hs : μ 22 1 ≤ 100) : PC l D cy B yX3_count wsX3_count ((rk 3 7)) [.ref (B + 0), iN n, iN a] μ (qv (fun v μ2 => ¬ μ 22 1 = 0 ∧ ((0 ≤ n ∧ n < μ 22 1) ∧ (0 ≤ a ∧ a < P)) ∧ v = (if μ (24 + n.toNat) a = 1000000 then -1 else μ (24 + n.toNat) a) ∧ μ2 = μ)) (ex2 sIS (fun μ2 => μ 22 1 = 0 ∧ μ2 = μ) sIO (fun μ2 => ¬ μ 22 1 = 0 ∧ ¬ ((0 ≤ n ∧ n < μ 22 1) ∧ (0 ≤ a ∧ a < P)) ∧ μ2 = μ)) := by
  refine PC.pre (fun hR => ?_)
  refine q_start (cc := cX3_count) (maxL := 3) (ret := (some .int)) hlf (by decide +kernel) rfl (by simp [Value.category]) (Nat.le_of_ble_eq_true rfl) ?_
  intro p e s m args below meth c C hret hno
  show PW p l e ((rk 3 7)) s m args below meth c D cy B 3 0 0 _ 0 [some (.ref (B + 0)), some (iN n), some (iN a)] [] μ
  refine q_aload_n (pc := 0) C dX3_count_0 rfl rfl ?_
  refine q_callV (pc := 1) (As := []) (rest := []) C (c_needTree hlf D cy B) (cwV 0 C.2.2.2.2.1 gX3_count_X3_needTree rfl rfl rfl (by decide +kernel) ⟨Nat.le_of_ble_eq_true rfl, Nat.le_of_ble_eq_true rfl⟩) (ci := 3) rfl k0 (by decide) (by decide) rfl rfl (by first | decide | simp [Value.category]) dX3_count_1 (by decide) (fun E μ8 hx => q_out C hno (Or.inl hx) (Nat.le_of_ble_eq_true rfl) (Nat.le_of_ble_eq_true rfl)) (fun v σ9 hv => ?_)
  obtain ⟨hv1, hr1, hv2⟩ := hv
  subst hv1
  have hv2 := hv2.symm
  subst hv2
  dsimp only [Option.toList, List.cons_append, List.nil_append]
  refine q_aload_n (pc := 4) C dX3_count_4 rfl rfl ?_
  refine q_iload_n (pc := 5) C dX3_count_5 rfl rfl ?_
  refine q_callV (pc := 6) (As := [_]) (rest := []) C (c_needNode hlf D cy B (n := n) hn) (cwV 1 C.2.2.2.2.1 gX3_count_X3_needNode rfl rfl rfl (by decide +kernel) ⟨Nat.le_of_ble_eq_true rfl, Nat.le_of_ble_eq_true rfl⟩) (ci := 3) rfl k0 (by decide) (by decide) rfl rfl (by first | decide | simp [Value.category]) dX3_count_6 (by decide) (fun E μ8 hx => q_out C hno (Or.inr ⟨hx.1, hr1, fun z9 => hx.2.1 z9.1, hx.2.2⟩) (Nat.le_of_ble_eq_true rfl) (Nat.le_of_ble_eq_true rfl)) (fun v σ9 hv => ?_)
  obtain ⟨hv1, hr2, hv2⟩ := hv
  subst hv1
  have hv2 := hv2.symm
  subst hv2
  dsimp only [Option.toList, List.cons_append, List.nil_append]
  refine q_aload_n (pc := 9) C dX3_count_9 rfl rfl ?_
  refine q_iload_n (pc := 10) C dX3_count_10 rfl rfl ?_
  refine q_callV (pc := 11) (As := [_]) (rest := []) C (c_needPlace hlf D cy B (P := P) (n := a) ha hP) (cwV 1 C.2.2.2.2.1 gX3_count_X3_needPlace rfl rfl rfl (by decide +kernel) ⟨Nat.le_of_ble_eq_true rfl, Nat.le_of_ble_eq_true rfl⟩) (ci := 3) rfl k0 (by decide) (by decide) rfl rfl (by first | decide | simp [Value.category]) dX3_count_11 (by decide) (fun E μ8 hx => q_out C hno (Or.inr ⟨hx.1, hr1, fun z9 => hx.2.1 z9.2, hx.2.2⟩) (Nat.le_of_ble_eq_true rfl) (Nat.le_of_ble_eq_true rfl)) (fun v σ9 hv => ?_)
  obtain ⟨hv1, hr3, hv2⟩ := hv
  subst hv1
  have hv2 := hv2.symm
  subst hv2
  dsimp only [Option.toList, List.cons_append, List.nil_append]
  obtain ⟨n9, hn9⟩ : ∃ n9 : Nat, n = n9 := ⟨n.toNat, by omega⟩
  subst hn9
  refine q_aload_n (pc := 14) C dX3_count_14 rfl rfl ?_
  refine q_getR (pc := 15) (ci := 3) (k := 2) (r := 22) C rfl fiX3_count_X3 (by decide) k0 (by decide) rfl (by decide) flX3_count_25 rfl rfl dX3_count_15 ?_
  refine q_getRN (pc := 18) (ci := 2) (k := 4) (r := 23) C rfl fiX3_count_X2 (by decide) k22 (by decide) rfl (by decide) (by decide +kernel) rfl rfl dX3_count_18 ?_
  refine q_iload_n (pc := 21) C dX3_count_21 rfl rfl ?_
  first | refine q_aaloadN (pc := 22) C k23 n23 (by decide) (by decide) (by omega) rfl dX3_count_22 ?_ | refine q_aaload (pc := 22) C k23 n23 (by decide) (by decide) (by omega) (by omega) rfl dX3_count_22 ?_
  refine q_iload_n (pc := 23) C dX3_count_23 rfl rfl ?_
  refine q_iaload (pc := 24) C (k_r23 (by omega)) (n_r23 (by omega)) (by decide) (l_r23 (by omega)) (by omega) (by omega) dX3_count_24 ?_
  refine q_callS (pc := 25) (As := [_]) (rest := []) C (c_asTold hlf D cy B (x := μ (24 + n9) a) (hR _ _)) (va_cwS 1 C.2.2.2.2.1 gX3_count_X3_asTold rfl rfl rfl (by decide +kernel) ⟨Nat.le_of_ble_eq_true rfl, Nat.le_of_ble_eq_true rfl⟩) rfl rfl (by first | decide | simp [Value.category]) dX3_count_25 (by decide) (fun _ _ h => h.elim) (fun v μ9 hv => ?_)
  have e8 := hv.1
  have e9 := hv.2.symm
  clear hv
  subst e8
  subst e9
  dsimp only [Option.toList, List.cons_append, List.nil_append]
  exact q_iret (pc := 28) C hret ⟨_, r_if ⟨by decide, by decide⟩ (hR _ _), rfl, hr1, ⟨hr2, hr3⟩, rfl, rfl⟩ (by decide) (by decide) dX3_count_28
set_option maxHeartbeats 4000000 in
set_option maxRecDepth 100000 in
theorem c_node {l : Launch} (hlf : l.stackTraces = false) (D : va_G) (cy : Nat → ClassId) (B : Nat) {μ : St} {n i : Int} (hn : InR n) (hi : InR i) (hs : μ 22 1 ≤ 100) : PC l D cy B yX3_node wsX3_node ((rk 3 7)) [.ref (B + 0), iN n, iN i] μ (qv (fun v μ2 => ¬ μ 22 1 = 0 ∧ (0 ≤ n ∧ n < μ 22 1) ∧ v = (if i = 0 then μ 124 n else if i = 1 then μ 125 n else if i = 2 then (if μ 127 n = 0 then 0 else 1) else -2) ∧ μ2 = μ)) (ex2 sIS (fun μ2 => μ 22 1 = 0 ∧ μ2 = μ) sIO (fun μ2 => ¬ μ 22 1 = 0 ∧ ¬ (0 ≤ n ∧ n < μ 22 1) ∧ μ2 = μ)) := by
  refine PC.pre (fun hR => ?_)
  refine q_start (cc := cX3_node) (maxL := 3) (ret := (some .int)) hlf (by decide +kernel) rfl (by simp [Value.category]) (Nat.le_of_ble_eq_true rfl) ?_
  intro p e s m args below meth c C hret hno
  show PW p l e ((rk 3 7)) s m args below meth c D cy B 3 0 0 _ 0 [some (.ref (B + 0)), some (iN n), some (iN i)] [] μ
  refine q_aload_n (pc := 0) C dX3_node_0 rfl rfl ?_
  refine q_callV (pc := 1) (As := []) (rest := []) C (c_needTree hlf D cy B) (cwV 0 C.2.2.2.2.1 gX3_node_X3_needTree rfl rfl rfl (by decide +kernel) ⟨Nat.le_of_ble_eq_true rfl, Nat.le_of_ble_eq_true rfl⟩) (ci := 3) rfl k0 (by decide) (by decide) rfl rfl (by first | decide | simp [Value.category]) dX3_node_1 (by decide) (fun E μ8 hx => q_out C hno (Or.inl hx) (Nat.le_of_ble_eq_true rfl) (Nat.le_of_ble_eq_true rfl)) (fun v σ9 hv => ?_)
  obtain ⟨hv1, hr1, hv2⟩ := hv
  subst hv1
  have hv2 := hv2.symm
  subst hv2
  dsimp only [Option.toList, List.cons_append, List.nil_append]
  refine q_aload_n (pc := 4) C dX3_node_4 rfl rfl ?_
  refine q_iload_n (pc := 5) C dX3_node_5 rfl rfl ?_
  refine q_callV (pc := 6) (As := [_]) (rest := []) C (c_needNode hlf D cy B (n := n) hn) (cwV 1 C.2.2.2.2.1 gX3_node_X3_needNode rfl rfl rfl (by decide +kernel) ⟨Nat.le_of_ble_eq_true rfl, Nat.le_of_ble_eq_true rfl⟩) (ci := 3) rfl k0 (by decide) (by decide) rfl rfl (by first | decide | simp [Value.category]) dX3_node_6 (by decide) (fun E μ8 hx => q_out C hno (Or.inr ⟨hx.1, hr1, hx.2⟩) (Nat.le_of_ble_eq_true rfl) (Nat.le_of_ble_eq_true rfl)) (fun v σ9 hv => ?_)
  obtain ⟨hv1, hr2, hv2⟩ := hv
  subst hv1
  have hv2 := hv2.symm
  subst hv2
  dsimp only [Option.toList, List.cons_append, List.nil_append]
  refine q_iload_n (pc := 9) C dX3_node_9 rfl rfl ?_
  by_cases h0 : i = 0
  · subst h0
    refine q_tableIn (pc := 10) (off := 26) (tgt := 36) C hi dX3_node_10 (by decide) (by decide) rfl (by decide) ?_
    refine q_aload_n (pc := 36) C dX3_node_36 rfl rfl ?_
    refine q_getR (pc := 37) (ci := 3) (k := 2) (r := 22) C rfl fiX3_node_X3 (by decide) k0 (by decide) rfl (by decide) flX3_node_25 rfl rfl dX3_node_37 ?_
    refine q_getRN (pc := 40) (ci := 2) (k := 5) (r := 124) C rfl fiX3_node_X2 (by decide) k22 (by decide) rfl (by decide) (by decide +kernel) rfl rfl dX3_node_40 ?_
    refine q_iload_n (pc := 43) C dX3_node_43 rfl rfl ?_
    refine q_iaload (pc := 44) C k124 n124 (by decide) (by decide) (by omega) (by omega) dX3_node_44 ?_
    exact q_iret (pc := 45) C hret ⟨_, hR _ _, rfl, hr1, hr2, by rw [if_pos rfl], rfl⟩ (by decide) (by decide) dX3_node_45
  by_cases h1 : i = 1
  · subst h1
    refine q_tableIn (pc := 10) (off := 36) (tgt := 46) C hi dX3_node_10 (by decide) (by decide) rfl (by decide) ?_
    refine q_aload_n (pc := 46) C dX3_node_46 rfl rfl ?_
    refine q_getR (pc := 47) (ci := 3) (k := 2) (r := 22) C rfl fiX3_node_X3 (by decide) k0 (by decide) rfl (by decide) flX3_node_25 rfl rfl dX3_node_47 ?_
    refine q_getRN (pc := 50) (ci := 2) (k := 6) (r := 125) C rfl fiX3_node_X2 (by decide) k22 (by decide) rfl (by decide) (by decide +kernel) rfl rfl dX3_node_50 ?_
    refine q_iload_n (pc := 53) C dX3_node_53 rfl rfl ?_
    refine q_iaload (pc := 54) C k125 n125 (by decide) (by decide) (by omega) (by omega) dX3_node_54 ?_
    exact q_iret (pc := 55) C hret ⟨_, hR _ _, rfl, hr1, hr2, by rw [if_neg h0, if_pos rfl], rfl⟩ (by decide) (by decide) dX3_node_55
  by_cases h2 : i = 2
  · subst h2
    refine q_tableIn (pc := 10) (off := 46) (tgt := 56) C hi dX3_node_10 (by decide) (by decide) rfl (by decide) ?_
    refine q_aload_n (pc := 56) C dX3_node_56 rfl rfl ?_
    refine q_getR (pc := 57) (ci := 3) (k := 2) (r := 22) C rfl fiX3_node_X3 (by decide) k0 (by decide) rfl (by decide) flX3_node_25 rfl rfl dX3_node_57 ?_
    refine q_getRN (pc := 60) (ci := 2) (k := 8) (r := 127) C rfl fiX3_node_X2 (by decide) k22 (by decide) rfl (by decide) (by decide +kernel) rfl rfl dX3_node_60 ?_
    refine q_iload_n (pc := 63) C dX3_node_63 rfl rfl ?_
    refine q_baload (pc := 64) C k127 n127 (by decide) (by decide) (by omega) (by omega) dX3_node_64 ?_
    refine q_if_eq (pc := 65) (tgt := 72) C (by first | exact hR _ _ | exact hRo _ _ | assumption | exact ⟨by omega, by omega⟩) dX3_node_65 (by decide) (fun hc => ?_) (fun hc => ?_)
    · refine q_iconst (pc := 72) C dX3_node_72 ?_
      exact q_iret (pc := 73) C hret ⟨_, r_0, rfl, hr1, hr2, by rw [if_neg h0, if_neg h1, if_pos rfl, if_pos hc], rfl⟩ (by decide) (by decide) dX3_node_73
    · refine q_iconst (pc := 68) C dX3_node_68 ?_
      refine q_goto (pc := 69) (tgt := 73) C dX3_node_69 (by decide) ?_
      exact q_iret (pc := 73) C hret ⟨_, ⟨by decide, by decide⟩, rfl, hr1, hr2, by rw [if_neg h0, if_neg h1, if_pos rfl, if_neg hc], rfl⟩ (by decide) (by decide) dX3_node_73
  · refine q_tableOut (pc := 10) (tgt := 74) C hi dX3_node_10 (by omega) (by decide) ?_
    refine q_bipush (pc := 74) C (by decide +kernel) dX3_node_74 ?_
    exact q_iret (pc := 76) C hret ⟨_, ⟨by decide, by decide⟩, rfl, hr1, hr2, by rw [if_neg h0, if_neg h1, if_neg h2], rfl⟩ (by decide) (by decide) dX3_node_76
set_option maxHeartbeats 4000000 in
set_option maxRecDepth 100000 in
theorem c_bound {l : Launch} (hlf : l.stackTraces = false) (D : va_G) (cy : Nat → ClassId) (B : Nat) {μ : St} {P n : Nat} {a : Int} (ha : InR a) (hP : μ 1 0 = P) (h6 : P ≤ 6) (hs : μ 22 1 = n) (hn : n ≤ 100) : PC l D cy B yX3_bound wsX3_bound ((rk 3 7)) [.ref (B + 0), iN a] μ (qv (fun v μ2 => ¬ n = 0 ∧ (0 ≤ a ∧ a < P) ∧ v = (if gmax (fun i => μ (24 + i) a) n = 1000000 then -1 else gmax (fun i => μ (24 + i) a) n) ∧ μ2 = μ)) (ex2 sIS (fun μ2 => n = 0 ∧ μ2 = μ) sIO (fun μ2 => ¬ n = 0 ∧ ¬ (0 ≤ a ∧ a < P) ∧ μ2 = μ)) := by
  refine PC.pre (fun hR => ?_)
  refine q_start (cc := cX3_bound) (maxL := 2) (ret := (some .int)) hlf (by decide +kernel) rfl (by simp [Value.category]) (Nat.le_of_ble_eq_true rfl) ?_
  intro p e s m args below meth c C hret hno
  show PW p l e ((rk 3 7)) s m args below meth c D cy B 2 0 0 _ 0 [some (.ref (B + 0)), some (iN a)] [] μ
  refine q_aload_n (pc := 0) C dX3_bound_0 rfl rfl ?_
  refine q_callV (pc := 1) (As := []) (rest := []) C (c_needTree hlf D cy B) (cwV 0 C.2.2.2.2.1 gX3_bound_X3_needTree rfl rfl rfl (by decide +kernel) ⟨Nat.le_of_ble_eq_true rfl, Nat.le_of_ble_eq_true rfl⟩) (ci := 3) rfl k0 (by decide) (by decide) rfl rfl (by first | decide | simp [Value.category]) dX3_bound_1 (by decide) (fun E μ8 hx => q_out C hno (Or.inl ⟨hx.1, by have := hx.2.1; omega, hx.2.2⟩) (Nat.le_of_ble_eq_true rfl) (Nat.le_of_ble_eq_true rfl)) (fun v σ9 hv => ?_)
  obtain ⟨hv1, hr1, hv2⟩ := hv
  subst hv1
  have hv2 := hv2.symm
  subst hv2
  dsimp only [Option.toList, List.cons_append, List.nil_append]
  refine q_aload_n (pc := 4) C dX3_bound_4 rfl rfl ?_
  refine q_iload_n (pc := 5) C dX3_bound_5 rfl rfl ?_
  refine q_callV (pc := 6) (As := [_]) (rest := []) C (c_needPlace hlf D cy B (P := P) (n := a) ha hP) (cwV 1 C.2.2.2.2.1 gX3_bound_X3_needPlace rfl rfl rfl (by decide +kernel) ⟨Nat.le_of_ble_eq_true rfl, Nat.le_of_ble_eq_true rfl⟩) (ci := 3) rfl k0 (by decide) (by decide) rfl rfl (by first | decide | simp [Value.category]) dX3_bound_6 (by decide) (fun E μ8 hx => q_out C hno (Or.inr ⟨hx.1, by omega, hx.2⟩) (Nat.le_of_ble_eq_true rfl) (Nat.le_of_ble_eq_true rfl)) (fun v σ9 hv => ?_)
  obtain ⟨hv1, hr2, hv2⟩ := hv
  subst hv1
  have hv2 := hv2.symm
  subst hv2
  dsimp only [Option.toList, List.cons_append, List.nil_append]
  refine q_aload_n (pc := 9) C dX3_bound_9 rfl rfl ?_
  refine q_getR (pc := 10) (ci := 3) (k := 2) (r := 22) C rfl fiX3_bound_X3 (by decide) k0 (by decide) rfl (by decide) flX3_bound_25 rfl rfl dX3_bound_10 ?_
  refine q_iload_n (pc := 13) C dX3_bound_13 rfl rfl ?_
  refine q_callV (pc := 14) (As := [_]) (rest := []) C (c_greatest hlf D cy B (n := n) (p0 := a) hn hs (by omega) (by omega)) (cwV 1 C.2.2.2.2.1 gX3_bound_X2_greatestCount rfl rfl rfl (by decide +kernel) ⟨Nat.le_of_ble_eq_true rfl, Nat.le_of_ble_eq_true rfl⟩) (ci := 2) rfl k22 (by decide) (by decide) rfl rfl (by first | decide | simp [Value.category]) dX3_bound_14 (by decide) (fun _ _ h => h.elim) (fun v μ9 hv => ?_)
  have e8 := hv.1
  have e9 := hv.2.symm
  clear hv
  subst e8
  subst e9
  dsimp only [Option.toList, List.cons_append, List.nil_append]
  have hg : InR (gmax (fun i => μ (24 + i) a) n) := gmax_r (fun j => hR _ _) n
  refine q_callS (pc := 17) (As := [_]) (rest := []) C (c_asTold hlf D cy B (x := gmax (fun i => μ (24 + i) a) n) hg) (va_cwS 1 C.2.2.2.2.1 gX3_bound_X3_asTold rfl rfl rfl (by decide +kernel) ⟨Nat.le_of_ble_eq_true rfl, Nat.le_of_ble_eq_true rfl⟩) rfl rfl (by first | decide | simp [Value.category]) dX3_bound_17 (by decide) (fun _ _ h => h.elim) (fun v μ9 hv => ?_)
  have e8 := hv.1
  have e9 := hv.2.symm
  clear hv
  subst e8
  subst e9
  dsimp only [Option.toList, List.cons_append, List.nil_append]
  exact q_iret (pc := 20) C hret ⟨_, r_if ⟨by decide, by decide⟩ hg, rfl, by omega, hr2, rfl, rfl⟩ (by decide) (by decide) dX3_bound_20
set_option maxHeartbeats 4000000 in
set_option maxRecDepth 100000 in
theorem c_covered {l : Launch} (hlf : l.stackTraces = false) (D : va_G) (cy : Nat → ClassId) (B : Nat) {μ : St} {n : Nat} (hs : μ 22 1 = n) (hn : n ≤ 100) : PC l D cy B yX3_covered wsX3_covered ((rk 3 7)) [.ref (B + 0)] μ (qv (fun v μ2 => ¬ n = 0 ∧ v = bI (∃ i : Nat, i < n ∧ ∀ q : Nat, q < 6 → μ 21 q ≤ μ (24 + i) q) ∧ μ2 = μ)) (ex1 sIS (fun μ2 => n = 0 ∧ μ2 = μ)) := by
  refine PC.pre (fun hR => ?_)
  refine q_start (cc := cX3_covered) (maxL := 1) (ret := (some .boolean)) hlf (by decide +kernel) rfl (by simp [Value.category]) (Nat.le_of_ble_eq_true rfl) ?_
  intro p e s m args below meth c C hret hno
  show PW p l e ((rk 3 7)) s m args below meth c D cy B 1 0 0 _ 0 [some (.ref (B + 0))] [] μ
  refine q_aload_n (pc := 0) C dX3_covered_0 rfl rfl ?_
  refine q_callV (pc := 1) (As := []) (rest := []) C (c_needTree hlf D cy B) (cwV 0 C.2.2.2.2.1 gX3_covered_X3_needTree rfl rfl rfl (by decide +kernel) ⟨Nat.le_of_ble_eq_true rfl, Nat.le_of_ble_eq_true rfl⟩) (ci := 3) rfl k0 (by decide) (by decide) rfl rfl (by first | decide | simp [Value.category]) dX3_covered_1 (by decide) (fun E μ8 hx => q_out C hno (⟨hx.1, by have := hx.2.1; omega, hx.2.2⟩) (Nat.le_of_ble_eq_true rfl) (Nat.le_of_ble_eq_true rfl)) (fun v σ9 hv => ?_)
  obtain ⟨hv1, hr1, hv2⟩ := hv
  subst hv1
  have hv2 := hv2.symm
  subst hv2
  dsimp only [Option.toList, List.cons_append, List.nil_append]
  refine q_aload_n (pc := 4) C dX3_covered_4 rfl rfl ?_
  refine q_getR (pc := 5) (ci := 3) (k := 2) (r := 22) C rfl fiX3_covered_X3 (by decide) k0 (by decide) rfl (by decide) flX3_covered_25 rfl rfl dX3_covered_5 ?_
  refine q_aload_n (pc := 8) C dX3_covered_8 rfl rfl ?_
  refine q_getR (pc := 9) (ci := 3) (k := 1) (r := 21) C rfl fiX3_covered_X3 (by decide) k0 (by decide) rfl (by decide) flX3_covered_16 rfl rfl dX3_covered_9 ?_
  refine q_callV (pc := 12) (As := [_]) (rest := []) C (c_covering hlf D cy B (n := n) (a := 21) hn hs k21 n21 (by decide)) (cwV 1 C.2.2.2.2.1 gX3_covered_X2_hasNodeCovering rfl rfl rfl (by decide +kernel) ⟨Nat.le_of_ble_eq_true rfl, Nat.le_of_ble_eq_true rfl⟩) (ci := 2) rfl k22 (by decide) (by decide) rfl rfl (by first | decide | simp [Value.category]) dX3_covered_12 (by decide) (fun _ _ h => h.elim) (fun v μ9 hv => ?_)
  have e8 := hv.1
  have e9 := hv.2.symm
  clear hv
  subst e8
  subst e9
  dsimp only [Option.toList, List.cons_append, List.nil_append]
  have hz := bI_01 (∃ i : Nat, i < n ∧ ∀ q : Nat, q < 6 → μ 21 q ≤ μ (24 + i) q)
  exact q_zret (pc := 15) C hret (by first | exact Or.inl rfl | exact Or.inr rfl | assumption) ⟨_, r_bI _, rfl, by omega, rfl, rfl⟩ (by decide) (by decide) dX3_covered_15
set_option maxHeartbeats 4000000 in
set_option maxRecDepth 100000 in
theorem c_possible {l : Launch} (hlf : l.stackTraces = false) (D : va_G) (cy : Nat → ClassId) (B : Nat) {μ : St} {T n : Nat} {t : Int} (ht : InR t) (hT : μ 1 1 = T) (h8 : T ≤ 8) (hs : μ 22 1 = n) (hn : n ≤ 100) : PC l D cy B yX3_possible wsX3_possible ((rk 3 7)) [.ref (B + 0), iN t] μ (qv (fun v μ2 => ¬ n = 0 ∧ (0 ≤ t ∧ t < T) ∧ v = bI (∃ i : Nat, i < n ∧ ∀ q : Nat, q < 6 → μ (4 + t.toNat) q ≤ μ (24 + i) q) ∧ μ2 = μ)) (ex2 sIS (fun μ2 => n = 0 ∧ μ2 = μ) sIO (fun μ2 => ¬ n = 0 ∧ ¬ (0 ≤ t ∧ t < T) ∧ μ2 = μ)) := by
  refine PC.pre (fun hR => ?_)
  refine q_start (cc := cX3_possible) (maxL := 2) (ret := (some .boolean)) hlf (by decide +kernel) rfl (by simp [Value.category]) (Nat.le_of_ble_eq_true rfl) ?_
  intro p e s m args below meth c C hret hno
  show PW p l e ((rk 3 7)) s m args below meth c D cy B 2 0 0 _ 0 [some (.ref (B + 0)), some (iN t)] [] μ
  refine q_aload_n (pc := 0) C dX3_possible_0 rfl rfl ?_
  refine q_callV (pc := 1) (As := []) (rest := []) C (c_needTree hlf D cy B) (cwV 0 C.2.2.2.2.1 gX3_possible_X3_needTree rfl rfl rfl (by decide +kernel) ⟨Nat.le_of_ble_eq_true rfl, Nat.le_of_ble_eq_true rfl⟩) (ci := 3) rfl k0 (by decide) (by decide) rfl rfl (by first | decide | simp [Value.category]) dX3_possible_1 (by decide) (fun E μ8 hx => q_out C hno (Or.inl ⟨hx.1, by have := hx.2.1; omega, hx.2.2⟩) (Nat.le_of_ble_eq_true rfl) (Nat.le_of_ble_eq_true rfl)) (fun v σ9 hv => ?_)
  obtain ⟨hv1, hr1, hv2⟩ := hv
  subst hv1
  have hv2 := hv2.symm
  subst hv2
  dsimp only [Option.toList, List.cons_append, List.nil_append]
  refine q_aload_n (pc := 4) C dX3_possible_4 rfl rfl ?_
  refine q_iload_n (pc := 5) C dX3_possible_5 rfl rfl ?_
  refine q_callV (pc := 6) (As := [_]) (rest := []) C (c_needTransition hlf D cy B (T := T) (n := t) ht hT) (cwV 1 C.2.2.2.2.1 gX3_possible_X3_needTransition rfl rfl rfl (by decide +kernel) ⟨Nat.le_of_ble_eq_true rfl, Nat.le_of_ble_eq_true rfl⟩) (ci := 3) rfl k0 (by decide) (by decide) rfl rfl (by first | decide | simp [Value.category]) dX3_possible_6 (by decide) (fun E μ8 hx => q_out C hno (Or.inr ⟨hx.1, by omega, hx.2⟩) (Nat.le_of_ble_eq_true rfl) (Nat.le_of_ble_eq_true rfl)) (fun v σ9 hv => ?_)
  obtain ⟨hv1, hr2, hv2⟩ := hv
  subst hv1
  have hv2 := hv2.symm
  subst hv2
  dsimp only [Option.toList, List.cons_append, List.nil_append]
  obtain ⟨t9, ht9⟩ : ∃ t9 : Nat, t = t9 := ⟨t.toNat, by omega⟩
  subst ht9
  refine q_aload_n (pc := 9) C dX3_possible_9 rfl rfl ?_
  refine q_getR (pc := 10) (ci := 3) (k := 2) (r := 22) C rfl fiX3_possible_X3 (by decide) k0 (by decide) rfl (by decide) flX3_possible_25 rfl rfl dX3_possible_10 ?_
  refine q_iload_n (pc := 13) C dX3_possible_13 rfl rfl ?_
  refine q_callV (pc := 14) (As := [_]) (rest := []) C (c_enabling hlf D cy B (n := n) (t := t9) hn hs (by omega)) (cwV 1 C.2.2.2.2.1 gX3_possible_X2_hasNodeEnabling rfl rfl rfl (by decide +kernel) ⟨Nat.le_of_ble_eq_true rfl, Nat.le_of_ble_eq_true rfl⟩) (ci := 2) rfl k22 (by decide) (by decide) rfl rfl (by first | decide | simp [Value.category]) dX3_possible_14 (by decide) (fun _ _ h => h.elim) (fun v μ9 hv => ?_)
  have e8 := hv.1
  have e9 := hv.2.symm
  clear hv
  subst e8
  subst e9
  dsimp only [Option.toList, List.cons_append, List.nil_append]
  have hz := bI_01 (∃ i : Nat, i < n ∧ ∀ q : Nat, q < 6 → μ (4 + t9) q ≤ μ (24 + i) q)
  exact q_zret (pc := 17) C hret (by first | exact Or.inl rfl | exact Or.inr rfl | assumption) ⟨_, r_bI _, rfl, by omega, hr2, rfl, rfl⟩ (by decide) (by decide) dX3_possible_17
set_option maxHeartbeats 4000000 in
set_option maxRecDepth 100000 in
theorem c_growth {l : Launch} (hlf : l.stackTraces = false) (D : va_G) (cy : Nat → ClassId) (B : Nat) {μ : St} {T n : Nat} {i : Int} (hi : InR i) (hs : μ 22 1 = n) (hT : n = 0 ∨ TI μ T n) : PC l D cy B yX3_growth wsX3_growth ((rk 3 7)) [.ref (B + 0), iN i] μ (qv (fun v μ2 => ¬ n = 0 ∧ -1 ≤ i ∧ μ2 = μ ∧ ((μ 22 2 = -2 ∧ v = -2) ∨ ∃ f d : Nat, f < n ∧ μ 22 2 = f ∧ μ 126 f = d ∧ ((i = -1 ∧ v = μ 22 3) ∨ ∃ k : Nat, i = k ∧ v = if d ≤ k then -1 else μ 125 (upN μ (d - (k + 1)) f))))) (ex2 sIS (fun μ2 => n = 0 ∧ μ2 = μ) sIA (fun μ2 => ¬ n = 0 ∧ i < -1 ∧ μ2 = μ)) := by
  refine PC.pre (fun hR => ?_)
  refine q_start (cc := cX3_growth) (maxL := 2) (ret := (some .int)) hlf (by decide +kernel) rfl (by simp [Value.category]) (Nat.le_of_ble_eq_true rfl) ?_
  intro p e s m args below meth c C hret hno
  show PW p l e ((rk 3 7)) s m args below meth c D cy B 2 0 0 _ 0 [some (.ref (B + 0)), some (iN i)] [] μ
  refine q_aload_n (pc := 0) C dX3_growth_0 rfl rfl ?_
  refine q_callV (pc := 1) (As := []) (rest := []) C (c_needTree hlf D cy B) (cwV 0 C.2.2.2.2.1 gX3_growth_X3_needTree rfl rfl rfl (by decide +kernel) ⟨Nat.le_of_ble_eq_true rfl, Nat.le_of_ble_eq_true rfl⟩) (ci := 3) rfl k0 (by decide) (by decide) rfl rfl (by first | decide | simp [Value.category]) dX3_growth_1 (by decide) (fun E μ8 hx => q_out C hno (Or.inl ⟨hx.1, by have := hx.2.1; omega, hx.2.2⟩) (Nat.le_of_ble_eq_true rfl) (Nat.le_of_ble_eq_true rfl)) (fun v σ9 hv => ?_)
  obtain ⟨hv1, hr1, hv2⟩ := hv
  subst hv1
  have hv2 := hv2.symm
  subst hv2
  dsimp only [Option.toList, List.cons_append, List.nil_append]
  refine q_iload_n (pc := 4) C dX3_growth_4 rfl rfl ?_
  refine q_iconst (pc := 5) C dX3_growth_5 ?_
  refine q_icmp_ge (pc := 6) (tgt := 19) C (by first | exact hR _ _ | exact hRo _ _ | assumption | exact ⟨by omega, by omega⟩) (by first | exact hR _ _ | exact hRo _ _ | assumption | exact ⟨by omega, by omega⟩) dX3_growth_6 (by decide) (fun hc => ?_) (fun hc => ?_)
  · have hT9 : TI μ T n := by
      rcases hT with z | z
      · exact absurd z (by omega)
      · exact z
    refine q_aload_n (pc := 19) C dX3_growth_19 rfl rfl ?_
    refine q_getR (pc := 20) (ci := 3) (k := 2) (r := 22) C rfl fiX3_growth_X3 (by decide) k0 (by decide) rfl (by decide) flX3_growth_25 rfl rfl dX3_growth_20 ?_
    refine q_callV (pc := 23) (As := []) (rest := []) C (c_hasEndless hlf D cy B) (cwV 0 C.2.2.2.2.1 gX3_growth_X2_hasEndless rfl rfl rfl (by decide +kernel) ⟨Nat.le_of_ble_eq_true rfl, Nat.le_of_ble_eq_true rfl⟩) (ci := 2) rfl k22 (by decide) (by decide) rfl rfl (by first | decide | simp [Value.category]) dX3_growth_23 (by decide) (fun _ _ h => h.elim) (fun v μ9 hv => ?_)
    have e8 := hv.1
    have e9 := hv.2.symm
    clear hv
    subst e8
    subst e9
    dsimp only [Option.toList, List.cons_append, List.nil_append]
    have hz := bI_01 (¬ μ 22 2 = -2)
    refine q_if_ne (pc := 26) (tgt := 32) C (by first | exact hR _ _ | exact hRo _ _ | assumption | exact ⟨by omega, by omega⟩) dX3_growth_26 (by decide) (fun hd => ?_) (fun hd => ?_)
    · have hne := bI_1.mp (show bI (¬ μ 22 2 = -2) = 1 by omega)
      obtain ⟨f, hf, hfe⟩ : ∃ f : Nat, f < n ∧ μ 22 2 = f := by
        rcases hT9.2.2.2.2.2.2.2.1 with ⟨z, -⟩ | ⟨f, hf, z, -⟩
        · exact absurd z hne
        · exact ⟨f, hf, z⟩
      obtain ⟨d, hd1, hd2⟩ := chP_le hT9.2.2.2.1 f hf
      refine q_iload_n (pc := 32) C dX3_growth_32 rfl rfl ?_
      refine q_iconst (pc := 33) C dX3_growth_33 ?_
      refine q_icmp_ne (pc := 34) (tgt := 47) C (by first | exact hR _ _ | exact hRo _ _ | assumption | exact ⟨by omega, by omega⟩) (by first | exact hR _ _ | exact hRo _ _ | assumption | exact ⟨by omega, by omega⟩) dX3_growth_34 (by decide) (fun he => ?_) (fun he => ?_)
      · obtain ⟨k, hk⟩ : ∃ k : Nat, i = k := ⟨i.toNat, by omega⟩
        subst hk
        refine q_aload_n (pc := 47) C dX3_growth_47 rfl rfl ?_
        refine q_getR (pc := 48) (ci := 3) (k := 2) (r := 22) C rfl fiX3_growth_X3 (by decide) k0 (by decide) rfl (by decide) flX3_growth_25 rfl rfl dX3_growth_48 ?_
        refine q_iload_n (pc := 51) C dX3_growth_51 rfl rfl ?_
        refine q_callV (pc := 52) (As := [_]) (rest := []) C (c_step hlf D cy B (n := n) (f := f) (d := d) (k := k) hT9.2.1 hf hfe hT9.2.2.2.1 hd1 (by have := hi.2; omega)) (cwV 1 C.2.2.2.2.1 gX3_growth_X2_stepToFirstEndless rfl rfl rfl (by decide +kernel) ⟨Nat.le_of_ble_eq_true rfl, Nat.le_of_ble_eq_true rfl⟩) (ci := 2) rfl k22 (by decide) (by decide) rfl rfl (by first | decide | simp [Value.category]) dX3_growth_52 (by decide) (fun _ _ h => h.elim) (fun v μ9 hv => ?_)
        have e8 := hv.1
        have e9 := hv.2.symm
        clear hv
        subst e8
        subst e9
        dsimp only [Option.toList, List.cons_append, List.nil_append]
        exact q_iret (pc := 55) C hret ⟨_, r_if ⟨by decide, by decide⟩ (hR _ _), rfl, by omega, by omega, rfl, Or.inr ⟨f, d, hf, hfe, hd1, Or.inr ⟨k, rfl, rfl⟩⟩⟩ (by decide) (by decide) dX3_growth_55
      · refine q_aload_n (pc := 37) C dX3_growth_37 rfl rfl ?_
        refine q_getR (pc := 38) (ci := 3) (k := 2) (r := 22) C rfl fiX3_growth_X3 (by decide) k0 (by decide) rfl (by decide) flX3_growth_25 rfl rfl dX3_growth_38 ?_
        refine q_getIN (pc := 41) (ci := 2) (k := 3) (ki := 3) C rfl rfl fiX3_growth_X2 (by decide) k22 (by decide) rfl (by decide) (by decide +kernel) rfl rfl dX3_growth_41 ?_
        refine q_goto (pc := 44) (tgt := 55) C dX3_growth_44 (by decide) ?_
        exact q_iret (pc := 55) C hret ⟨_, hR _ _, rfl, by omega, by omega, rfl, Or.inr ⟨f, d, hf, hfe, hd1, Or.inl ⟨by omega, rfl⟩⟩⟩ (by decide) (by decide) dX3_growth_55
    · have hne := bI_0.mp hd
      refine q_bipush (pc := 29) C (by decide +kernel) dX3_growth_29 ?_
      exact q_iret (pc := 31) C hret ⟨_, ⟨by decide, by decide⟩, rfl, by omega, by omega, rfl, Or.inl ⟨by omega, rfl⟩⟩ (by decide) (by decide) dX3_growth_31
  · exact q_throw (pc := 9) (ik := 127) (is := 129) (ic := 131) (cls := "java/lang/IllegalArgumentException") (text := "what is less than -1") (names := ["java/lang/RuntimeException", "java/lang/Exception"]) C (by decide +kernel) (by decide +kernel) (by decide +kernel) (by decide +kernel) (by decide +kernel) hatX3_X3_growth_131 (by decide +kernel) (by decide +kernel) dX3_growth_9 dX3_growth_12 dX3_growth_13 dX3_growth_15 dX3_growth_18 hno (Nat.le_of_ble_eq_true rfl) (Nat.le_of_ble_eq_true rfl) (by decide) (by decide) (Or.inr ⟨rfl, by omega, by omega, rfl⟩) (by decide) (by decide)

