theorem fiX2_addChild_X2 : ∀ w ∈ u_ws RX2 TX2 9, w ∈ wsX2_addChild := by decide +kernel
theorem fiX2_addRoot_X1 : ∀ w ∈ u_ws RX1 TX1 5, w ∈ wsX2_addRoot := by decide +kernel
theorem fiX2_addRoot_X2 : ∀ w ∈ u_ws RX2 TX2 9, w ∈ wsX2_addRoot := by decide +kernel
theorem flX2_addChild_30 : Cond.fieldLink RX2 30 RX2 (TX2 0).2.1 (TX2 0).2.2.1 ∈ wsX2_addChild := by decide +kernel
theorem flX2_addChild_47 : Cond.fieldLink RX2 47 RX2 (TX2 1).2.1 (TX2 1).2.2.1 ∈ wsX2_addChild := by decide +kernel
theorem flX2_addChild_11 : Cond.fieldLink RX2 11 RX2 (TX2 4).2.1 (TX2 4).2.2.1 ∈ wsX2_addChild := by decide +kernel
theorem flX2_addChild_16 : Cond.fieldLink RX2 16 RX2 (TX2 5).2.1 (TX2 5).2.2.1 ∈ wsX2_addChild := by decide +kernel
theorem flX2_addChild_20 : Cond.fieldLink RX2 20 RX2 (TX2 6).2.1 (TX2 6).2.2.1 ∈ wsX2_addChild := by decide +kernel
theorem flX2_addChild_23 : Cond.fieldLink RX2 23 RX2 (TX2 7).2.1 (TX2 7).2.2.1 ∈ wsX2_addChild := by decide +kernel
theorem flX2_addChild_26 : Cond.fieldLink RX2 26 RX2 (TX2 8).2.1 (TX2 8).2.2.1 ∈ wsX2_addChild := by decide +kernel
theorem flX2_addRoot_30 : Cond.fieldLink RX2 30 RX2 (TX2 0).2.1 (TX2 0).2.2.1 ∈ wsX2_addRoot := by decide +kernel
theorem flX2_addRoot_47 : Cond.fieldLink RX2 47 RX2 (TX2 1).2.1 (TX2 1).2.2.1 ∈ wsX2_addRoot := by decide +kernel
theorem flX2_addRoot_61 : Cond.fieldLink RX2 61 RX2 (TX2 2).2.1 (TX2 2).2.2.1 ∈ wsX2_addRoot := by decide +kernel
theorem flX2_addRoot_11 : Cond.fieldLink RX2 11 RX2 (TX2 4).2.1 (TX2 4).2.2.1 ∈ wsX2_addRoot := by decide +kernel
theorem flX2_addRoot_16 : Cond.fieldLink RX2 16 RX2 (TX2 5).2.1 (TX2 5).2.2.1 ∈ wsX2_addRoot := by decide +kernel
theorem flX2_addRoot_20 : Cond.fieldLink RX2 20 RX2 (TX2 6).2.1 (TX2 6).2.2.1 ∈ wsX2_addRoot := by decide +kernel
theorem flX2_addRoot_23 : Cond.fieldLink RX2 23 RX2 (TX2 7).2.1 (TX2 7).2.2.1 ∈ wsX2_addRoot := by decide +kernel
theorem flX2_addRoot_26 : Cond.fieldLink RX2 26 RX2 (TX2 8).2.1 (TX2 8).2.2.1 ∈ wsX2_addRoot := by decide +kernel
def rootS (μ : St) : St := updS (updS (updS (updS (updS (updS (cpS μ 24 2) 124 0 (-2)) 125 0 (-2)) 126 0 0) 127 0 0) 22 2 (-2)) 22 1 1
set_option maxHeartbeats 4000000 in
set_option maxRecDepth 100000 in
theorem c_addRoot {l : Launch} (hlf : l.stackTraces = false) (D : va_G) (cy : Nat → ClassId) (B : Nat) {μ : St}  : PC l D cy B yX2_addRoot wsX2_addRoot (r0 2) [.ref (B + 22)] μ (ret0 (rootS μ)) noX := by
  refine PC.pre (fun hR => ?_)
  refine q_start (cc := cX2_addRoot) (maxL := 1) (ret := none) hlf (by decide +kernel) rfl (by simp [Value.category]) (Nat.le_of_ble_eq_true rfl) ?_
  intro p e s m args below meth c C hret hno
  show PW p l e (r0 2) s m args below meth c D cy B 1 0 0 _ 0 [some (.ref (B + 22))] [] μ
  refine q_aload_n (pc := 0) C dX2_addRoot_0 rfl rfl ?_
  refine q_getR (pc := 1) (ci := 2) (k := 4) (r := 23) C rfl fiX2_addRoot_X2 (by decide) k22 (by decide) rfl (by decide) flX2_addRoot_11 rfl rfl dX2_addRoot_1 ?_
  refine q_iconst (pc := 4) C dX2_addRoot_4 ?_
  first | refine q_aaloadN (pc := 5) C k23 n23 (by decide) (by decide) (by omega) rfl dX2_addRoot_5 ?_ | refine q_aaload (pc := 5) C k23 n23 (by decide) (by decide) (by omega) (by omega) rfl dX2_addRoot_5 ?_
  refine q_aload_n (pc := 6) C dX2_addRoot_6 rfl rfl ?_
  refine q_getR (pc := 7) (ci := 2) (k := 0) (r := 1) C rfl fiX2_addRoot_X2 (by decide) k22 (by decide) rfl (by decide) flX2_addRoot_30 rfl rfl dX2_addRoot_7 ?_
  refine q_getRN (pc := 10) (ci := 1) (k := 2) (r := 2) C rfl fiX2_addRoot_X1 (by decide) k1 (by decide) rfl (by decide) (by decide +kernel) rfl rfl dX2_addRoot_10 ?_
  refine q_callSN (pc := 13) (As := [_, _]) (rest := []) C (c_copyInto hlf D cy B (a := 24) (b := 2) (k_r23 (x := 0) (by omega)) (n_r23 (x := 0) (by omega)) (l_r23 (x := 0) (by omega)) k2 n2 (by decide)) ⟨va_cnB (host := "CoverTrees") (index := 57) 2 C.2.2.2.2.1 gX2_addRoot_X3_copyInto_n57 rfl rfl rfl (C.2.2.2.2.2.1.2.2.1 (RX2, 57, yX3_copyInto) (by decide +kernel)) (C.2.2.2.2.1 _ (by decide +kernel)) (by decide +kernel) ⟨Nat.le_of_ble_eq_true rfl, Nat.le_of_ble_eq_true rfl⟩, C.2.2.2.2.1 _ (by decide +kernel), trivial⟩ rfl rfl (by first | decide | simp [Value.category]) dX2_addRoot_13 (by decide) (fun _ _ h => h.elim) (fun v μ9 hv => ?_)
  have e8 := hv.1
  have e9 := hv.2.symm
  clear hv
  subst e8
  subst e9
  dsimp only [Option.toList, List.cons_append, List.nil_append]
  refine q_aload_n (pc := 16) C dX2_addRoot_16 rfl rfl ?_
  refine q_getR (pc := 17) (ci := 2) (k := 5) (r := 124) C rfl fiX2_addRoot_X2 (by decide) k22 (by decide) rfl (by decide) flX2_addRoot_16 rfl rfl dX2_addRoot_17 ?_
  refine q_iconst (pc := 20) C dX2_addRoot_20 ?_
  refine q_bipush (pc := 21) C (by decide +kernel) dX2_addRoot_21 ?_
  refine q_iastore (pc := 23) C k124 n124 (by decide) (by decide) (by omega) (by omega) (by first | exact hR _ _ | exact hRo _ _ | assumption | exact ⟨by omega, by omega⟩) dX2_addRoot_23 ?_
  refine q_aload_n (pc := 24) C dX2_addRoot_24 rfl rfl ?_
  refine q_getR (pc := 25) (ci := 2) (k := 6) (r := 125) C rfl fiX2_addRoot_X2 (by decide) k22 (by decide) rfl (by decide) flX2_addRoot_20 rfl rfl dX2_addRoot_25 ?_
  refine q_iconst (pc := 28) C dX2_addRoot_28 ?_
  refine q_bipush (pc := 29) C (by decide +kernel) dX2_addRoot_29 ?_
  refine q_iastore (pc := 31) C k125 n125 (by decide) (by decide) (by omega) (by omega) (by first | exact hR _ _ | exact hRo _ _ | assumption | exact ⟨by omega, by omega⟩) dX2_addRoot_31 ?_
  refine q_aload_n (pc := 32) C dX2_addRoot_32 rfl rfl ?_
  refine q_getR (pc := 33) (ci := 2) (k := 7) (r := 126) C rfl fiX2_addRoot_X2 (by decide) k22 (by decide) rfl (by decide) flX2_addRoot_23 rfl rfl dX2_addRoot_33 ?_
  refine q_iconst (pc := 36) C dX2_addRoot_36 ?_
  refine q_iconst (pc := 37) C dX2_addRoot_37 ?_
  refine q_iastore (pc := 38) C k126 n126 (by decide) (by decide) (by omega) (by omega) (by first | exact hR _ _ | exact hRo _ _ | assumption | exact ⟨by omega, by omega⟩) dX2_addRoot_38 ?_
  refine q_aload_n (pc := 39) C dX2_addRoot_39 rfl rfl ?_
  refine q_getR (pc := 40) (ci := 2) (k := 8) (r := 127) C rfl fiX2_addRoot_X2 (by decide) k22 (by decide) rfl (by decide) flX2_addRoot_26 rfl rfl dX2_addRoot_40 ?_
  refine q_iconst (pc := 43) C dX2_addRoot_43 ?_
  refine q_iconst (pc := 44) C dX2_addRoot_44 ?_
  refine q_bastore (pc := 45) C k127 n127 (by decide) (by decide) (by omega) (by omega) (by first | exact hR _ _ | exact hRo _ _ | assumption | exact ⟨by omega, by omega⟩) (by first | exact Or.inl rfl | exact Or.inr rfl | assumption) dX2_addRoot_45 ?_
  refine q_aload_n (pc := 46) C dX2_addRoot_46 rfl rfl ?_
  refine q_bipush (pc := 47) C (by decide +kernel) dX2_addRoot_47 ?_
  refine q_put (pc := 49) (ci := 2) (k := 2) (ki := 2) (ty0 := tyX2) C rfl rfl fiX2_addRoot_X2 (by decide) k22 (by decide) rfl (by decide) flX2_addRoot_61 rfl tyX2_ok nmX2 rfl rfl rfl (by first | exact hR _ _ | exact hRo _ _ | assumption | exact ⟨by omega, by omega⟩) dX2_addRoot_49 ?_
  refine q_aload_n (pc := 52) C dX2_addRoot_52 rfl rfl ?_
  refine q_iconst (pc := 53) C dX2_addRoot_53 ?_
  refine q_put (pc := 54) (ci := 2) (k := 1) (ki := 1) (ty0 := tyX2) C rfl rfl fiX2_addRoot_X2 (by decide) k22 (by decide) rfl (by decide) flX2_addRoot_47 rfl tyX2_ok nmX2 rfl rfl rfl (by first | exact hR _ _ | exact hRo _ _ | assumption | exact ⟨by omega, by omega⟩) dX2_addRoot_54 ?_
  exact q_vret (pc := 57) C hret ⟨rfl, rfl⟩ (by decide) (by decide) dX2_addRoot_57
def ch4 (μ : St) (n c t : Nat) : St := updS (updS (updS (preS μ (24 + n) 6 (fireV μ (24 + c) t)) 124 n c) 125 n t) 126 n (μ 126 c + 1)
def ch5 (μ : St) (n c t : Nat) : St := repS (μ 126 c).toNat (ch4 μ n c t) n c
def chS (μ : St) (n c t : Nat) : St := updS (updS (ch5 μ n c t) 127 n (amo (ch5 μ n c t) n)) 22 1 ((n : Int) + 1)
theorem noteS_22 (μ : St) (n d : Int) {k : Int} (h2 : k ≠ 2) (h3 : k ≠ 3) : noteS μ n d 22 k = μ 22 k := by
  unfold noteS
  split
  · rw [updS_nk _ _ _ _ h3, updS_nk _ _ _ _ h2]
  · rfl
theorem hitS_22 (μ : St) (n a : Nat) (d : Int) {k : Int} (h2 : k ≠ 2) (h3 : k ≠ 3) : hitS μ n a d 22 k = μ 22 k := by
  unfold hitS
  split
  · rw [noteS_22 _ _ _ h2 h3, preS_ne _ _ _ _ (by omega)]
  · rfl
theorem repS_22 : ∀ (d : Nat) (μ : St) (n a : Nat) {k : Int} (h2 : k ≠ 2) (h3 : k ≠ 3), repS d μ n a 22 k = μ 22 k
  | 0, μ, n, a, k, h2, h3 => hitS_22 μ n a 0 h2 h3
  | d + 1, μ, n, a, k, h2, h3 => by
    rw [repS_succ, repS_22 d _ _ _ h2 h3, hitS_22 _ _ _ _ h2 h3]
theorem ch4_124 (μ : St) (n c t : Nat) (hn : n < 100) (k : Int) : ch4 μ n c t 124 k = if k = n then (c : Int) else μ 124 k := by
  unfold ch4
  rw [updS_ap, if_neg (by omega), updS_ap, if_neg (by omega), updS_ap]
  by_cases h : k = n
  · rw [if_pos ⟨rfl, h⟩, if_pos h]
  · rw [if_neg (fun z => h z.2), if_neg h, preS_ne _ _ _ _ (by omega)]
theorem ch4_126 (μ : St) (n c t : Nat) (hn : n < 100) (k : Int) : ch4 μ n c t 126 k = if k = n then μ 126 c + 1 else μ 126 k := by
  unfold ch4
  rw [updS_ap]
  by_cases h : k = n
  · rw [if_pos ⟨rfl, h⟩, if_pos h]
  · rw [if_neg (fun z => h z.2), if_neg h, updS_ap, if_neg (by omega), updS_ap, if_neg (by omega), preS_ne _ _ _ _ (by omega)]
theorem chP_ch4 {μ : St} {n c t : Nat} (hn : n < 100) (h : chP μ n) : chP (ch4 μ n c t) n := by
  intro i hi
  rw [ch4_124 _ _ _ _ hn, ch4_126 _ _ _ _ hn, if_neg (by omega), if_neg (by omega)]
  rcases h i hi with h1 | ⟨j, e, hj, h2, h3, h4⟩
  · exact Or.inl h1
  · refine Or.inr ⟨j, e, hj, h2, ?_, h4⟩
    rw [ch4_126 _ _ _ _ hn, if_neg (by omega)]
    exact h3
set_option maxHeartbeats 4000000 in
set_option maxRecDepth 100000 in
theorem c_addChild {l : Launch} (hlf : l.stackTraces = false) (D : va_G) (cy : Nat → ClassId) (B : Nat) {μ : St} {n u t : Nat} (hn : n < 100) (hs : μ 22 1 = n) (hcn : u < n) (ht : t < 8) (hch : chP μ n) (hv : ∀ q : Nat, q < 6 → InR (fireV μ (24 + u) t q)) : PC l D cy B yX2_addChild wsX2_addChild (r0 2) [.ref (B + 22), iN u, iN t] μ (fun r μ2 => r = some (iN n) ∧ μ2 = chS μ n u t) noX := by
  refine PC.pre (fun hR => ?_)
  refine q_start (cc := cX2_addChild) (maxL := 4) (ret := (some .int)) hlf (by decide +kernel) rfl (by simp [Value.category]) (Nat.le_of_ble_eq_true rfl) ?_
  intro p e s m args below meth c C hret hno
  show PW p l e (r0 2) s m args below meth c D cy B 4 0 0 _ 0 [some (.ref (B + 22)), some (iN u), some (iN t), none] [] μ
  obtain ⟨d, hd1, hd2⟩ := chP_le hch u hcn
  refine q_aload_n (pc := 0) C dX2_addChild_0 rfl rfl ?_
  refine q_getI (pc := 1) (ci := 2) (k := 1) (ki := 1) C rfl rfl fiX2_addChild_X2 (by decide) k22 (by decide) rfl (by decide) flX2_addChild_47 rfl rfl dX2_addChild_1 ?_
  rw [hs]
  refine q_istore_n (pc := 4) (lv2 := [_, _, _, _]) C dX2_addChild_4 rfl (by decide) rfl ?_
  refine q_aload_n (pc := 5) C dX2_addChild_5 rfl rfl ?_
  refine q_getR (pc := 6) (ci := 2) (k := 0) (r := 1) C rfl fiX2_addChild_X2 (by decide) k22 (by decide) rfl (by decide) flX2_addChild_30 rfl rfl dX2_addChild_6 ?_
  refine q_aload_n (pc := 9) C dX2_addChild_9 rfl rfl ?_
  refine q_getR (pc := 10) (ci := 2) (k := 4) (r := 23) C rfl fiX2_addChild_X2 (by decide) k22 (by decide) rfl (by decide) flX2_addChild_11 rfl rfl dX2_addChild_10 ?_
  refine q_iload_n (pc := 13) C dX2_addChild_13 rfl rfl ?_
  first | refine q_aaloadN (pc := 14) C k23 n23 (by decide) (by decide) (by omega) rfl dX2_addChild_14 ?_ | refine q_aaload (pc := 14) C k23 n23 (by decide) (by decide) (by omega) (by omega) rfl dX2_addChild_14 ?_
  refine q_iload_n (pc := 15) C dX2_addChild_15 rfl rfl ?_
  refine q_aload_n (pc := 16) C dX2_addChild_16 rfl rfl ?_
  refine q_getR (pc := 17) (ci := 2) (k := 4) (r := 23) C rfl fiX2_addChild_X2 (by decide) k22 (by decide) rfl (by decide) flX2_addChild_11 rfl rfl dX2_addChild_17 ?_
  refine q_iload_n (pc := 20) C dX2_addChild_20 rfl rfl ?_
  first | refine q_aaloadN (pc := 21) C k23 n23 (by decide) (by decide) (by omega) rfl dX2_addChild_21 ?_ | refine q_aaload (pc := 21) C k23 n23 (by decide) (by decide) (by omega) (by omega) rfl dX2_addChild_21 ?_
  refine q_callV (pc := 22) (As := [_, _, _]) (rest := []) C (c_fire hlf D cy B (a := 24 + u) (b := 24 + n) (t := t) (k_r23 (by omega)) (n_r23 (by omega)) (l_r23 (by omega)) (k_r23 (by omega)) (n_r23 (by omega)) (l_r23 (by omega)) ht (by omega) (by omega) (by omega) hv) (cwV 3 C.2.2.2.2.1 gX2_addChild_X1_fire rfl rfl rfl (by decide +kernel) ⟨Nat.le_of_ble_eq_true rfl, Nat.le_of_ble_eq_true rfl⟩) (ci := 1) rfl k1 (by decide) (by decide) rfl rfl (by first | decide | simp [Value.category]) dX2_addChild_22 (by decide) (fun _ _ h => h.elim) (fun v μ9 hv => ?_)
  have e8 := hv.1
  have e9 := hv.2.symm
  clear hv
  subst e8
  subst e9
  dsimp only [Option.toList, List.cons_append, List.nil_append]
  refine q_aload_n (pc := 25) C dX2_addChild_25 rfl rfl ?_
  refine q_getR (pc := 26) (ci := 2) (k := 5) (r := 124) C rfl fiX2_addChild_X2 (by decide) k22 (by decide) rfl (by decide) flX2_addChild_16 rfl rfl dX2_addChild_26 ?_
  refine q_iload_n (pc := 29) C dX2_addChild_29 rfl rfl ?_
  refine q_iload_n (pc := 30) C dX2_addChild_30 rfl rfl ?_
  refine q_iastore (pc := 31) C k124 n124 (by decide) (by decide) (by omega) (by omega) (by first | exact hR _ _ | exact hRo _ _ | assumption | exact ⟨by omega, by omega⟩) dX2_addChild_31 ?_
  refine q_aload_n (pc := 32) C dX2_addChild_32 rfl rfl ?_
  refine q_getR (pc := 33) (ci := 2) (k := 6) (r := 125) C rfl fiX2_addChild_X2 (by decide) k22 (by decide) rfl (by decide) flX2_addChild_20 rfl rfl dX2_addChild_33 ?_
  refine q_iload_n (pc := 36) C dX2_addChild_36 rfl rfl ?_
  refine q_iload_n (pc := 37) C dX2_addChild_37 rfl rfl ?_
  refine q_iastore (pc := 38) C k125 n125 (by decide) (by decide) (by omega) (by omega) (by first | exact hR _ _ | exact hRo _ _ | assumption | exact ⟨by omega, by omega⟩) dX2_addChild_38 ?_
  refine q_aload_n (pc := 39) C dX2_addChild_39 rfl rfl ?_
  refine q_getR (pc := 40) (ci := 2) (k := 7) (r := 126) C rfl fiX2_addChild_X2 (by decide) k22 (by decide) rfl (by decide) flX2_addChild_23 rfl rfl dX2_addChild_40 ?_
  refine q_iload_n (pc := 43) C dX2_addChild_43 rfl rfl ?_
  refine q_aload_n (pc := 44) C dX2_addChild_44 rfl rfl ?_
  refine q_getR (pc := 45) (ci := 2) (k := 7) (r := 126) C rfl fiX2_addChild_X2 (by decide) k22 (by decide) rfl (by decide) flX2_addChild_23 rfl rfl dX2_addChild_45 ?_
  refine q_iload_n (pc := 48) C dX2_addChild_48 rfl rfl ?_
  refine q_iaload (pc := 49) C k126 n126 (by decide) (by decide) (by omega) (by omega) dX2_addChild_49 ?_
  simp only [updS_ap, Nat.reduceEqDiff, Int.reduceEq, Int.toNat_natCast, false_and, true_and, and_false, and_true, and_self, if_false, if_true, ↓reduceIte, preS_ne _ _ _ _ (show 126 ≠ 24 + n by omega)]
  rw [hd1]
  refine q_iconst (pc := 50) C dX2_addChild_50 ?_
  refine q_iadd (pc := 51) C dX2_addChild_51 ?_
  refine q_iastore (pc := 52) C k126 n126 (by decide) (by decide) (by omega) (by omega) (by first | exact hR _ _ | exact hRo _ _ | assumption | exact ⟨by omega, by omega⟩) dX2_addChild_52 ?_
  refine q_mu (μ2 := ch4 μ n u t) (by unfold ch4; rw [hd1]) ?_
  have e124 : ch4 μ n u t 124 n = u := by rw [ch4_124 _ _ _ _ hn, if_pos rfl]
  have e126 : ch4 μ n u t 126 n = ((d + 1 : Nat) : Int) := by rw [ch4_126 _ _ _ _ hn, if_pos rfl, hd1]; omega
  have e126c : ch4 μ n u t 126 u = d := by rw [ch4_126 _ _ _ _ hn, if_neg (by omega), hd1]
  refine q_aload_n (pc := 53) C dX2_addChild_53 rfl rfl ?_
  refine q_iload_n (pc := 54) C dX2_addChild_54 rfl rfl ?_
  refine q_callV (pc := 55) (As := [_]) (rest := []) C (c_rep hlf D cy B (n := n) (a0 := u) (d0 := d) hn hcn e124 e126 e126c (chP_ch4 hn hch)) (cwV 1 C.2.2.2.2.1 gX2_addChild_X2_makeEndlessWhatRepeats rfl rfl rfl (by decide +kernel) ⟨Nat.le_of_ble_eq_true rfl, Nat.le_of_ble_eq_true rfl⟩) (ci := 2) rfl k22 (by decide) (by decide) rfl rfl (by first | decide | simp [Value.category]) dX2_addChild_55 (by decide) (fun _ _ h => h.elim) (fun v μ9 hv => ?_)
  have e8 := hv.1
  have e9 := hv.2.symm
  clear hv
  subst e8
  subst e9
  dsimp only [Option.toList, List.cons_append, List.nil_append]
  have e5 : repS d (ch4 μ n u t) n u = ch5 μ n u t := by unfold ch5; rw [hd1]; rfl
  refine q_mu e5 ?_
  refine q_aload_n (pc := 58) C dX2_addChild_58 rfl rfl ?_
  refine q_getR (pc := 59) (ci := 2) (k := 8) (r := 127) C rfl fiX2_addChild_X2 (by decide) k22 (by decide) rfl (by decide) flX2_addChild_26 rfl rfl dX2_addChild_59 ?_
  refine q_iload_n (pc := 62) C dX2_addChild_62 rfl rfl ?_
  refine q_aload_n (pc := 63) C dX2_addChild_63 rfl rfl ?_
  refine q_iload_n (pc := 64) C dX2_addChild_64 rfl rfl ?_
  refine q_callV (pc := 65) (As := [_]) (rest := [_, _]) C (c_among hlf D cy B (n := n) hn) (cwV 1 C.2.2.2.2.1 gX2_addChild_X2_isAmongEarlier rfl rfl rfl (by decide +kernel) ⟨Nat.le_of_ble_eq_true rfl, Nat.le_of_ble_eq_true rfl⟩) (ci := 2) rfl k22 (by decide) (by decide) rfl rfl (by first | decide | simp [Value.category]) dX2_addChild_65 (by decide) (fun _ _ h => h.elim) (fun v μ9 hv => ?_)
  have e8 := hv.1
  have e9 := hv.2.symm
  clear hv
  subst e8
  subst e9
  dsimp only [Option.toList, List.cons_append, List.nil_append]
  have hz := amo_01 (ch5 μ n u t) n
  refine q_bastore (pc := 68) C k127 n127 (by decide) (by decide) (by omega) (by omega) (by first | exact hR _ _ | exact hRo _ _ | assumption | exact ⟨by omega, by omega⟩) (by first | exact Or.inl rfl | exact Or.inr rfl | assumption) dX2_addChild_68 ?_
  refine q_aload_n (pc := 69) C dX2_addChild_69 rfl rfl ?_
  refine q_dup (pc := 70) C rfl dX2_addChild_70 ?_
  have e22 : ch5 μ n u t 22 1 = n := by
    rw [← e5, repS_22 _ _ _ _ (by decide) (by decide)]
    unfold ch4
    rw [updS_ap, if_neg (by omega), updS_ap, if_neg (by omega), updS_ap, if_neg (by omega), preS_ne _ _ _ _ (by omega), hs]
  refine q_getI (pc := 71) (ci := 2) (k := 1) (ki := 1) C rfl rfl fiX2_addChild_X2 (by decide) k22 (by decide) rfl (by decide) flX2_addChild_47 rfl rfl dX2_addChild_71 ?_
  simp only [updS_ap, Nat.reduceEqDiff, Int.reduceEq, Int.toNat_natCast, false_and, true_and, and_false, and_true, and_self, if_false, if_true, ↓reduceIte]
  rw [e22]
  refine q_iconst (pc := 74) C dX2_addChild_74 ?_
  refine q_iadd (pc := 75) C dX2_addChild_75 ?_
  refine q_put (pc := 76) (ci := 2) (k := 1) (ki := 1) (ty0 := tyX2) C rfl rfl fiX2_addChild_X2 (by decide) k22 (by decide) rfl (by decide) flX2_addChild_47 rfl tyX2_ok nmX2 rfl rfl rfl (by first | exact hR _ _ | exact hRo _ _ | assumption | exact ⟨by omega, by omega⟩) dX2_addChild_76 ?_
  refine q_iload_n (pc := 79) C dX2_addChild_79 rfl rfl ?_
  exact q_iret (pc := 80) C hret ⟨rfl, rfl⟩ (by decide) (by decide) dX2_addChild_80

