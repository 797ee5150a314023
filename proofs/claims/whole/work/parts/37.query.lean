theorem fiX2_greatestCount_X2 : ∀ w ∈ u_ws RX2 TX2 9, w ∈ wsX2_greatestCount := by decide +kernel
theorem fiX2_hasNodeCovering_X2 : ∀ w ∈ u_ws RX2 TX2 9, w ∈ wsX2_hasNodeCovering := by decide +kernel
theorem fiX2_hasNodeEnabling_X1 : ∀ w ∈ u_ws RX1 TX1 5, w ∈ wsX2_hasNodeEnabling := by decide +kernel
theorem fiX2_hasNodeEnabling_X2 : ∀ w ∈ u_ws RX2 TX2 9, w ∈ wsX2_hasNodeEnabling := by decide +kernel
theorem fiX2_stepToFirstEndless_X2 : ∀ w ∈ u_ws RX2 TX2 9, w ∈ wsX2_stepToFirstEndless := by decide +kernel
theorem flX2_greatestCount_47 : Cond.fieldLink RX2 47 RX2 (TX2 1).2.1 (TX2 1).2.2.1 ∈ wsX2_greatestCount := by decide +kernel
theorem flX2_greatestCount_11 : Cond.fieldLink RX2 11 RX2 (TX2 4).2.1 (TX2 4).2.2.1 ∈ wsX2_greatestCount := by decide +kernel
theorem flX2_hasNodeCovering_47 : Cond.fieldLink RX2 47 RX2 (TX2 1).2.1 (TX2 1).2.2.1 ∈ wsX2_hasNodeCovering := by decide +kernel
theorem flX2_hasNodeCovering_11 : Cond.fieldLink RX2 11 RX2 (TX2 4).2.1 (TX2 4).2.2.1 ∈ wsX2_hasNodeCovering := by decide +kernel
theorem flX2_hasNodeEnabling_30 : Cond.fieldLink RX2 30 RX2 (TX2 0).2.1 (TX2 0).2.2.1 ∈ wsX2_hasNodeEnabling := by decide +kernel
theorem flX2_stepToFirstEndless_61 : Cond.fieldLink RX2 61 RX2 (TX2 2).2.1 (TX2 2).2.2.1 ∈ wsX2_stepToFirstEndless := by decide +kernel
theorem flX2_stepToFirstEndless_16 : Cond.fieldLink RX2 16 RX2 (TX2 5).2.1 (TX2 5).2.2.1 ∈ wsX2_stepToFirstEndless := by decide +kernel
theorem flX2_stepToFirstEndless_20 : Cond.fieldLink RX2 20 RX2 (TX2 6).2.1 (TX2 6).2.2.1 ∈ wsX2_stepToFirstEndless := by decide +kernel
theorem flX2_stepToFirstEndless_23 : Cond.fieldLink RX2 23 RX2 (TX2 7).2.1 (TX2 7).2.2.1 ∈ wsX2_stepToFirstEndless := by decide +kernel
def gmax (f : Nat → Int) : Nat → Int
  | 0 => 0
  | i + 1 => if gmax f i < f i then f i else gmax f i
theorem gmax_r {f : Nat → Int} (h : ∀ i, InR (f i)) : ∀ i, InR (gmax f i)
  | 0 => r_0
  | i + 1 => by
    unfold gmax
    split
    · exact h i
    · exact gmax_r h i
set_option maxHeartbeats 4000000 in
set_option maxRecDepth 100000 in
theorem c_greatest {l : Launch} (hlf : l.stackTraces = false) (D : va_G) (cy : Nat → ClassId) (B : Nat) {μ : St} {n : Nat} {p0 : Int} (hn : n ≤ 100) (hs : μ 22 1 = n) (h0 : 0 ≤ p0) (h6 : p0 < 6) : PC l D cy B yX2_greatestCount wsX2_greatestCount (r0 1) [.ref (B + 22), iN p0] μ (ret1 (gmax (fun i => μ (24 + i) p0) n) μ) noX := by
  refine PC.pre (fun hR => ?_)
  refine q_start (cc := cX2_greatestCount) (maxL := 4) (ret := (some .int)) hlf (by decide +kernel) rfl (by simp [Value.category]) (Nat.le_of_ble_eq_true rfl) ?_
  intro p e s m args below meth c C hret hno
  show PW p l e (r0 1) s m args below meth c D cy B 4 0 0 _ 0 [some (.ref (B + 22)), some (iN p0), none, none] [] μ
  have L : ∀ i : Nat, i ≤ n → PW p l e (r0 1) s m args below meth c D cy B 4 0 0 (vx_MQ below (Qp D cy B (ret1 (gmax (fun i => μ (24 + i) p0) n) μ)) (Xp D cy B noX) args s (r0 1).cells (r0 1).slots (fun q => B ≤ q)) 4 [some (.ref (B + 22)), some (iN p0), some (iN (gmax (fun i => μ (24 + i) p0) i)), some (iN i)] [] μ := by
    refine up_to n _ (fun i hi ih => ?_)
    have hg : InR (gmax (fun i => μ (24 + i) p0) i) := gmax_r (fun j => hR _ _) i
    refine q_iload_n (pc := 4) C dX2_greatestCount_4 rfl rfl ?_
    refine q_aload_n (pc := 5) C dX2_greatestCount_5 rfl rfl ?_
    refine q_getI (pc := 6) (ci := 2) (k := 1) (ki := 1) C rfl rfl fiX2_greatestCount_X2 (by decide) k22 (by decide) rfl (by decide) flX2_greatestCount_47 rfl rfl dX2_greatestCount_6 ?_
    refine q_icmp_ge (pc := 9) (tgt := 31) C (by first | exact hR _ _ | exact hRo _ _ | assumption | exact ⟨by omega, by omega⟩) (by first | exact hR _ _ | exact hRo _ _ | assumption | exact ⟨by omega, by omega⟩) dX2_greatestCount_9 (by decide) (fun hc => ?_) (fun hc => ?_)
    · have e : i = n := by omega
      subst e
      refine q_iload_n (pc := 31) C dX2_greatestCount_31 rfl rfl ?_
      exact q_iret (pc := 32) C hret ⟨rfl, rfl⟩ (by decide) (by decide) dX2_greatestCount_32
    · refine q_iload_n (pc := 12) C dX2_greatestCount_12 rfl rfl ?_
      refine q_aload_n (pc := 13) C dX2_greatestCount_13 rfl rfl ?_
      refine q_getR (pc := 14) (ci := 2) (k := 4) (r := 23) C rfl fiX2_greatestCount_X2 (by decide) k22 (by decide) rfl (by decide) flX2_greatestCount_11 rfl rfl dX2_greatestCount_14 ?_
      refine q_iload_n (pc := 17) C dX2_greatestCount_17 rfl rfl ?_
      first | refine q_aaloadN (pc := 18) C k23 n23 (by decide) (by decide) (by omega) rfl dX2_greatestCount_18 ?_ | refine q_aaload (pc := 18) C k23 n23 (by decide) (by decide) (by omega) (by omega) rfl dX2_greatestCount_18 ?_
      refine q_iload_n (pc := 19) C dX2_greatestCount_19 rfl rfl ?_
      refine q_iaload (pc := 20) C (k_r23 (by omega)) (n_r23 (by omega)) (by decide) (l_r23 (by omega)) (by omega) (by omega) dX2_greatestCount_20 ?_
      refine q_mmax (pc := 21) C (by first | exact hR _ _ | exact hRo _ _ | assumption | exact ⟨by omega, by omega⟩) (by first | exact hR _ _ | exact hRo _ _ | assumption | exact ⟨by omega, by omega⟩) (by decide +kernel) (by decide +kernel) (by decide +kernel) (by decide +kernel) (Nat.le_of_ble_eq_true rfl) (Nat.le_of_ble_eq_true rfl) (by decide) (by decide) dX2_greatestCount_21 ?_
      refine q_istore_n (pc := 24) (lv2 := [_, _, _, _]) C dX2_greatestCount_24 rfl (by decide) rfl ?_
      refine q_iinc (pc := 25) (lv2 := [_, _, _, _]) C dX2_greatestCount_25 (by decide) rfl rfl ?_
      refine q_goto (pc := 28) (tgt := 4) C dX2_greatestCount_28 (by decide) ?_
      exact ih (by omega)
  refine q_iconst (pc := 0) C dX2_greatestCount_0 ?_
  refine q_istore_n (pc := 1) (lv2 := [_, _, _, _]) C dX2_greatestCount_1 rfl (by decide) rfl ?_
  refine q_iconst (pc := 2) C dX2_greatestCount_2 ?_
  refine q_istore_n (pc := 3) (lv2 := [_, _, _, _]) C dX2_greatestCount_3 rfl (by decide) rfl ?_
  exact L 0 (by omega)
set_option maxHeartbeats 4000000 in
set_option maxRecDepth 100000 in
theorem c_covering {l : Launch} (hlf : l.stackTraces = false) (D : va_G) (cy : Nat → ClassId) (B : Nat) {μ : St} {n a : Nat} (hn : n ≤ 100) (hs : μ 22 1 = n) (ka : kd a = 5) (na : ln a = 6) (la : a < 233) : PC l D cy B yX2_hasNodeCovering wsX2_hasNodeCovering (r0 1) [.ref (B + 22), .ref (B + a)] μ (ret1 (bI (∃ i : Nat, i < n ∧ ∀ q : Nat, q < 6 → μ a q ≤ μ (24 + i) q)) μ) noX := by
  refine PC.pre (fun hR => ?_)
  refine q_start (cc := cX2_hasNodeCovering) (maxL := 3) (ret := (some .boolean)) hlf (by decide +kernel) rfl (by simp [Value.category]) (Nat.le_of_ble_eq_true rfl) ?_
  intro p e s m args below meth c C hret hno
  show PW p l e (r0 1) s m args below meth c D cy B 3 0 0 _ 0 [some (.ref (B + 22)), some (.ref (B + a)), none] [] μ
  have L : ∀ i : Nat, i ≤ n → (∀ j : Nat, j < i → ¬ ∀ q : Nat, q < 6 → μ a q ≤ μ (24 + j) q) → PW p l e (r0 1) s m args below meth c D cy B 3 0 0 (vx_MQ below (Qp D cy B (ret1 (bI (∃ i : Nat, i < n ∧ ∀ q : Nat, q < 6 → μ a q ≤ μ (24 + i) q)) μ)) (Xp D cy B noX) args s (r0 1).cells (r0 1).slots (fun q => B ≤ q)) 2 [some (.ref (B + 22)), some (.ref (B + a)), some (iN i)] [] μ := by
    refine up_to n _ (fun i hi ih hI => ?_)
    refine q_iload_n (pc := 2) C dX2_hasNodeCovering_2 rfl rfl ?_
    refine q_aload_n (pc := 3) C dX2_hasNodeCovering_3 rfl rfl ?_
    refine q_getI (pc := 4) (ci := 2) (k := 1) (ki := 1) C rfl rfl fiX2_hasNodeCovering_X2 (by decide) k22 (by decide) rfl (by decide) flX2_hasNodeCovering_47 rfl rfl dX2_hasNodeCovering_4 ?_
    refine q_icmp_ge (pc := 7) (tgt := 31) C (by first | exact hR _ _ | exact hRo _ _ | assumption | exact ⟨by omega, by omega⟩) (by first | exact hR _ _ | exact hRo _ _ | assumption | exact ⟨by omega, by omega⟩) dX2_hasNodeCovering_7 (by decide) (fun hc => ?_) (fun hc => ?_)
    · refine q_iconst (pc := 31) C dX2_hasNodeCovering_31 ?_
      exact q_zret (pc := 32) C hret (by first | exact Or.inl rfl | exact Or.inr rfl | assumption) ⟨by rw [bI_f (fun z => by obtain ⟨j, hj, z⟩ := z; exact hI j (by omega) z)], rfl⟩ (by decide) (by decide) dX2_hasNodeCovering_32
    · refine q_aload_n (pc := 10) C dX2_hasNodeCovering_10 rfl rfl ?_
      refine q_getR (pc := 11) (ci := 2) (k := 4) (r := 23) C rfl fiX2_hasNodeCovering_X2 (by decide) k22 (by decide) rfl (by decide) flX2_hasNodeCovering_11 rfl rfl dX2_hasNodeCovering_11 ?_
      refine q_iload_n (pc := 14) C dX2_hasNodeCovering_14 rfl rfl ?_
      first | refine q_aaloadN (pc := 15) C k23 n23 (by decide) (by decide) (by omega) rfl dX2_hasNodeCovering_15 ?_ | refine q_aaload (pc := 15) C k23 n23 (by decide) (by decide) (by omega) (by omega) rfl dX2_hasNodeCovering_15 ?_
      refine q_aload_n (pc := 16) C dX2_hasNodeCovering_16 rfl rfl ?_
      refine q_callSN (pc := 17) (As := [_, _]) (rest := []) C (c_covers hlf D cy B (a := 24 + i) (b := a) (k_r23 (by omega)) (n_r23 (by omega)) (l_r23 (by omega)) ka na la) ⟨va_cnB (host := "CoverTrees") (index := 76) 2 C.2.2.2.2.1 gX2_hasNodeCovering_X3_covers_n76 rfl rfl rfl (C.2.2.2.2.2.1.2.2.1 (RX2, 76, yX3_covers) (by decide +kernel)) (C.2.2.2.2.1 _ (by decide +kernel)) (by decide +kernel) ⟨Nat.le_of_ble_eq_true rfl, Nat.le_of_ble_eq_true rfl⟩, C.2.2.2.2.1 _ (by decide +kernel), trivial⟩ rfl rfl (by first | decide | simp [Value.category]) dX2_hasNodeCovering_17 (by decide) (fun _ _ h => h.elim) (fun v μ9 hv => ?_)
      have e8 := hv.1
      have e9 := hv.2.symm
      clear hv
      subst e8
      subst e9
      dsimp only [Option.toList, List.cons_append, List.nil_append]
      have hz := bI_01 (∀ q : Nat, q < 6 → μ a q ≤ μ (24 + i) q)
      refine q_if_eq (pc := 20) (tgt := 25) C (by first | exact hR _ _ | exact hRo _ _ | assumption | exact ⟨by omega, by omega⟩) dX2_hasNodeCovering_20 (by decide) (fun hd => ?_) (fun hd => ?_)
      · refine q_iinc (pc := 25) (lv2 := [_, _, _]) C dX2_hasNodeCovering_25 (by decide) rfl rfl ?_
        refine q_goto (pc := 28) (tgt := 2) C dX2_hasNodeCovering_28 (by decide) ?_
        refine ih (by omega) (fun j hj => ?_)
        by_cases e : j = i
        · rw [e]; exact bI_0.mp hd
        · exact hI j (by omega)
      · refine q_iconst (pc := 23) C dX2_hasNodeCovering_23 ?_
        exact q_zret (pc := 24) C hret (by first | exact Or.inl rfl | exact Or.inr rfl | assumption) ⟨by rw [bI_t ⟨i, by omega, bI_1.mp (by omega)⟩], rfl⟩ (by decide) (by decide) dX2_hasNodeCovering_24
  refine q_iconst (pc := 0) C dX2_hasNodeCovering_0 ?_
  refine q_istore_n (pc := 1) (lv2 := [_, _, _]) C dX2_hasNodeCovering_1 rfl (by decide) rfl ?_
  exact L 0 (by omega) (fun j hj => absurd hj (by omega))
set_option maxHeartbeats 4000000 in
set_option maxRecDepth 100000 in
theorem c_enabling {l : Launch} (hlf : l.stackTraces = false) (D : va_G) (cy : Nat → ClassId) (B : Nat) {μ : St} {n t : Nat} (hn : n ≤ 100) (hs : μ 22 1 = n) (ht : t < 8) : PC l D cy B yX2_hasNodeEnabling wsX2_hasNodeEnabling (r0 2) [.ref (B + 22), iN t] μ (ret1 (bI (∃ i : Nat, i < n ∧ ∀ q : Nat, q < 6 → μ (4 + t) q ≤ μ (24 + i) q)) μ) noX := by
  refine PC.pre (fun hR => ?_)
  refine q_start (cc := cX2_hasNodeEnabling) (maxL := 2) (ret := (some .boolean)) hlf (by decide +kernel) rfl (by simp [Value.category]) (Nat.le_of_ble_eq_true rfl) ?_
  intro p e s m args below meth c C hret hno
  show PW p l e (r0 2) s m args below meth c D cy B 2 0 0 _ 0 [some (.ref (B + 22)), some (iN t)] [] μ
  refine q_aload_n (pc := 0) C dX2_hasNodeEnabling_0 rfl rfl ?_
  refine q_aload_n (pc := 1) C dX2_hasNodeEnabling_1 rfl rfl ?_
  refine q_getR (pc := 2) (ci := 2) (k := 0) (r := 1) C rfl fiX2_hasNodeEnabling_X2 (by decide) k22 (by decide) rfl (by decide) flX2_hasNodeEnabling_30 rfl rfl dX2_hasNodeEnabling_2 ?_
  refine q_getRN (pc := 5) (ci := 1) (k := 3) (r := 3) C rfl fiX2_hasNodeEnabling_X1 (by decide) k1 (by decide) rfl (by decide) (by decide +kernel) rfl rfl dX2_hasNodeEnabling_5 ?_
  refine q_iload_n (pc := 8) C dX2_hasNodeEnabling_8 rfl rfl ?_
  first | refine q_aaloadN (pc := 9) C k3 n3 (by decide) (by decide) (by omega) rfl dX2_hasNodeEnabling_9 ?_ | refine q_aaload (pc := 9) C k3 n3 (by decide) (by decide) (by omega) (by omega) rfl dX2_hasNodeEnabling_9 ?_
  refine q_callV (pc := 10) (As := [_]) (rest := []) C (c_covering hlf D cy B (n := n) (a := 4 + t) hn hs (k_r3 ht) (n_r3 ht) (l_r3 ht)) (cwV 1 C.2.2.2.2.1 gX2_hasNodeEnabling_X2_hasNodeCovering rfl rfl rfl (by decide +kernel) ⟨Nat.le_of_ble_eq_true rfl, Nat.le_of_ble_eq_true rfl⟩) (ci := 2) rfl k22 (by decide) (by decide) rfl rfl (by first | decide | simp [Value.category]) dX2_hasNodeEnabling_10 (by decide) (fun _ _ h => h.elim) (fun v μ9 hv => ?_)
  have e8 := hv.1
  have e9 := hv.2.symm
  clear hv
  subst e8
  subst e9
  dsimp only [Option.toList, List.cons_append, List.nil_append]
  have hz := bI_01 (∃ i : Nat, i < n ∧ ∀ q : Nat, q < 6 → μ (4 + t) q ≤ μ (24 + i) q)
  exact q_zret (pc := 13) C hret (by first | exact Or.inl rfl | exact Or.inr rfl | assumption) ⟨rfl, rfl⟩ (by decide) (by decide) dX2_hasNodeEnabling_13
def upN (μ : St) : Nat → Nat → Nat
  | 0, u => u
  | k + 1, u => upN μ k (μ 124 u).toNat
theorem upN_succ (μ : St) (k u : Nat) : upN μ (k + 1) u = upN μ k (μ 124 u).toNat := rfl
set_option maxHeartbeats 4000000 in
set_option maxRecDepth 100000 in
theorem c_step {l : Launch} (hlf : l.stackTraces = false) (D : va_G) (cy : Nat → ClassId) (B : Nat) {μ : St} {n f d k : Nat} (hn : n ≤ 100) (hf : f < n) (hfe : μ 22 2 = f) (hch : chP μ n) (hd : μ 126 f = d) (hk : k < 2147483648) : PC l D cy B yX2_stepToFirstEndless wsX2_stepToFirstEndless (r0 0) [.ref (B + 22), iN k] μ (ret1 (if d ≤ k then -1 else μ 125 (upN μ (d - (k + 1)) f)) μ) noX := by
  refine PC.pre (fun hR => ?_)
  refine q_start (cc := cX2_stepToFirstEndless) (maxL := 4) (ret := (some .int)) hlf (by decide +kernel) rfl (by simp [Value.category]) (Nat.le_of_ble_eq_true rfl) ?_
  intro p e s m args below meth c C hret hno
  show PW p l e (r0 0) s m args below meth c D cy B 4 0 0 _ 0 [some (.ref (B + 22)), some (iN k), none, none] [] μ
  obtain ⟨d9, hd1, hd2⟩ := chP_le hch f hf
  have hd100 : d < 100 := by omega
  have L : ∀ (j u : Nat), u < n → μ 126 u = ((k + 1 + j : Nat) : Int) → upN μ j u = upN μ (d - (k + 1)) f → k + 1 + j ≤ 100 → ¬ d ≤ k → PW p l e (r0 0) s m args below meth c D cy B 4 0 0 (vx_MQ below (Qp D cy B (ret1 (if d ≤ k then -1 else μ 125 (upN μ (d - (k + 1)) f)) μ)) (Xp D cy B noX) args s (r0 0).cells (r0 0).slots (fun q => B ≤ q)) 24 [some (.ref (B + 22)), some (iN k), some (iN u), some (iN ((k + 1 + j : Nat) : Int))] [] μ := by
    intro j
    induction j with
    | zero =>
      intro u hu hdu hup hkj hdk
      refine q_iload_n (pc := 24) C dX2_stepToFirstEndless_24 rfl rfl ?_
      refine q_iload_n (pc := 25) C dX2_stepToFirstEndless_25 rfl rfl ?_
      refine q_iconst (pc := 26) C dX2_stepToFirstEndless_26 ?_
      refine q_iadd (pc := 27) C dX2_stepToFirstEndless_27 ?_
      refine q_icmp_le (pc := 28) (tgt := 44) C (by first | exact hR _ _ | exact hRo _ _ | assumption | exact ⟨by omega, by omega⟩) (by first | exact hR _ _ | exact hRo _ _ | assumption | exact ⟨by omega, by omega⟩) dX2_stepToFirstEndless_28 (by decide) (fun hc => ?_) (fun hc => ?_)
      · refine q_aload_n (pc := 44) C dX2_stepToFirstEndless_44 rfl rfl ?_
        refine q_getR (pc := 45) (ci := 2) (k := 6) (r := 125) C rfl fiX2_stepToFirstEndless_X2 (by decide) k22 (by decide) rfl (by decide) flX2_stepToFirstEndless_20 rfl rfl dX2_stepToFirstEndless_45 ?_
        refine q_iload_n (pc := 48) C dX2_stepToFirstEndless_48 rfl rfl ?_
        refine q_iaload (pc := 49) C k125 n125 (by decide) (by decide) (by omega) (by omega) dX2_stepToFirstEndless_49 ?_
        exact q_iret (pc := 50) C hret ⟨by rw [if_neg hdk, ← hup]; rfl, rfl⟩ (by decide) (by decide) dX2_stepToFirstEndless_50
      · exact absurd hc (by omega)
    | succ j ih =>
      intro u hu hdu hup hkj hdk
      rcases hch u hu with ⟨-, z⟩ | ⟨i, e1, hi, z1, z2, z3⟩
      · rw [z] at hdu; omega
      refine q_iload_n (pc := 24) C dX2_stepToFirstEndless_24 rfl rfl ?_
      refine q_iload_n (pc := 25) C dX2_stepToFirstEndless_25 rfl rfl ?_
      refine q_iconst (pc := 26) C dX2_stepToFirstEndless_26 ?_
      refine q_iadd (pc := 27) C dX2_stepToFirstEndless_27 ?_
      refine q_icmp_le (pc := 28) (tgt := 44) C (by first | exact hR _ _ | exact hRo _ _ | assumption | exact ⟨by omega, by omega⟩) (by first | exact hR _ _ | exact hRo _ _ | assumption | exact ⟨by omega, by omega⟩) dX2_stepToFirstEndless_28 (by decide) (fun hc => ?_) (fun hc => ?_)
      · exact absurd hc (by omega)
      · refine q_aload_n (pc := 31) C dX2_stepToFirstEndless_31 rfl rfl ?_
        refine q_getR (pc := 32) (ci := 2) (k := 5) (r := 124) C rfl fiX2_stepToFirstEndless_X2 (by decide) k22 (by decide) rfl (by decide) flX2_stepToFirstEndless_16 rfl rfl dX2_stepToFirstEndless_32 ?_
        refine q_iload_n (pc := 35) C dX2_stepToFirstEndless_35 rfl rfl ?_
        refine q_iaload (pc := 36) C k124 n124 (by decide) (by decide) (by omega) (by omega) dX2_stepToFirstEndless_36 ?_
        rw [z1]
        refine q_istore_n (pc := 37) (lv2 := [_, _, _, _]) C dX2_stepToFirstEndless_37 rfl (by decide) rfl ?_
        refine q_iinc (pc := 38) (lv2 := [_, _, _, _]) C dX2_stepToFirstEndless_38 (by decide) rfl rfl ?_
        refine q_goto (pc := 41) (tgt := 24) C dX2_stepToFirstEndless_41 (by decide) ?_
        rw [show ((k + 1 + (j + 1) : Nat) : Int) + -1 = ((k + 1 + j : Nat) : Int) by omega]
        refine ih i (by omega) (by rw [z2]; rw [z3] at hdu; omega) ?_ (by omega) hdk
        rw [← hup, upN_succ, z1]
        rfl
  refine q_aload_n (pc := 0) C dX2_stepToFirstEndless_0 rfl rfl ?_
  refine q_getI (pc := 1) (ci := 2) (k := 2) (ki := 2) C rfl rfl fiX2_stepToFirstEndless_X2 (by decide) k22 (by decide) rfl (by decide) flX2_stepToFirstEndless_61 rfl rfl dX2_stepToFirstEndless_1 ?_
  rw [hfe]
  refine q_istore_n (pc := 4) (lv2 := [_, _, _, _]) C dX2_stepToFirstEndless_4 rfl (by decide) rfl ?_
  refine q_iload_n (pc := 5) C dX2_stepToFirstEndless_5 rfl rfl ?_
  refine q_aload_n (pc := 6) C dX2_stepToFirstEndless_6 rfl rfl ?_
  refine q_getR (pc := 7) (ci := 2) (k := 7) (r := 126) C rfl fiX2_stepToFirstEndless_X2 (by decide) k22 (by decide) rfl (by decide) flX2_stepToFirstEndless_23 rfl rfl dX2_stepToFirstEndless_7 ?_
  refine q_iload_n (pc := 10) C dX2_stepToFirstEndless_10 rfl rfl ?_
  refine q_iaload (pc := 11) C k126 n126 (by decide) (by decide) (by omega) (by omega) dX2_stepToFirstEndless_11 ?_
  rw [hd]
  refine q_icmp_lt (pc := 12) (tgt := 17) C (by first | exact hR _ _ | exact hRo _ _ | assumption | exact ⟨by omega, by omega⟩) (by first | exact hR _ _ | exact hRo _ _ | assumption | exact ⟨by omega, by omega⟩) dX2_stepToFirstEndless_12 (by decide) (fun hc => ?_) (fun hc => ?_)
  · have hdk : k + 1 + (d - (k + 1)) = d := by omega
    refine q_aload_n (pc := 17) C dX2_stepToFirstEndless_17 rfl rfl ?_
    refine q_getR (pc := 18) (ci := 2) (k := 7) (r := 126) C rfl fiX2_stepToFirstEndless_X2 (by decide) k22 (by decide) rfl (by decide) flX2_stepToFirstEndless_23 rfl rfl dX2_stepToFirstEndless_18 ?_
    refine q_iload_n (pc := 21) C dX2_stepToFirstEndless_21 rfl rfl ?_
    refine q_iaload (pc := 22) C k126 n126 (by decide) (by decide) (by omega) (by omega) dX2_stepToFirstEndless_22 ?_
    rw [hd]
    refine q_istore_n (pc := 23) (lv2 := [_, _, _, _]) C dX2_stepToFirstEndless_23 rfl (by decide) rfl ?_
    rw [show (d : Int) = ((k + 1 + (d - (k + 1)) : Nat) : Int) by omega]
    exact L (d - (k + 1)) f hf (by rw [hd]; omega) rfl (by omega) (by omega)
  · refine q_iconst (pc := 15) C dX2_stepToFirstEndless_15 ?_
    exact q_iret (pc := 16) C hret ⟨by rw [if_pos (by omega)], rfl⟩ (by decide) (by decide) dX2_stepToFirstEndless_16

