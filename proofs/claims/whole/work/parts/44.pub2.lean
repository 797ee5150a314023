theorem fiX3_distance_X0 : ∀ w ∈ u_ws RX0 TX0 9, w ∈ wsX3_distance := by decide +kernel
theorem fiX3_distance_X3 : ∀ w ∈ u_ws RX3 TX3 4, w ∈ wsX3_distance := by decide +kernel
theorem fiX3_found_X0 : ∀ w ∈ u_ws RX0 TX0 9, w ∈ wsX3_found := by decide +kernel
theorem fiX3_found_X3 : ∀ w ∈ u_ws RX3 TX3 4, w ∈ wsX3_found := by decide +kernel
theorem fiX3_graph_X0 : ∀ w ∈ u_ws RX0 TX0 9, w ∈ wsX3_graph := by decide +kernel
theorem fiX3_graph_X3 : ∀ w ∈ u_ws RX3 TX3 4, w ∈ wsX3_graph := by decide +kernel
theorem fiX3_live_X3 : ∀ w ∈ u_ws RX3 TX3 4, w ∈ wsX3_live := by decide +kernel
theorem fiX3_reached_X3 : ∀ w ∈ u_ws RX3 TX3 4, w ∈ wsX3_reached := by decide +kernel
theorem fiX3_stops_X3 : ∀ w ∈ u_ws RX3 TX3 4, w ∈ wsX3_stops := by decide +kernel
theorem flX3_distance_32 : Cond.fieldLink RX3 32 RX3 (TX3 3).2.1 (TX3 3).2.2.1 ∈ wsX3_distance := by decide +kernel
theorem flX3_found_32 : Cond.fieldLink RX3 32 RX3 (TX3 3).2.1 (TX3 3).2.2.1 ∈ wsX3_found := by decide +kernel
theorem flX3_graph_25 : Cond.fieldLink RX3 25 RX3 (TX3 2).2.1 (TX3 2).2.2.1 ∈ wsX3_graph := by decide +kernel
theorem flX3_graph_32 : Cond.fieldLink RX3 32 RX3 (TX3 3).2.1 (TX3 3).2.2.1 ∈ wsX3_graph := by decide +kernel
theorem flX3_live_32 : Cond.fieldLink RX3 32 RX3 (TX3 3).2.1 (TX3 3).2.2.1 ∈ wsX3_live := by decide +kernel
theorem flX3_reached_16 : Cond.fieldLink RX3 16 RX3 (TX3 1).2.1 (TX3 1).2.2.1 ∈ wsX3_reached := by decide +kernel
theorem flX3_reached_32 : Cond.fieldLink RX3 32 RX3 (TX3 3).2.1 (TX3 3).2.2.1 ∈ wsX3_reached := by decide +kernel
theorem flX3_stops_32 : Cond.fieldLink RX3 32 RX3 (TX3 3).2.1 (TX3 3).2.2.1 ∈ wsX3_stops := by decide +kernel
theorem hatX3_X3_graph_48 : ∀ w ∈ (vx_atS RX3 48 "java/lang/IllegalStateException" ["java/lang/RuntimeException", "java/lang/Exception"]).filter goodWord, w ∈ wsX3_graph := by decide +kernel
theorem hatX3_X3_graph_89 : ∀ w ∈ (vx_atS RX3 89 "java/lang/UnsupportedOperationException" ["java/lang/RuntimeException", "java/lang/Exception"]).filter goodWord, w ∈ wsX3_graph := by decide +kernel
set_option maxHeartbeats 4000000 in
set_option maxRecDepth 100000 in
theorem c_graph {l : Launch} (hlf : l.stackTraces = false) (D : va_G) (cy : Nat → ClassId) (B : Nat) {μ : St} {P T n : Nat} (hN : NI μ P T) (hs : μ 22 1 = n) : PC l D cy B yX3_graph wsX3_graph ((rk 3 7)) [.ref (B + 0)] μ (qv (fun v μ2 => ¬ n = 0 ∧ μ 22 2 = -2 ∧ ∃ (σ : St) (g : Nat), bldS 40 (b0S μ) 1 0 T = (σ, g, true) ∧ NI σ P T ∧ (∀ x j, ¬ inG x → σ x j = μ x j) ∧ GI σ T g ∧ (∀ k : Nat, k < g → nxP σ g k T) ∧ (∀ x k, x ≠ 214 → μ2 x k = σ x k) ∧ ahS σ g T μ2 ∧ v = g)) (ex2 sIS (fun μ2 => (n = 0 ∨ ¬ μ 22 2 = -2) ∧ μ2 = μ) sUO (fun μ2 => ¬ n = 0 ∧ μ 22 2 = -2 ∧ ∃ (σ : St) (g : Nat), bldS 40 (b0S μ) 1 0 T = (σ, g, false) ∧ NI σ P T ∧ (∀ x j, ¬ inG x → σ x j = μ x j) ∧ μ2 = updS σ 128 1 0)) := by
  refine PC.pre (fun hR => ?_)
  refine q_start (cc := cX3_graph) (maxL := 1) (ret := (some .int)) hlf (by decide +kernel) rfl (by simp [Value.category]) (Nat.le_of_ble_eq_true rfl) ?_
  intro p e s m args below meth c C hret hno
  show PW p l e ((rk 3 7)) s m args below meth c D cy B 1 0 0 _ 0 [some (.ref (B + 0))] [] μ
  refine q_aload_n (pc := 0) C dX3_graph_0 rfl rfl ?_
  refine q_callV (pc := 1) (As := []) (rest := []) C (c_needTree hlf D cy B) (cwV 0 C.2.2.2.2.1 gX3_graph_X3_needTree rfl rfl rfl (by decide +kernel) ⟨Nat.le_of_ble_eq_true rfl, Nat.le_of_ble_eq_true rfl⟩) (ci := 3) rfl k0 (by decide) (by decide) rfl rfl (by first | decide | simp [Value.category]) dX3_graph_1 (by decide) (fun E μ8 hx => q_out C hno (Or.inl ⟨hx.1, Or.inl (by have := hx.2.1; omega), hx.2.2⟩) (Nat.le_of_ble_eq_true rfl) (Nat.le_of_ble_eq_true rfl)) (fun v σ9 hv => ?_)
  obtain ⟨hv1, hr1, hv2⟩ := hv
  subst hv1
  have hv2 := hv2.symm
  subst hv2
  dsimp only [Option.toList, List.cons_append, List.nil_append]
  refine q_aload_n (pc := 4) C dX3_graph_4 rfl rfl ?_
  refine q_getR (pc := 5) (ci := 3) (k := 2) (r := 22) C rfl fiX3_graph_X3 (by decide) k0 (by decide) rfl (by decide) flX3_graph_25 rfl rfl dX3_graph_5 ?_
  refine q_callV (pc := 8) (As := []) (rest := []) C (c_hasEndless hlf D cy B) (cwV 0 C.2.2.2.2.1 gX3_graph_X2_hasEndless rfl rfl rfl (by decide +kernel) ⟨Nat.le_of_ble_eq_true rfl, Nat.le_of_ble_eq_true rfl⟩) (ci := 2) rfl k22 (by decide) (by decide) rfl rfl (by first | decide | simp [Value.category]) dX3_graph_8 (by decide) (fun _ _ h => h.elim) (fun v μ9 hv => ?_)
  have e8 := hv.1
  have e9 := hv.2.symm
  clear hv
  subst e8
  subst e9
  dsimp only [Option.toList, List.cons_append, List.nil_append]
  have hz := bI_01 (¬ μ 22 2 = -2)
  refine q_if_eq (pc := 11) (tgt := 24) C (by first | exact hR _ _ | exact hRo _ _ | assumption | exact ⟨by omega, by omega⟩) dX3_graph_11 (by decide) (fun hd => ?_) (fun hd => ?_)
  · have hne := bI_0.mp hd
    have hne2 : μ 22 2 = -2 := by omega
    refine q_aload_n (pc := 24) C dX3_graph_24 rfl rfl ?_
    refine q_getR (pc := 25) (ci := 3) (k := 3) (r := 128) C rfl fiX3_graph_X3 (by decide) k0 (by decide) rfl (by decide) flX3_graph_32 rfl rfl dX3_graph_25 ?_
    refine q_callV (pc := 28) (As := []) (rest := []) C (c_build hlf D cy B (P := P) (T := T) hN) (cwV 0 C.2.2.2.2.1 gX3_graph_X0_build rfl rfl rfl (by decide +kernel) ⟨Nat.le_of_ble_eq_true rfl, Nat.le_of_ble_eq_true rfl⟩) (ci := 0) rfl k128 (by decide) (by decide) rfl rfl (by first | decide | simp [Value.category]) dX3_graph_28 (by decide) (fun _ _ h => h.elim) (fun v σ9 hv => ?_)
    obtain ⟨σ, g, ok, hb, hN3, hfr, hv⟩ := hv
    rcases hv with ⟨hok, hv1, hG, hnx, hfr2, hah⟩ | ⟨hok, hv1, hv2⟩
    · subst hv1
      subst hok
      dsimp only [Option.toList, List.cons_append, List.nil_append]
      refine q_if_ne (pc := 31) (tgt := 44) C (by first | exact hR _ _ | exact hRo _ _ | assumption | exact ⟨by omega, by omega⟩) dX3_graph_31 (by decide) (fun hq => ?_) (fun hq => ?_)
      · have h1 := hG.2.1
        have h2 : σ9 128 1 = g := by rw [hfr2 _ _ (by decide)]; exact hG.2.2.1
        refine q_aload_n (pc := 44) C dX3_graph_44 rfl rfl ?_
        refine q_getR (pc := 45) (ci := 3) (k := 3) (r := 128) C rfl fiX3_graph_X3 (by decide) k0 (by decide) rfl (by decide) flX3_graph_32 rfl rfl dX3_graph_45 ?_
        refine q_getIN (pc := 48) (ci := 0) (k := 1) (ki := 1) C rfl rfl fiX3_graph_X0 (by decide) k128 (by decide) rfl (by decide) (by decide +kernel) rfl rfl dX3_graph_48 ?_
        exact q_iret (pc := 51) C hret ⟨g, ⟨by omega, by omega⟩, by rw [h2], by omega, hne2, σ, g, hb, hN3, hfr, hG, hnx, hfr2, hah, rfl⟩ (by decide) (by decide) dX3_graph_51
      · exact absurd hq (by decide)
    · subst hok
      subst hv1
      have hv2 := hv2.symm
      subst hv2
      dsimp only [Option.toList, List.cons_append, List.nil_append]
      refine q_if_ne (pc := 31) (tgt := 44) C (by first | exact hR _ _ | exact hRo _ _ | assumption | exact ⟨by omega, by omega⟩) dX3_graph_31 (by decide) (fun hq => ?_) (fun hq => ?_)
      · exact absurd rfl hq
      · exact q_throw (pc := 34) (ik := 85) (is := 146) (ic := 89) (cls := "java/lang/UnsupportedOperationException") (text := "the graph has too many states") (names := ["java/lang/RuntimeException", "java/lang/Exception"]) C (by decide +kernel) (by decide +kernel) (by decide +kernel) (by decide +kernel) (by decide +kernel) hatX3_X3_graph_89 (by decide +kernel) (by decide +kernel) dX3_graph_34 dX3_graph_37 dX3_graph_38 dX3_graph_40 dX3_graph_43 hno (Nat.le_of_ble_eq_true rfl) (Nat.le_of_ble_eq_true rfl) (by decide) (by decide) (Or.inr ⟨rfl, by omega, hne2, σ, g, hb, hN3, hfr, rfl⟩) (by decide) (by decide)
  · have hne := bI_1.mp (show bI (¬ μ 22 2 = -2) = 1 by omega)
    exact q_throw (pc := 14) (ik := 44) (is := 141) (ic := 48) (cls := "java/lang/IllegalStateException") (text := "a place is endless") (names := ["java/lang/RuntimeException", "java/lang/Exception"]) C (by decide +kernel) (by decide +kernel) (by decide +kernel) (by decide +kernel) (by decide +kernel) hatX3_X3_graph_48 (by decide +kernel) (by decide +kernel) dX3_graph_14 dX3_graph_17 dX3_graph_18 dX3_graph_20 dX3_graph_23 hno (Nat.le_of_ble_eq_true rfl) (Nat.le_of_ble_eq_true rfl) (by decide) (by decide) (Or.inl ⟨rfl, Or.inr hne, rfl⟩) (by decide) (by decide)
set_option maxHeartbeats 4000000 in
set_option maxRecDepth 100000 in
theorem c_reached {l : Launch} (hlf : l.stackTraces = false) (D : va_G) (cy : Nat → ClassId) (B : Nat) {μ : St} {g : Nat} (hs : μ 128 1 = g) (hg : g ≤ 40) : PC l D cy B yX3_reached wsX3_reached ((rk 3 7)) [.ref (B + 0)] μ (qv (fun v μ2 => ¬ g = 0 ∧ v = fndS μ g 21 ∧ μ2 = μ)) (ex1 sIS (fun μ2 => g = 0 ∧ μ2 = μ)) := by
  refine PC.pre (fun hR => ?_)
  refine q_start (cc := cX3_reached) (maxL := 1) (ret := (some .int)) hlf (by decide +kernel) rfl (by simp [Value.category]) (Nat.le_of_ble_eq_true rfl) ?_
  intro p e s m args below meth c C hret hno
  show PW p l e ((rk 3 7)) s m args below meth c D cy B 1 0 0 _ 0 [some (.ref (B + 0))] [] μ
  refine q_aload_n (pc := 0) C dX3_reached_0 rfl rfl ?_
  refine q_callV (pc := 1) (As := []) (rest := []) C (c_needGraph hlf D cy B) (cwV 0 C.2.2.2.2.1 gX3_reached_X3_needGraph rfl rfl rfl (by decide +kernel) ⟨Nat.le_of_ble_eq_true rfl, Nat.le_of_ble_eq_true rfl⟩) (ci := 3) rfl k0 (by decide) (by decide) rfl rfl (by first | decide | simp [Value.category]) dX3_reached_1 (by decide) (fun E μ8 hx => q_out C hno (⟨hx.1, by have := hx.2.1; omega, hx.2.2⟩) (Nat.le_of_ble_eq_true rfl) (Nat.le_of_ble_eq_true rfl)) (fun v σ9 hv => ?_)
  obtain ⟨hv1, hr1, hv2⟩ := hv
  subst hv1
  have hv2 := hv2.symm
  subst hv2
  dsimp only [Option.toList, List.cons_append, List.nil_append]
  refine q_aload_n (pc := 4) C dX3_reached_4 rfl rfl ?_
  refine q_getR (pc := 5) (ci := 3) (k := 3) (r := 128) C rfl fiX3_reached_X3 (by decide) k0 (by decide) rfl (by decide) flX3_reached_32 rfl rfl dX3_reached_5 ?_
  refine q_aload_n (pc := 8) C dX3_reached_8 rfl rfl ?_
  refine q_getR (pc := 9) (ci := 3) (k := 1) (r := 21) C rfl fiX3_reached_X3 (by decide) k0 (by decide) rfl (by decide) flX3_reached_16 rfl rfl dX3_reached_9 ?_
  refine q_callV (pc := 12) (As := [_]) (rest := []) C (c_stateOf hlf D cy B (g := g) (a := 21) hg hs k21 n21 (by decide)) (cwV 1 C.2.2.2.2.1 gX3_reached_X0_stateOf rfl rfl rfl (by decide +kernel) ⟨Nat.le_of_ble_eq_true rfl, Nat.le_of_ble_eq_true rfl⟩) (ci := 0) rfl k128 (by decide) (by decide) rfl rfl (by first | decide | simp [Value.category]) dX3_reached_12 (by decide) (fun _ _ h => h.elim) (fun v μ9 hv => ?_)
  have e8 := hv.1
  have e9 := hv.2.symm
  clear hv
  subst e8
  subst e9
  dsimp only [Option.toList, List.cons_append, List.nil_append]
  have hfr2 : InR (fndS μ g 21) := by
    rcases fnd_spec (fun i => ∀ q : Nat, q < 6 → μ (130 + i) q = μ 21 q) g 0 with ⟨z, -⟩ | ⟨j, -, z2, z3, -⟩
    · exact ⟨by unfold fndS; omega, by unfold fndS; omega⟩
    · exact ⟨by unfold fndS; omega, by unfold fndS; omega⟩
  exact q_iret (pc := 15) C hret ⟨_, hfr2, rfl, by omega, rfl, rfl⟩ (by decide) (by decide) dX3_reached_15
set_option maxHeartbeats 4000000 in
set_option maxRecDepth 100000 in
theorem c_distance {l : Launch} (hlf : l.stackTraces = false) (D : va_G) (cy : Nat → ClassId) (B : Nat) {μ : St} {g : Nat} {i : Int} (hi : InR i) (hs : μ 128 1 = g) (hg : g ≤ 40) : PC l D cy B yX3_distance wsX3_distance ((rk 3 7)) [.ref (B + 0), iN i] μ (qv (fun v μ2 => ¬ g = 0 ∧ (0 ≤ i ∧ i < g) ∧ v = μ 213 i ∧ μ2 = μ)) (ex2 sIS (fun μ2 => g = 0 ∧ μ2 = μ) sIO (fun μ2 => ¬ g = 0 ∧ ¬ (0 ≤ i ∧ i < g) ∧ μ2 = μ)) := by
  refine PC.pre (fun hR => ?_)
  refine q_start (cc := cX3_distance) (maxL := 2) (ret := (some .int)) hlf (by decide +kernel) rfl (by simp [Value.category]) (Nat.le_of_ble_eq_true rfl) ?_
  intro p e s m args below meth c C hret hno
  show PW p l e ((rk 3 7)) s m args below meth c D cy B 2 0 0 _ 0 [some (.ref (B + 0)), some (iN i)] [] μ
  refine q_aload_n (pc := 0) C dX3_distance_0 rfl rfl ?_
  refine q_callV (pc := 1) (As := []) (rest := []) C (c_needGraph hlf D cy B) (cwV 0 C.2.2.2.2.1 gX3_distance_X3_needGraph rfl rfl rfl (by decide +kernel) ⟨Nat.le_of_ble_eq_true rfl, Nat.le_of_ble_eq_true rfl⟩) (ci := 3) rfl k0 (by decide) (by decide) rfl rfl (by first | decide | simp [Value.category]) dX3_distance_1 (by decide) (fun E μ8 hx => q_out C hno (Or.inl ⟨hx.1, by have := hx.2.1; omega, hx.2.2⟩) (Nat.le_of_ble_eq_true rfl) (Nat.le_of_ble_eq_true rfl)) (fun v σ9 hv => ?_)
  obtain ⟨hv1, hr1, hv2⟩ := hv
  subst hv1
  have hv2 := hv2.symm
  subst hv2
  dsimp only [Option.toList, List.cons_append, List.nil_append]
  refine q_aload_n (pc := 4) C dX3_distance_4 rfl rfl ?_
  refine q_iload_n (pc := 5) C dX3_distance_5 rfl rfl ?_
  refine q_callV (pc := 6) (As := [_]) (rest := []) C (c_needState hlf D cy B (n := i) hi) (cwV 1 C.2.2.2.2.1 gX3_distance_X3_needState rfl rfl rfl (by decide +kernel) ⟨Nat.le_of_ble_eq_true rfl, Nat.le_of_ble_eq_true rfl⟩) (ci := 3) rfl k0 (by decide) (by decide) rfl rfl (by first | decide | simp [Value.category]) dX3_distance_6 (by decide) (fun E μ8 hx => q_out C hno (Or.inr ⟨hx.1, by omega, by rw [hs] at hx; exact hx.2⟩) (Nat.le_of_ble_eq_true rfl) (Nat.le_of_ble_eq_true rfl)) (fun v σ9 hv => ?_)
  obtain ⟨hv1, hr2, hv2⟩ := hv
  rw [hs] at hr2
  subst hv1
  have hv2 := hv2.symm
  subst hv2
  dsimp only [Option.toList, List.cons_append, List.nil_append]
  refine q_aload_n (pc := 9) C dX3_distance_9 rfl rfl ?_
  refine q_getR (pc := 10) (ci := 3) (k := 3) (r := 128) C rfl fiX3_distance_X3 (by decide) k0 (by decide) rfl (by decide) flX3_distance_32 rfl rfl dX3_distance_10 ?_
  refine q_getRN (pc := 13) (ci := 0) (k := 6) (r := 213) C rfl fiX3_distance_X0 (by decide) k128 (by decide) rfl (by decide) (by decide +kernel) rfl rfl dX3_distance_13 ?_
  refine q_iload_n (pc := 16) C dX3_distance_16 rfl rfl ?_
  refine q_iaload (pc := 17) C k213 n213 (by decide) (by decide) (by omega) (by omega) dX3_distance_17 ?_
  exact q_iret (pc := 18) C hret ⟨_, hR _ _, rfl, by omega, hr2, rfl, rfl⟩ (by decide) (by decide) dX3_distance_18
set_option maxHeartbeats 4000000 in
set_option maxRecDepth 100000 in
theorem c_found {l : Launch} (hlf : l.stackTraces = false) (D : va_G) (cy : Nat → ClassId) (B : Nat) {μ : St} {g : Nat} {i z : Int} (hi : InR i) (hz : InR z) (hs : μ 128 1 = g) (hg : g ≤ 40) : PC l D cy B yX3_found wsX3_found ((rk 3 7)) [.ref (B + 0), iN i, iN z] μ (qv (fun v μ2 => ¬ g = 0 ∧ (0 ≤ i ∧ i < g) ∧ v = (if z = 0 then μ 212 i else μ 211 i) ∧ μ2 = μ)) (ex2 sIS (fun μ2 => g = 0 ∧ μ2 = μ) sIO (fun μ2 => ¬ g = 0 ∧ ¬ (0 ≤ i ∧ i < g) ∧ μ2 = μ)) := by
  refine PC.pre (fun hR => ?_)
  refine q_start (cc := cX3_found) (maxL := 3) (ret := (some .int)) hlf (by decide +kernel) rfl (by simp [Value.category]) (Nat.le_of_ble_eq_true rfl) ?_
  intro p e s m args below meth c C hret hno
  show PW p l e ((rk 3 7)) s m args below meth c D cy B 3 0 0 _ 0 [some (.ref (B + 0)), some (iN i), some (iN z)] [] μ
  refine q_aload_n (pc := 0) C dX3_found_0 rfl rfl ?_
  refine q_callV (pc := 1) (As := []) (rest := []) C (c_needGraph hlf D cy B) (cwV 0 C.2.2.2.2.1 gX3_found_X3_needGraph rfl rfl rfl (by decide +kernel) ⟨Nat.le_of_ble_eq_true rfl, Nat.le_of_ble_eq_true rfl⟩) (ci := 3) rfl k0 (by decide) (by decide) rfl rfl (by first | decide | simp [Value.category]) dX3_found_1 (by decide) (fun E μ8 hx => q_out C hno (Or.inl ⟨hx.1, by have := hx.2.1; omega, hx.2.2⟩) (Nat.le_of_ble_eq_true rfl) (Nat.le_of_ble_eq_true rfl)) (fun v σ9 hv => ?_)
  obtain ⟨hv1, hr1, hv2⟩ := hv
  subst hv1
  have hv2 := hv2.symm
  subst hv2
  dsimp only [Option.toList, List.cons_append, List.nil_append]
  refine q_aload_n (pc := 4) C dX3_found_4 rfl rfl ?_
  refine q_iload_n (pc := 5) C dX3_found_5 rfl rfl ?_
  refine q_callV (pc := 6) (As := [_]) (rest := []) C (c_needState hlf D cy B (n := i) hi) (cwV 1 C.2.2.2.2.1 gX3_found_X3_needState rfl rfl rfl (by decide +kernel) ⟨Nat.le_of_ble_eq_true rfl, Nat.le_of_ble_eq_true rfl⟩) (ci := 3) rfl k0 (by decide) (by decide) rfl rfl (by first | decide | simp [Value.category]) dX3_found_6 (by decide) (fun E μ8 hx => q_out C hno (Or.inr ⟨hx.1, by omega, by rw [hs] at hx; exact hx.2⟩) (Nat.le_of_ble_eq_true rfl) (Nat.le_of_ble_eq_true rfl)) (fun v σ9 hv => ?_)
  obtain ⟨hv1, hr2, hv2⟩ := hv
  rw [hs] at hr2
  subst hv1
  have hv2 := hv2.symm
  subst hv2
  dsimp only [Option.toList, List.cons_append, List.nil_append]
  refine q_iload_n (pc := 9) C dX3_found_9 rfl rfl ?_
  refine q_if_eq (pc := 10) (tgt := 25) C (by first | exact hR _ _ | exact hRo _ _ | assumption | exact ⟨by omega, by omega⟩) dX3_found_10 (by decide) (fun hc => ?_) (fun hc => ?_)
  · refine q_aload_n (pc := 25) C dX3_found_25 rfl rfl ?_
    refine q_getR (pc := 26) (ci := 3) (k := 3) (r := 128) C rfl fiX3_found_X3 (by decide) k0 (by decide) rfl (by decide) flX3_found_32 rfl rfl dX3_found_26 ?_
    refine q_getRN (pc := 29) (ci := 0) (k := 5) (r := 212) C rfl fiX3_found_X0 (by decide) k128 (by decide) rfl (by decide) (by decide +kernel) rfl rfl dX3_found_29 ?_
    refine q_iload_n (pc := 32) C dX3_found_32 rfl rfl ?_
    refine q_iaload (pc := 33) C k212 n212 (by decide) (by decide) (by omega) (by omega) dX3_found_33 ?_
    exact q_iret (pc := 34) C hret ⟨_, hR _ _, rfl, by omega, hr2, by rw [if_pos hc], rfl⟩ (by decide) (by decide) dX3_found_34
  · refine q_aload_n (pc := 13) C dX3_found_13 rfl rfl ?_
    refine q_getR (pc := 14) (ci := 3) (k := 3) (r := 128) C rfl fiX3_found_X3 (by decide) k0 (by decide) rfl (by decide) flX3_found_32 rfl rfl dX3_found_14 ?_
    refine q_getRN (pc := 17) (ci := 0) (k := 4) (r := 211) C rfl fiX3_found_X0 (by decide) k128 (by decide) rfl (by decide) (by decide +kernel) rfl rfl dX3_found_17 ?_
    refine q_iload_n (pc := 20) C dX3_found_20 rfl rfl ?_
    refine q_iaload (pc := 21) C k211 n211 (by decide) (by decide) (by omega) (by omega) dX3_found_21 ?_
    refine q_goto (pc := 22) (tgt := 34) C dX3_found_22 (by decide) ?_
    exact q_iret (pc := 34) C hret ⟨_, hR _ _, rfl, by omega, hr2, by rw [if_neg hc], rfl⟩ (by decide) (by decide) dX3_found_34
set_option maxHeartbeats 4000000 in
set_option maxRecDepth 100000 in
theorem c_stops {l : Launch} (hlf : l.stackTraces = false) (D : va_G) (cy : Nat → ClassId) (B : Nat) {μ : St} {T g : Nat} (hs : μ 128 1 = g) (hg : g ≤ 40) (hT : μ 1 1 = T) (h8 : T ≤ 8) : PC l D cy B yX3_stops wsX3_stops ((rk 3 7)) [.ref (B + 0)] μ (qv (fun v μ2 => ¬ g = 0 ∧ v = cntS μ T g ∧ μ2 = μ)) (ex1 sIS (fun μ2 => g = 0 ∧ μ2 = μ)) := by
  refine PC.pre (fun hR => ?_)
  refine q_start (cc := cX3_stops) (maxL := 1) (ret := (some .int)) hlf (by decide +kernel) rfl (by simp [Value.category]) (Nat.le_of_ble_eq_true rfl) ?_
  intro p e s m args below meth c C hret hno
  show PW p l e ((rk 3 7)) s m args below meth c D cy B 1 0 0 _ 0 [some (.ref (B + 0))] [] μ
  refine q_aload_n (pc := 0) C dX3_stops_0 rfl rfl ?_
  refine q_callV (pc := 1) (As := []) (rest := []) C (c_needGraph hlf D cy B) (cwV 0 C.2.2.2.2.1 gX3_stops_X3_needGraph rfl rfl rfl (by decide +kernel) ⟨Nat.le_of_ble_eq_true rfl, Nat.le_of_ble_eq_true rfl⟩) (ci := 3) rfl k0 (by decide) (by decide) rfl rfl (by first | decide | simp [Value.category]) dX3_stops_1 (by decide) (fun E μ8 hx => q_out C hno (⟨hx.1, by have := hx.2.1; omega, hx.2.2⟩) (Nat.le_of_ble_eq_true rfl) (Nat.le_of_ble_eq_true rfl)) (fun v σ9 hv => ?_)
  obtain ⟨hv1, hr1, hv2⟩ := hv
  subst hv1
  have hv2 := hv2.symm
  subst hv2
  dsimp only [Option.toList, List.cons_append, List.nil_append]
  have hle := cntS_le μ T g
  refine q_aload_n (pc := 4) C dX3_stops_4 rfl rfl ?_
  refine q_getR (pc := 5) (ci := 3) (k := 3) (r := 128) C rfl fiX3_stops_X3 (by decide) k0 (by decide) rfl (by decide) flX3_stops_32 rfl rfl dX3_stops_5 ?_
  refine q_callV (pc := 8) (As := []) (rest := []) C (c_countStops hlf D cy B (g := g) (T := T) hg hs h8 hT) (cwV 0 C.2.2.2.2.1 gX3_stops_X0_countStops rfl rfl rfl (by decide +kernel) ⟨Nat.le_of_ble_eq_true rfl, Nat.le_of_ble_eq_true rfl⟩) (ci := 0) rfl k128 (by decide) (by decide) rfl rfl (by first | decide | simp [Value.category]) dX3_stops_8 (by decide) (fun _ _ h => h.elim) (fun v μ9 hv => ?_)
  have e8 := hv.1
  have e9 := hv.2.symm
  clear hv
  subst e8
  subst e9
  dsimp only [Option.toList, List.cons_append, List.nil_append]
  exact q_iret (pc := 11) C hret ⟨_, ⟨by omega, by omega⟩, rfl, by omega, rfl, rfl⟩ (by decide) (by decide) dX3_stops_11
set_option maxHeartbeats 4000000 in
set_option maxRecDepth 100000 in
theorem c_live {l : Launch} (hlf : l.stackTraces = false) (D : va_G) (cy : Nat → ClassId) (B : Nat) {μ : St} {T g : Nat} {t : Int} (ht : InR t) (hs : μ 128 1 = g) (hg : g ≤ 40) (hT : μ 1 1 = T) (h8 : T ≤ 8) (hah : ahP μ g) : PC l D cy B yX3_live wsX3_live ((rk 3 7)) [.ref (B + 0), iN t] μ (qv (fun v μ2 => ¬ g = 0 ∧ (0 ≤ t ∧ t < T) ∧ v = bI (∀ i : Nat, i < g → (μ 214 i).toNat.testBit t.toNat = true) ∧ μ2 = μ)) (ex2 sIS (fun μ2 => g = 0 ∧ μ2 = μ) sIO (fun μ2 => ¬ g = 0 ∧ ¬ (0 ≤ t ∧ t < T) ∧ μ2 = μ)) := by
  refine PC.pre (fun hR => ?_)
  refine q_start (cc := cX3_live) (maxL := 2) (ret := (some .boolean)) hlf (by decide +kernel) rfl (by simp [Value.category]) (Nat.le_of_ble_eq_true rfl) ?_
  intro p e s m args below meth c C hret hno
  show PW p l e ((rk 3 7)) s m args below meth c D cy B 2 0 0 _ 0 [some (.ref (B + 0)), some (iN t)] [] μ
  refine q_aload_n (pc := 0) C dX3_live_0 rfl rfl ?_
  refine q_callV (pc := 1) (As := []) (rest := []) C (c_needGraph hlf D cy B) (cwV 0 C.2.2.2.2.1 gX3_live_X3_needGraph rfl rfl rfl (by decide +kernel) ⟨Nat.le_of_ble_eq_true rfl, Nat.le_of_ble_eq_true rfl⟩) (ci := 3) rfl k0 (by decide) (by decide) rfl rfl (by first | decide | simp [Value.category]) dX3_live_1 (by decide) (fun E μ8 hx => q_out C hno (Or.inl ⟨hx.1, by have := hx.2.1; omega, hx.2.2⟩) (Nat.le_of_ble_eq_true rfl) (Nat.le_of_ble_eq_true rfl)) (fun v σ9 hv => ?_)
  obtain ⟨hv1, hr1, hv2⟩ := hv
  subst hv1
  have hv2 := hv2.symm
  subst hv2
  dsimp only [Option.toList, List.cons_append, List.nil_append]
  refine q_aload_n (pc := 4) C dX3_live_4 rfl rfl ?_
  refine q_iload_n (pc := 5) C dX3_live_5 rfl rfl ?_
  refine q_callV (pc := 6) (As := [_]) (rest := []) C (c_needTransition hlf D cy B (T := T) (n := t) ht hT) (cwV 1 C.2.2.2.2.1 gX3_live_X3_needTransition rfl rfl rfl (by decide +kernel) ⟨Nat.le_of_ble_eq_true rfl, Nat.le_of_ble_eq_true rfl⟩) (ci := 3) rfl k0 (by decide) (by decide) rfl rfl (by first | decide | simp [Value.category]) dX3_live_6 (by decide) (fun E μ8 hx => q_out C hno (Or.inr ⟨hx.1, by omega, hx.2⟩) (Nat.le_of_ble_eq_true rfl) (Nat.le_of_ble_eq_true rfl)) (fun v σ9 hv => ?_)
  obtain ⟨hv1, hr2, hv2⟩ := hv
  subst hv1
  have hv2 := hv2.symm
  subst hv2
  dsimp only [Option.toList, List.cons_append, List.nil_append]
  obtain ⟨t9, ht9⟩ : ∃ t9 : Nat, t = t9 := ⟨t.toNat, by omega⟩
  subst ht9
  refine q_aload_n (pc := 9) C dX3_live_9 rfl rfl ?_
  refine q_getR (pc := 10) (ci := 3) (k := 3) (r := 128) C rfl fiX3_live_X3 (by decide) k0 (by decide) rfl (by decide) flX3_live_32 rfl rfl dX3_live_10 ?_
  refine q_iload_n (pc := 13) C dX3_live_13 rfl rfl ?_
  refine q_callV (pc := 14) (As := [_]) (rest := []) C (c_staysPossible hlf D cy B (g := g) (t := t9) hg hs (by omega) hah) (cwV 1 C.2.2.2.2.1 gX3_live_X0_staysPossible rfl rfl rfl (by decide +kernel) ⟨Nat.le_of_ble_eq_true rfl, Nat.le_of_ble_eq_true rfl⟩) (ci := 0) rfl k128 (by decide) (by decide) rfl rfl (by first | decide | simp [Value.category]) dX3_live_14 (by decide) (fun _ _ h => h.elim) (fun v μ9 hv => ?_)
  have e8 := hv.1
  have e9 := hv.2.symm
  clear hv
  subst e8
  subst e9
  dsimp only [Option.toList, List.cons_append, List.nil_append]
  have hz := bI_01 (∀ i : Nat, i < g → (μ 214 i).toNat.testBit t9 = true)
  exact q_zret (pc := 17) C hret (by first | exact Or.inl rfl | exact Or.inr rfl | assumption) ⟨_, r_bI _, rfl, by omega, hr2, rfl, rfl⟩ (by decide) (by decide) dX3_live_17

