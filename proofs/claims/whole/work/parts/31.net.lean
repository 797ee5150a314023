theorem fiX1_addPlace_X1 : ∀ w ∈ u_ws RX1 TX1 5, w ∈ wsX1_addPlace := by decide +kernel
theorem fiX1_addTransition_X1 : ∀ w ∈ u_ws RX1 TX1 5, w ∈ wsX1_addTransition := by decide +kernel
theorem fiX1_enables_X1 : ∀ w ∈ u_ws RX1 TX1 5, w ∈ wsX1_enables := by decide +kernel
theorem fiX1_fire_X1 : ∀ w ∈ u_ws RX1 TX1 5, w ∈ wsX1_fire := by decide +kernel
theorem fiX1_setArc_X1 : ∀ w ∈ u_ws RX1 TX1 5, w ∈ wsX1_setArc := by decide +kernel
theorem flX1_addPlace_23 : Cond.fieldLink RX1 23 RX1 (TX1 0).2.1 (TX1 0).2.2.1 ∈ wsX1_addPlace := by decide +kernel
theorem flX1_addPlace_9 : Cond.fieldLink RX1 9 RX1 (TX1 2).2.1 (TX1 2).2.2.1 ∈ wsX1_addPlace := by decide +kernel
theorem flX1_addTransition_27 : Cond.fieldLink RX1 27 RX1 (TX1 1).2.1 (TX1 1).2.2.1 ∈ wsX1_addTransition := by decide +kernel
theorem flX1_enables_17 : Cond.fieldLink RX1 17 RX1 (TX1 3).2.1 (TX1 3).2.2.1 ∈ wsX1_enables := by decide +kernel
theorem flX1_fire_17 : Cond.fieldLink RX1 17 RX1 (TX1 3).2.1 (TX1 3).2.2.1 ∈ wsX1_fire := by decide +kernel
theorem flX1_fire_20 : Cond.fieldLink RX1 20 RX1 (TX1 4).2.1 (TX1 4).2.2.1 ∈ wsX1_fire := by decide +kernel
theorem flX1_setArc_17 : Cond.fieldLink RX1 17 RX1 (TX1 3).2.1 (TX1 3).2.2.1 ∈ wsX1_setArc := by decide +kernel
theorem flX1_setArc_20 : Cond.fieldLink RX1 20 RX1 (TX1 4).2.1 (TX1 4).2.2.1 ∈ wsX1_setArc := by decide +kernel
set_option maxHeartbeats 4000000 in
set_option maxRecDepth 100000 in
theorem c_addPlace {l : Launch} (hlf : l.stackTraces = false) (D : va_G) (cy : Nat → ClassId) (B : Nat) {μ : St} {t : Int} (ht : InR t) (h0 : 0 ≤ μ 1 0) (h6 : μ 1 0 < 6) : PC l D cy B yX1_addPlace wsX1_addPlace (r0 0) [.ref (B + 1), iN t] μ (fun r μ2 => r = some (iN (μ 1 0)) ∧ μ2 = updS (updS μ 2 (μ 1 0) t) 1 0 (μ 1 0 + 1)) noX := by
  refine PC.pre (fun hR => ?_)
  refine q_start (cc := cX1_addPlace) (maxL := 2) (ret := (some .int)) hlf (by decide +kernel) rfl (by simp [Value.category]) (Nat.le_of_ble_eq_true rfl) ?_
  intro p e s m args below meth c C hret hno
  show PW p l e (r0 0) s m args below meth c D cy B 2 0 0 _ 0 [some (.ref (B + 1)), some (iN t)] [] μ
  refine q_aload_n (pc := 0) C dX1_addPlace_0 rfl rfl ?_
  refine q_getR (pc := 1) (ci := 1) (k := 2) (r := 2) C rfl fiX1_addPlace_X1 (by decide) k1 (by decide) rfl (by decide) flX1_addPlace_9 rfl rfl dX1_addPlace_1 ?_
  refine q_aload_n (pc := 4) C dX1_addPlace_4 rfl rfl ?_
  refine q_getI (pc := 5) (ci := 1) (k := 0) (ki := 0) C rfl rfl fiX1_addPlace_X1 (by decide) k1 (by decide) rfl (by decide) flX1_addPlace_23 rfl rfl dX1_addPlace_5 ?_
  refine q_iload_n (pc := 8) C dX1_addPlace_8 rfl rfl ?_
  refine q_iastore (pc := 9) C k2 n2 (by decide) (by decide) (by omega) (by omega) (by first | exact hR _ _ | exact hRo _ _ | assumption | exact ⟨by omega, by omega⟩) dX1_addPlace_9 ?_
  refine q_aload_n (pc := 10) C dX1_addPlace_10 rfl rfl ?_
  refine q_dup (pc := 11) C rfl dX1_addPlace_11 ?_
  refine q_getI (pc := 12) (ci := 1) (k := 0) (ki := 0) C rfl rfl fiX1_addPlace_X1 (by decide) k1 (by decide) rfl (by decide) flX1_addPlace_23 rfl rfl dX1_addPlace_12 ?_
  simp only [updS_ap, Nat.reduceEqDiff, Int.reduceEq, Int.toNat_natCast, false_and, true_and, and_false, and_true, and_self, if_false, if_true, ↓reduceIte]
  refine q_iconst (pc := 15) C dX1_addPlace_15 ?_
  refine q_iadd (pc := 16) C dX1_addPlace_16 ?_
  refine q_put (pc := 17) (ci := 1) (k := 0) (ki := 0) (ty0 := tyX1) C rfl rfl fiX1_addPlace_X1 (by decide) k1 (by decide) rfl (by decide) flX1_addPlace_23 rfl tyX1_ok nmX1 rfl rfl rfl (by first | exact hR _ _ | exact hRo _ _ | assumption | exact ⟨by omega, by omega⟩) dX1_addPlace_17 ?_
  refine q_aload_n (pc := 20) C dX1_addPlace_20 rfl rfl ?_
  refine q_getI (pc := 21) (ci := 1) (k := 0) (ki := 0) C rfl rfl fiX1_addPlace_X1 (by decide) k1 (by decide) rfl (by decide) flX1_addPlace_23 rfl rfl dX1_addPlace_21 ?_
  refine q_iconst (pc := 24) C dX1_addPlace_24 ?_
  refine q_isub (pc := 25) C dX1_addPlace_25 ?_
  simp only [updS_ap, Nat.reduceEqDiff, Int.reduceEq, Int.toNat_natCast, false_and, true_and, and_false, and_true, and_self, if_false, if_true, ↓reduceIte]
  exact q_iret (pc := 26) C hret ⟨by rw [Int.add_sub_cancel], rfl⟩ (by decide) (by decide) dX1_addPlace_26
set_option maxHeartbeats 4000000 in
set_option maxRecDepth 100000 in
theorem c_addTransition {l : Launch} (hlf : l.stackTraces = false) (D : va_G) (cy : Nat → ClassId) (B : Nat) {μ : St} (h0 : 0 ≤ μ 1 1) (h6 : μ 1 1 < 8) : PC l D cy B yX1_addTransition wsX1_addTransition (r0 0) [.ref (B + 1)] μ (fun r μ2 => r = some (iN (μ 1 1)) ∧ μ2 = updS μ 1 1 (μ 1 1 + 1)) noX := by
  refine PC.pre (fun hR => ?_)
  refine q_start (cc := cX1_addTransition) (maxL := 1) (ret := (some .int)) hlf (by decide +kernel) rfl (by simp [Value.category]) (Nat.le_of_ble_eq_true rfl) ?_
  intro p e s m args below meth c C hret hno
  show PW p l e (r0 0) s m args below meth c D cy B 1 0 0 _ 0 [some (.ref (B + 1))] [] μ
  refine q_aload_n (pc := 0) C dX1_addTransition_0 rfl rfl ?_
  refine q_dup (pc := 1) C rfl dX1_addTransition_1 ?_
  refine q_getI (pc := 2) (ci := 1) (k := 1) (ki := 1) C rfl rfl fiX1_addTransition_X1 (by decide) k1 (by decide) rfl (by decide) flX1_addTransition_27 rfl rfl dX1_addTransition_2 ?_
  refine q_iconst (pc := 5) C dX1_addTransition_5 ?_
  refine q_iadd (pc := 6) C dX1_addTransition_6 ?_
  refine q_put (pc := 7) (ci := 1) (k := 1) (ki := 1) (ty0 := tyX1) C rfl rfl fiX1_addTransition_X1 (by decide) k1 (by decide) rfl (by decide) flX1_addTransition_27 rfl tyX1_ok nmX1 rfl rfl rfl (by first | exact hR _ _ | exact hRo _ _ | assumption | exact ⟨by omega, by omega⟩) dX1_addTransition_7 ?_
  refine q_aload_n (pc := 10) C dX1_addTransition_10 rfl rfl ?_
  refine q_getI (pc := 11) (ci := 1) (k := 1) (ki := 1) C rfl rfl fiX1_addTransition_X1 (by decide) k1 (by decide) rfl (by decide) flX1_addTransition_27 rfl rfl dX1_addTransition_11 ?_
  refine q_iconst (pc := 14) C dX1_addTransition_14 ?_
  refine q_isub (pc := 15) C dX1_addTransition_15 ?_
  simp only [updS_ap, Nat.reduceEqDiff, Int.reduceEq, Int.toNat_natCast, false_and, true_and, and_false, and_true, and_self, if_false, if_true, ↓reduceIte]
  exact q_iret (pc := 16) C hret ⟨by rw [Int.add_sub_cancel], rfl⟩ (by decide) (by decide) dX1_addTransition_16
set_option maxHeartbeats 4000000 in
set_option maxRecDepth 100000 in
theorem c_setArc {l : Launch} (hlf : l.stackTraces = false) (D : va_G) (cy : Nat → ClassId) (B : Nat) {μ : St} {p0 : Int} {t : Nat} {n z : Int} (hp0 : 0 ≤ p0) (hp : p0 < 6) (ht : t < 8) (hn : InR n) (hz : InR z) : PC l D cy B yX1_setArc wsX1_setArc (r0 0) [.ref (B + 1), iN p0, iN t, iN n, iN z] μ (fun r μ2 => r = some (iN (if z = 0 then μ (4 + t) p0 else μ (13 + t) p0)) ∧ μ2 = (if z = 0 then updS μ (4 + t) p0 n else updS μ (13 + t) p0 n)) noX := by
  refine PC.pre (fun hR => ?_)
  refine q_start (cc := cX1_setArc) (maxL := 7) (ret := (some .int)) hlf (by decide +kernel) rfl (by simp [Value.category]) (Nat.le_of_ble_eq_true rfl) ?_
  intro p e s m args below meth c C hret hno
  show PW p l e (r0 0) s m args below meth c D cy B 7 0 0 _ 0 [some (.ref (B + 1)), some (iN p0), some (iN t), some (iN n), some (iN z), none, none] [] μ
  have hz1 := hz.1
  have hz2 := hz.2
  refine q_iload (pc := 0) C dX1_setArc_0 rfl ?_
  refine q_if_eq (pc := 2) (tgt := 14) C (by first | exact hR _ _ | exact hRo _ _ | assumption | exact ⟨by omega, by omega⟩) dX1_setArc_2 (by decide) (fun hc => ?_) (fun hc => ?_)
  · refine q_aload_n (pc := 14) C dX1_setArc_14 rfl rfl ?_
    refine q_getR (pc := 15) (ci := 1) (k := 3) (r := 3) C rfl fiX1_setArc_X1 (by decide) k1 (by decide) rfl (by decide) flX1_setArc_17 rfl rfl dX1_setArc_15 ?_
    refine q_iload_n (pc := 18) C dX1_setArc_18 rfl rfl ?_
    first | refine q_aaloadN (pc := 19) C k3 n3 (by decide) (by decide) (by omega) rfl dX1_setArc_19 ?_ | refine q_aaload (pc := 19) C k3 n3 (by decide) (by decide) (by omega) (by omega) rfl dX1_setArc_19 ?_
    refine q_astore (pc := 20) (lv2 := [_, _, _, _, _, _, _]) C dX1_setArc_20 (by decide) rfl ?_
    refine q_aload (pc := 22) C dX1_setArc_22 rfl ?_
    refine q_iload_n (pc := 24) C dX1_setArc_24 rfl rfl ?_
    refine q_iaload (pc := 25) C (k_r3 (by omega)) (n_r3 (by omega)) (by decide) (l_r3 (by omega)) (by omega) (by omega) dX1_setArc_25 ?_
    refine q_istore (pc := 26) (lv2 := [_, _, _, _, _, _, _]) C dX1_setArc_26 (by decide) rfl ?_
    refine q_aload (pc := 28) C dX1_setArc_28 rfl ?_
    refine q_iload_n (pc := 30) C dX1_setArc_30 rfl rfl ?_
    refine q_iload_n (pc := 31) C dX1_setArc_31 rfl rfl ?_
    refine q_iastore (pc := 32) C (k_r3 (by omega)) (n_r3 (by omega)) (by decide) (l_r3 (by omega)) (by omega) (by omega) (by first | exact hR _ _ | exact hRo _ _ | assumption | exact ⟨by omega, by omega⟩) dX1_setArc_32 ?_
    refine q_iload (pc := 33) C dX1_setArc_33 rfl ?_
    exact q_iret (pc := 35) C hret ⟨by rw [if_pos hc], by rw [if_pos hc]⟩ (by decide) (by decide) dX1_setArc_35
  · refine q_aload_n (pc := 5) C dX1_setArc_5 rfl rfl ?_
    refine q_getR (pc := 6) (ci := 1) (k := 4) (r := 12) C rfl fiX1_setArc_X1 (by decide) k1 (by decide) rfl (by decide) flX1_setArc_20 rfl rfl dX1_setArc_6 ?_
    refine q_iload_n (pc := 9) C dX1_setArc_9 rfl rfl ?_
    first | refine q_aaloadN (pc := 10) C k12 n12 (by decide) (by decide) (by omega) rfl dX1_setArc_10 ?_ | refine q_aaload (pc := 10) C k12 n12 (by decide) (by decide) (by omega) (by omega) rfl dX1_setArc_10 ?_
    refine q_goto (pc := 11) (tgt := 20) C dX1_setArc_11 (by decide) ?_
    refine q_astore (pc := 20) (lv2 := [_, _, _, _, _, _, _]) C dX1_setArc_20 (by decide) rfl ?_
    refine q_aload (pc := 22) C dX1_setArc_22 rfl ?_
    refine q_iload_n (pc := 24) C dX1_setArc_24 rfl rfl ?_
    refine q_iaload (pc := 25) C (k_r12 (by omega)) (n_r12 (by omega)) (by decide) (l_r12 (by omega)) (by omega) (by omega) dX1_setArc_25 ?_
    refine q_istore (pc := 26) (lv2 := [_, _, _, _, _, _, _]) C dX1_setArc_26 (by decide) rfl ?_
    refine q_aload (pc := 28) C dX1_setArc_28 rfl ?_
    refine q_iload_n (pc := 30) C dX1_setArc_30 rfl rfl ?_
    refine q_iload_n (pc := 31) C dX1_setArc_31 rfl rfl ?_
    refine q_iastore (pc := 32) C (k_r12 (by omega)) (n_r12 (by omega)) (by decide) (l_r12 (by omega)) (by omega) (by omega) (by first | exact hR _ _ | exact hRo _ _ | assumption | exact ⟨by omega, by omega⟩) dX1_setArc_32 ?_
    refine q_iload (pc := 33) C dX1_setArc_33 rfl ?_
    exact q_iret (pc := 35) C hret ⟨by rw [if_neg hc], by rw [if_neg hc]⟩ (by decide) (by decide) dX1_setArc_35
set_option maxHeartbeats 4000000 in
set_option maxRecDepth 100000 in
theorem c_enables {l : Launch} (hlf : l.stackTraces = false) (D : va_G) (cy : Nat → ClassId) (B : Nat) {μ : St} {a t : Nat} (ka : kd a = 5) (na : ln a = 6) (la : a < 233) (ht : t < 8) : PC l D cy B yX1_enables wsX1_enables (r0 1) [.ref (B + 1), .ref (B + a), iN t] μ (ret1 (bI (∀ q : Nat, q < 6 → μ (4 + t) q ≤ μ a q)) μ) noX := by
  refine PC.pre (fun hR => ?_)
  refine q_start (cc := cX1_enables) (maxL := 3) (ret := (some .boolean)) hlf (by decide +kernel) rfl (by simp [Value.category]) (Nat.le_of_ble_eq_true rfl) ?_
  intro p e s m args below meth c C hret hno
  show PW p l e (r0 1) s m args below meth c D cy B 3 0 0 _ 0 [some (.ref (B + 1)), some (.ref (B + a)), some (iN t)] [] μ
  refine q_aload_n (pc := 0) C dX1_enables_0 rfl rfl ?_
  refine q_aload_n (pc := 1) C dX1_enables_1 rfl rfl ?_
  refine q_getR (pc := 2) (ci := 1) (k := 3) (r := 3) C rfl fiX1_enables_X1 (by decide) k1 (by decide) rfl (by decide) flX1_enables_17 rfl rfl dX1_enables_2 ?_
  refine q_iload_n (pc := 5) C dX1_enables_5 rfl rfl ?_
  first | refine q_aaloadN (pc := 6) C k3 n3 (by decide) (by decide) (by omega) rfl dX1_enables_6 ?_ | refine q_aaload (pc := 6) C k3 n3 (by decide) (by decide) (by omega) (by omega) rfl dX1_enables_6 ?_
  refine q_callSN (pc := 7) (As := [_, _]) (rest := []) C (c_covers hlf D cy B (a := a) (b := 4 + t) ka na la (k_r3 ht) (n_r3 ht) (l_r3 ht)) ⟨va_cnB (host := "CoverTrees") (index := 30) 2 C.2.2.2.2.1 gX1_enables_X3_covers_n30 rfl rfl rfl (C.2.2.2.2.2.1.2.2.1 (RX1, 30, yX3_covers) (by decide +kernel)) (C.2.2.2.2.1 _ (by decide +kernel)) (by decide +kernel) ⟨Nat.le_of_ble_eq_true rfl, Nat.le_of_ble_eq_true rfl⟩, C.2.2.2.2.1 _ (by decide +kernel), trivial⟩ rfl rfl (by first | decide | simp [Value.category]) dX1_enables_7 (by decide) (fun _ _ h => h.elim) (fun v μ9 hv => ?_)
  have e8 := hv.1
  have e9 := hv.2.symm
  clear hv
  subst e8
  subst e9
  dsimp only [Option.toList, List.cons_append, List.nil_append]
  have hz := bI_01 (∀ q : Nat, q < 6 → μ (4 + t) q ≤ μ a q)
  exact q_zret (pc := 10) C hret (by first | exact Or.inl rfl | exact Or.inr rfl | assumption) ⟨rfl, rfl⟩ (by decide) (by decide) dX1_enables_10
def fireV (μ : St) (a t : Nat) (k : Int) : Int := if μ a k = 1000000 then μ a k else μ a k - μ (4 + t) k + μ (13 + t) k
set_option maxHeartbeats 4000000 in
set_option maxRecDepth 100000 in
theorem c_fire {l : Launch} (hlf : l.stackTraces = false) (D : va_G) (cy : Nat → ClassId) (B : Nat) {μ : St} {a b t : Nat} (ka : kd a = 5) (na : ln a = 6) (la : a < 233) (kb : kd b = 5) (nb : ln b = 6) (lb : b < 233) (ht : t < 8) (hab : a ≠ b) (hb1 : 4 + t ≠ b) (hb2 : 13 + t ≠ b) (hv : ∀ q : Nat, q < 6 → InR (fireV μ a t q)) : PC l D cy B yX1_fire wsX1_fire (r0 0) [.ref (B + 1), .ref (B + a), iN t, .ref (B + b)] μ (ret0 (preS μ b 6 (fireV μ a t))) noX := by
  refine PC.pre (fun hR => ?_)
  refine q_start (cc := cX1_fire) (maxL := 6) (ret := none) hlf (by decide +kernel) rfl (by simp [Value.category]) (Nat.le_of_ble_eq_true rfl) ?_
  intro p e s m args below meth c C hret hno
  show PW p l e (r0 0) s m args below meth c D cy B 6 0 0 _ 0 [some (.ref (B + 1)), some (.ref (B + a)), some (iN t), some (.ref (B + b)), none, none] [] μ
  have hRo := hR
  have L : ∀ i : Nat, i ≤ 6 → PW p l e (r0 0) s m args below meth c D cy B 6 0 0 (vx_MQ below (Qp D cy B (ret0 (preS μ b 6 (fireV μ a t)))) (Xp D cy B noX) args s (r0 0).cells (r0 0).slots (fun q => B ≤ q)) 3 [some (.ref (B + 1)), some (.ref (B + a)), some (iN t), some (.ref (B + b)), some (iN i), none] [] (preS μ b i (fireV μ a t)) := by
    refine up_to 6 _ (fun i hi ih => ?_)
    refine q_rng (fun hR => ?_)
    refine q_iload (pc := 3) C dX1_fire_3 rfl ?_
    refine q_bipush (pc := 5) C (by decide +kernel) dX1_fire_5 ?_
    refine q_icmp_ge (pc := 7) (tgt := 60) C (by first | exact hR _ _ | exact hRo _ _ | assumption | exact ⟨by omega, by omega⟩) (by first | exact hR _ _ | exact hRo _ _ | assumption | exact ⟨by omega, by omega⟩) dX1_fire_7 (by decide) (fun hc => ?_) (fun hc => ?_)
    · have e : i = 6 := by omega
      subst e
      exact q_vret (pc := 60) C hret ⟨rfl, rfl⟩ (by decide) (by decide) dX1_fire_60
    · have hvi := hv i (by omega)
      unfold fireV at hvi
      refine q_aload_n (pc := 10) C dX1_fire_10 rfl rfl ?_
      refine q_iload (pc := 11) C dX1_fire_11 rfl ?_
      refine q_iaload (pc := 13) C ka na (by decide) la (by omega) (by omega) dX1_fire_13 ?_
      simp only [updS_ap, Nat.reduceEqDiff, Int.reduceEq, Int.toNat_natCast, false_and, true_and, and_false, and_true, and_self, if_false, if_true, ↓reduceIte, preS_ne μ i (fireV μ a t) _ hab]
      refine q_istore (pc := 14) (lv2 := [_, _, _, _, _, _]) C dX1_fire_14 (by decide) rfl ?_
      refine q_aload_n (pc := 16) C dX1_fire_16 rfl rfl ?_
      refine q_iload (pc := 17) C dX1_fire_17 rfl ?_
      refine q_iload (pc := 19) C dX1_fire_19 rfl ?_
      refine q_ldc (pc := 21) (n := 1000000) (x := (1000000 : Int32)) C (by decide +kernel) (by decide +kernel) dX1_fire_21 ?_
      refine q_icmp_ne (pc := 23) (tgt := 31) C (by first | exact hR _ _ | exact hRo _ _ | assumption | exact ⟨by omega, by omega⟩) (by first | exact hR _ _ | exact hRo _ _ | assumption | exact ⟨by omega, by omega⟩) dX1_fire_23 (by decide) (fun hd => ?_) (fun hd => ?_)
      · refine q_iload (pc := 31) C dX1_fire_31 rfl ?_
        refine q_aload_n (pc := 33) C dX1_fire_33 rfl rfl ?_
        refine q_getR (pc := 34) (ci := 1) (k := 3) (r := 3) C rfl fiX1_fire_X1 (by decide) k1 (by decide) rfl (by decide) flX1_fire_17 rfl rfl dX1_fire_34 ?_
        refine q_iload_n (pc := 37) C dX1_fire_37 rfl rfl ?_
        first | refine q_aaloadN (pc := 38) C k3 n3 (by decide) (by decide) (by omega) rfl dX1_fire_38 ?_ | refine q_aaload (pc := 38) C k3 n3 (by decide) (by decide) (by omega) (by omega) rfl dX1_fire_38 ?_
        refine q_iload (pc := 39) C dX1_fire_39 rfl ?_
        refine q_iaload (pc := 41) C (k_r3 (by omega)) (n_r3 (by omega)) (by decide) (l_r3 (by omega)) (by omega) (by omega) dX1_fire_41 ?_
        refine q_isub (pc := 42) C dX1_fire_42 ?_
        simp only [updS_ap, Nat.reduceEqDiff, Int.reduceEq, Int.toNat_natCast, false_and, true_and, and_false, and_true, and_self, if_false, if_true, ↓reduceIte, preS_ne μ i (fireV μ a t) _ hb1]
        refine q_aload_n (pc := 43) C dX1_fire_43 rfl rfl ?_
        refine q_getR (pc := 44) (ci := 1) (k := 4) (r := 12) C rfl fiX1_fire_X1 (by decide) k1 (by decide) rfl (by decide) flX1_fire_20 rfl rfl dX1_fire_44 ?_
        refine q_iload_n (pc := 47) C dX1_fire_47 rfl rfl ?_
        first | refine q_aaloadN (pc := 48) C k12 n12 (by decide) (by decide) (by omega) rfl dX1_fire_48 ?_ | refine q_aaload (pc := 48) C k12 n12 (by decide) (by decide) (by omega) (by omega) rfl dX1_fire_48 ?_
        refine q_iload (pc := 49) C dX1_fire_49 rfl ?_
        refine q_iaload (pc := 51) C (k_r12 (by omega)) (n_r12 (by omega)) (by decide) (l_r12 (by omega)) (by omega) (by omega) dX1_fire_51 ?_
        simp only [updS_ap, Nat.reduceEqDiff, Int.reduceEq, Int.toNat_natCast, false_and, true_and, and_false, and_true, and_self, if_false, if_true, ↓reduceIte, preS_ne μ i (fireV μ a t) _ hb2]
        refine q_iadd (pc := 52) C dX1_fire_52 ?_
        rw [if_neg hd] at hvi
        refine q_iastore (pc := 53) C kb nb (by decide) lb (by omega) (by omega) (by first | exact hR _ _ | exact hRo _ _ | assumption | exact ⟨by omega, by omega⟩) dX1_fire_53 ?_
        refine q_mu (preS_step μ b i (fireV μ a t) (by unfold fireV; rw [if_neg hd])) ?_
        refine q_drop 5 (lv2 := [_, _, _, _, _, none]) rfl ?_
        refine q_iinc (pc := 54) (lv2 := [_, _, _, _, _, _]) C dX1_fire_54 (by decide) rfl rfl ?_
        refine q_goto (pc := 57) (tgt := 3) C dX1_fire_57 (by decide) ?_
        exact ih (by omega)
      · refine q_iload (pc := 26) C dX1_fire_26 rfl ?_
        refine q_goto (pc := 28) (tgt := 53) C dX1_fire_28 (by decide) ?_
        rw [if_pos hd] at hvi
        refine q_iastore (pc := 53) C kb nb (by decide) lb (by omega) (by omega) (by first | exact hR _ _ | exact hRo _ _ | assumption | exact ⟨by omega, by omega⟩) dX1_fire_53 ?_
        refine q_mu (preS_step μ b i (fireV μ a t) (by unfold fireV; rw [if_pos hd])) ?_
        refine q_drop 5 (lv2 := [_, _, _, _, _, none]) rfl ?_
        refine q_iinc (pc := 54) (lv2 := [_, _, _, _, _, _]) C dX1_fire_54 (by decide) rfl rfl ?_
        refine q_goto (pc := 57) (tgt := 3) C dX1_fire_57 (by decide) ?_
        exact ih (by omega)
  refine q_iconst (pc := 0) C dX1_fire_0 ?_
  refine q_istore (pc := 1) (lv2 := [_, _, _, _, _, _]) C dX1_fire_1 (by decide) rfl ?_
  refine q_mu (preS_0 μ b (fireV μ a t)).symm ?_
  exact L 0 (by omega)

