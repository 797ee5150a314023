set_option maxHeartbeats 4000000 in
set_option maxRecDepth 100000 in
theorem c_covers {l : Launch} (hlf : l.stackTraces = false) (D : va_G) (cy : Nat → ClassId) (B : Nat) {μ : St} {a b : Nat} (ka : kd a = 5) (na : ln a = 6) (la : a < 233) (kb : kd b = 5) (nb : ln b = 6) (lb : b < 233) : PC l D cy B yX3_covers wsX3_covers (r0 0) [.ref (B + a), .ref (B + b)] μ (ret1 (bI (∀ q : Nat, q < 6 → μ b q ≤ μ a q)) μ) noX := by
  refine PC.pre (fun hR => ?_)
  refine q_start (cc := cX3_covers) (maxL := 3) (ret := (some .boolean)) hlf (by decide +kernel) rfl (by simp [Value.category]) (Nat.le_of_ble_eq_true rfl) ?_
  intro p e s m args below meth c C hret hno
  show PW p l e (r0 0) s m args below meth c D cy B 3 0 0 _ 0 [some (.ref (B + a)), some (.ref (B + b)), none] [] μ
  have L : ∀ i : Nat, i ≤ 6 → (∀ q : Nat, q < i → μ b q ≤ μ a q) → PW p l e (r0 0) s m args below meth c D cy B 3 0 0 (vx_MQ below (Qp D cy B (ret1 (bI (∀ q : Nat, q < 6 → μ b q ≤ μ a q)) μ)) (Xp D cy B noX) args s (r0 0).cells (r0 0).slots (fun q => B ≤ q)) 2 [some (.ref (B + a)), some (.ref (B + b)), some (iN i)] [] μ := by
    refine up_to 6 _ (fun i hi ih hI => ?_)
    refine q_iload_n (pc := 2) C dX3_covers_2 rfl rfl ?_
    refine q_bipush (pc := 3) C (by decide +kernel) dX3_covers_3 ?_
    refine q_icmp_ge (pc := 5) (tgt := 25) C (by first | exact hR _ _ | exact hRo _ _ | assumption | exact ⟨by omega, by omega⟩) (by first | exact hR _ _ | exact hRo _ _ | assumption | exact ⟨by omega, by omega⟩) dX3_covers_5 (by decide) (fun hc => ?_) (fun hc => ?_)
    · refine q_iconst (pc := 25) C dX3_covers_25 ?_
      exact q_zret (pc := 26) C hret (by first | exact Or.inl rfl | exact Or.inr rfl | assumption) ⟨by rw [bI_t (fun q hq => hI q (by omega))], rfl⟩ (by decide) (by decide) dX3_covers_26
    · refine q_aload_n (pc := 8) C dX3_covers_8 rfl rfl ?_
      refine q_iload_n (pc := 9) C dX3_covers_9 rfl rfl ?_
      refine q_iaload (pc := 10) C ka na (by decide) la (by omega) (by omega) dX3_covers_10 ?_
      refine q_aload_n (pc := 11) C dX3_covers_11 rfl rfl ?_
      refine q_iload_n (pc := 12) C dX3_covers_12 rfl rfl ?_
      refine q_iaload (pc := 13) C kb nb (by decide) lb (by omega) (by omega) dX3_covers_13 ?_
      refine q_icmp_ge (pc := 14) (tgt := 19) C (by first | exact hR _ _ | exact hRo _ _ | assumption | exact ⟨by omega, by omega⟩) (by first | exact hR _ _ | exact hRo _ _ | assumption | exact ⟨by omega, by omega⟩) dX3_covers_14 (by decide) (fun hd => ?_) (fun hd => ?_)
      · refine q_iinc (pc := 19) (lv2 := [_, _, _]) C dX3_covers_19 (by decide) rfl rfl ?_
        refine q_goto (pc := 22) (tgt := 2) C dX3_covers_22 (by decide) ?_
        refine ih (by omega) (fun q hq => ?_)
        by_cases e : q = i
        · rw [e]; exact hd
        · exact hI q (by omega)
      · refine q_iconst (pc := 17) C dX3_covers_17 ?_
        exact q_zret (pc := 18) C hret (by first | exact Or.inl rfl | exact Or.inr rfl | assumption) ⟨by rw [bI_f (fun z => hd (z i (by omega)))], rfl⟩ (by decide) (by decide) dX3_covers_18
  refine q_iconst (pc := 0) C dX3_covers_0 ?_
  refine q_istore_n (pc := 1) (lv2 := [_, _, _]) C dX3_covers_1 rfl (by decide) rfl ?_
  exact L 0 (by omega) (fun q hq => absurd hq (by omega))
set_option maxHeartbeats 4000000 in
set_option maxRecDepth 100000 in
theorem c_same {l : Launch} (hlf : l.stackTraces = false) (D : va_G) (cy : Nat → ClassId) (B : Nat) {μ : St} {a b : Nat} (ka : kd a = 5) (na : ln a = 6) (la : a < 233) (kb : kd b = 5) (nb : ln b = 6) (lb : b < 233) : PC l D cy B yX3_same wsX3_same (r0 0) [.ref (B + a), .ref (B + b)] μ (ret1 (bI (∀ q : Nat, q < 6 → μ a q = μ b q)) μ) noX := by
  refine PC.pre (fun hR => ?_)
  refine q_start (cc := cX3_same) (maxL := 3) (ret := (some .boolean)) hlf (by decide +kernel) rfl (by simp [Value.category]) (Nat.le_of_ble_eq_true rfl) ?_
  intro p e s m args below meth c C hret hno
  show PW p l e (r0 0) s m args below meth c D cy B 3 0 0 _ 0 [some (.ref (B + a)), some (.ref (B + b)), none] [] μ
  have L : ∀ i : Nat, i ≤ 6 → (∀ q : Nat, q < i → μ a q = μ b q) → PW p l e (r0 0) s m args below meth c D cy B 3 0 0 (vx_MQ below (Qp D cy B (ret1 (bI (∀ q : Nat, q < 6 → μ a q = μ b q)) μ)) (Xp D cy B noX) args s (r0 0).cells (r0 0).slots (fun q => B ≤ q)) 2 [some (.ref (B + a)), some (.ref (B + b)), some (iN i)] [] μ := by
    refine up_to 6 _ (fun i hi ih hI => ?_)
    refine q_iload_n (pc := 2) C dX3_same_2 rfl rfl ?_
    refine q_bipush (pc := 3) C (by decide +kernel) dX3_same_3 ?_
    refine q_icmp_ge (pc := 5) (tgt := 25) C (by first | exact hR _ _ | exact hRo _ _ | assumption | exact ⟨by omega, by omega⟩) (by first | exact hR _ _ | exact hRo _ _ | assumption | exact ⟨by omega, by omega⟩) dX3_same_5 (by decide) (fun hc => ?_) (fun hc => ?_)
    · refine q_iconst (pc := 25) C dX3_same_25 ?_
      exact q_zret (pc := 26) C hret (by first | exact Or.inl rfl | exact Or.inr rfl | assumption) ⟨by rw [bI_t (fun q hq => hI q (by omega))], rfl⟩ (by decide) (by decide) dX3_same_26
    · refine q_aload_n (pc := 8) C dX3_same_8 rfl rfl ?_
      refine q_iload_n (pc := 9) C dX3_same_9 rfl rfl ?_
      refine q_iaload (pc := 10) C ka na (by decide) la (by omega) (by omega) dX3_same_10 ?_
      refine q_aload_n (pc := 11) C dX3_same_11 rfl rfl ?_
      refine q_iload_n (pc := 12) C dX3_same_12 rfl rfl ?_
      refine q_iaload (pc := 13) C kb nb (by decide) lb (by omega) (by omega) dX3_same_13 ?_
      refine q_icmp_eq (pc := 14) (tgt := 19) C (by first | exact hR _ _ | exact hRo _ _ | assumption | exact ⟨by omega, by omega⟩) (by first | exact hR _ _ | exact hRo _ _ | assumption | exact ⟨by omega, by omega⟩) dX3_same_14 (by decide) (fun hd => ?_) (fun hd => ?_)
      · refine q_iinc (pc := 19) (lv2 := [_, _, _]) C dX3_same_19 (by decide) rfl rfl ?_
        refine q_goto (pc := 22) (tgt := 2) C dX3_same_22 (by decide) ?_
        refine ih (by omega) (fun q hq => ?_)
        by_cases e : q = i
        · rw [e]; exact hd
        · exact hI q (by omega)
      · refine q_iconst (pc := 17) C dX3_same_17 ?_
        exact q_zret (pc := 18) C hret (by first | exact Or.inl rfl | exact Or.inr rfl | assumption) ⟨by rw [bI_f (fun z => hd (z i (by omega)))], rfl⟩ (by decide) (by decide) dX3_same_18
  refine q_iconst (pc := 0) C dX3_same_0 ?_
  refine q_istore_n (pc := 1) (lv2 := [_, _, _]) C dX3_same_1 rfl (by decide) rfl ?_
  exact L 0 (by omega) (fun q hq => absurd hq (by omega))
set_option maxHeartbeats 4000000 in
set_option maxRecDepth 100000 in
theorem c_asTold {l : Launch} (hlf : l.stackTraces = false) (D : va_G) (cy : Nat → ClassId) (B : Nat) {μ : St} {x : Int} (hx : InR x) : PC l D cy B yX3_asTold wsX3_asTold (r0 0) [iN x] μ (ret1 (if x = 1000000 then -1 else x) μ) noX := by
  refine PC.pre (fun hR => ?_)
  refine q_start (cc := cX3_asTold) (maxL := 1) (ret := (some .int)) hlf (by decide +kernel) rfl (by simp [Value.category]) (Nat.le_of_ble_eq_true rfl) ?_
  intro p e s m args below meth c C hret hno
  show PW p l e (r0 0) s m args below meth c D cy B 1 0 0 _ 0 [some (iN x)] [] μ
  obtain ⟨hx1, hx2⟩ := id hx
  refine q_iload_n (pc := 0) C dX3_asTold_0 rfl rfl ?_
  refine q_ldc (pc := 1) (n := 1000000) (x := (1000000 : Int32)) C (by decide +kernel) (by decide +kernel) dX3_asTold_1 ?_
  refine q_icmp_ne (pc := 3) (tgt := 10) C (by first | exact hR _ _ | exact hRo _ _ | assumption | exact ⟨by omega, by omega⟩) (by first | exact hR _ _ | exact hRo _ _ | assumption | exact ⟨by omega, by omega⟩) dX3_asTold_3 (by decide) (fun hc => ?_) (fun hc => ?_)
  · refine q_iload_n (pc := 10) C dX3_asTold_10 rfl rfl ?_
    exact q_iret (pc := 11) C hret ⟨by rw [if_neg hc], rfl⟩ (by decide) (by decide) dX3_asTold_11
  · refine q_iconst (pc := 6) C dX3_asTold_6 ?_
    refine q_goto (pc := 7) (tgt := 11) C dX3_asTold_7 (by decide) ?_
    exact q_iret (pc := 11) C hret ⟨by rw [if_pos hc], rfl⟩ (by decide) (by decide) dX3_asTold_11
set_option maxHeartbeats 4000000 in
set_option maxRecDepth 100000 in
theorem c_copyInto {l : Launch} (hlf : l.stackTraces = false) (D : va_G) (cy : Nat → ClassId) (B : Nat) {μ : St} {a b : Nat} (ka : kd a = 5) (na : ln a = 6) (la : a < 233) (kb : kd b = 5) (nb : ln b = 6) (lb : b < 233) : PC l D cy B yX3_copyInto wsX3_copyInto (r0 1) [.ref (B + a), .ref (B + b)] μ (ret0 (cpS μ a b)) noX := by
  refine PC.pre (fun hR => ?_)
  refine q_start (cc := cX3_copyInto) (maxL := 2) (ret := none) hlf (by decide +kernel) rfl (by simp [Value.category]) (Nat.le_of_ble_eq_true rfl) ?_
  intro p e s m args below meth c C hret hno
  show PW p l e (r0 1) s m args below meth c D cy B 2 0 0 _ 0 [some (.ref (B + a)), some (.ref (B + b))] [] μ
  refine q_aload_n (pc := 0) C dX3_copyInto_0 rfl rfl ?_
  refine q_iconst (pc := 1) C dX3_copyInto_1 ?_
  refine q_aload_n (pc := 2) C dX3_copyInto_2 rfl rfl ?_
  refine q_iconst (pc := 3) C dX3_copyInto_3 ?_
  refine q_bipush (pc := 4) C (by decide +kernel) dX3_copyInto_4 ?_
  refine q_copy (pc := 6) C ka kb na nb la lb (by decide +kernel) (by decide +kernel) (by decide +kernel) (by decide +kernel) (Nat.le_of_ble_eq_true rfl) (Nat.le_of_ble_eq_true rfl) dX3_copyInto_6 ?_
  exact q_vret (pc := 9) C hret ⟨rfl, rfl⟩ (by decide) (by decide) dX3_copyInto_9

