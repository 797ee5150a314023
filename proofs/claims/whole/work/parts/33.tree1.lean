theorem fiX2_makeEndlessWhatRepeats_X2 : ∀ w ∈ u_ws RX2 TX2 9, w ∈ wsX2_makeEndlessWhatRepeats := by decide +kernel
theorem flX2_makeEndlessWhatRepeats_11 : Cond.fieldLink RX2 11 RX2 (TX2 4).2.1 (TX2 4).2.2.1 ∈ wsX2_makeEndlessWhatRepeats := by decide +kernel
theorem flX2_makeEndlessWhatRepeats_16 : Cond.fieldLink RX2 16 RX2 (TX2 5).2.1 (TX2 5).2.2.1 ∈ wsX2_makeEndlessWhatRepeats := by decide +kernel
theorem flX2_makeEndlessWhatRepeats_23 : Cond.fieldLink RX2 23 RX2 (TX2 7).2.1 (TX2 7).2.2.1 ∈ wsX2_makeEndlessWhatRepeats := by decide +kernel
abbrev hitP (μ : St) (n a : Nat) : Prop := (∀ q : Nat, q < 6 → μ (24 + a) q ≤ μ (24 + n) q) ∧ ¬ (∀ q : Nat, q < 6 → μ (24 + n) q = μ (24 + a) q)
def hitS (μ : St) (n a : Nat) (d : Int) : St := if hitP μ n a then noteS (preS μ (24 + n) 6 (moreV μ (24 + n) (24 + a))) n d else μ
def repS : Nat → St → Nat → Nat → St
  | 0, μ, n, a => hitS μ n a 0
  | d + 1, μ, n, a => repS d (hitS μ n a ((d + 1 : Nat) : Int)) n (μ 124 a).toNat
theorem repS_succ (d : Nat) (μ : St) (n a : Nat) : repS (d + 1) μ n a = repS d (hitS μ n a ((d + 1 : Nat) : Int)) n (μ 124 a).toNat := rfl
theorem noteS_ne (μ : St) (n d : Int) {x : Nat} (h : x ≠ 22) (k : Int) : noteS μ n d x k = μ x k := by
  unfold noteS
  split
  · rw [updS_ne _ _ _ _ h, updS_ne _ _ _ _ h]
  · rfl
theorem hitS_ne (μ : St) (n a : Nat) (d : Int) {x : Nat} (h : x ≠ 22) (h2 : x ≠ 24 + n) (k : Int) : hitS μ n a d x k = μ x k := by
  unfold hitS
  split
  · rw [noteS_ne _ _ _ h, preS_ne _ _ _ _ h2]
  · rfl
theorem repS_ne : ∀ (d : Nat) (μ : St) (n a : Nat) {x : Nat} (h : x ≠ 22) (h2 : x ≠ 24 + n) (k : Int), repS d μ n a x k = μ x k
  | 0, μ, n, a, x, h, h2, k => hitS_ne μ n a 0 h h2 k
  | d + 1, μ, n, a, x, h, h2, k => by
    unfold repS
    rw [repS_ne d _ _ _ h h2, hitS_ne _ _ _ _ h h2]
/- the nodes below n are a tree, with their depths -/
def chP (μ : St) (n : Nat) : Prop := ∀ i : Nat, i < n → (i = 0 ∧ μ 126 i = 0) ∨ ∃ j e : Nat, j < i ∧ μ 124 i = j ∧ μ 126 j = e ∧ μ 126 i = ((e + 1 : Nat) : Int)
theorem chP_le {μ : St} {n : Nat} (h : chP μ n) : ∀ i : Nat, i < n → ∃ e : Nat, μ 126 i = e ∧ e ≤ i := by
  intro i
  induction i using Nat.strongRecOn with
  | ind i ih =>
    intro hi
    rcases h i hi with ⟨e1, e2⟩ | ⟨j, e, hj, -, h3, h4⟩
    · exact ⟨0, by rw [e2]; rfl, Nat.zero_le _⟩
    · obtain ⟨e2, h5, h6⟩ := ih j hj (by omega)
      exact ⟨e + 1, h4, by rw [h3] at h5; omega⟩
set_option maxHeartbeats 4000000 in
set_option maxRecDepth 100000 in
theorem c_rep {l : Launch} (hlf : l.stackTraces = false) (D : va_G) (cy : Nat → ClassId) (B : Nat) {μ : St} {n a0 d0 : Nat} (hn : n < 100) (ha0 : a0 < n) (hp : μ 124 n = a0) (hdn : μ 126 n = ((d0 + 1 : Nat) : Int)) (hd0 : μ 126 a0 = d0) (hch : chP μ n) : PC l D cy B yX2_makeEndlessWhatRepeats wsX2_makeEndlessWhatRepeats (r0 1) [.ref (B + 22), iN n] μ (ret0 (repS d0 μ n a0)) noX := by
  refine PC.pre (fun hR => ?_)
  refine q_start (cc := cX2_makeEndlessWhatRepeats) (maxL := 6) (ret := none) hlf (by decide +kernel) rfl (by simp [Value.category]) (Nat.le_of_ble_eq_true rfl) ?_
  intro p e s m args below meth c C hret hno
  show PW p l e (r0 1) s m args below meth c D cy B 6 0 0 _ 0 [some (.ref (B + 22)), some (iN n), none, none, none, none] [] μ
  have L : ∀ (d a : Nat) (σ : St), a < n → σ 126 a = d → (∀ x k, x ≠ 22 → x ≠ 24 + n → σ x k = μ x k) → repS d σ n a = repS d0 μ n a0 → PW p l e (r0 1) s m args below meth c D cy B 6 0 0 (vx_MQ below (Qp D cy B (ret0 (repS d0 μ n a0))) (Xp D cy B noX) args s (r0 1).cells (r0 1).slots (fun q => B ≤ q)) 24 [some (.ref (B + 22)), some (iN n), some (.ref (B + (24 + n))), some (iN a), some (iN d), none] [] σ := by
    intro d
    induction d with
    | zero =>
      intro a σ ha hda hσ hfin
      have T : ∀ σ2 : St, σ2 = hitS σ n a 0 → PW p l e (r0 1) s m args below meth c D cy B 6 0 0 (vx_MQ below (Qp D cy B (ret0 (repS d0 μ n a0))) (Xp D cy B noX) args s (r0 1).cells (r0 1).slots (fun q => B ≤ q)) 69 [some (.ref (B + 22)), some (iN n), some (.ref (B + (24 + n))), some (iN a), some (iN 0), none] [] σ2 := by
        intro σ2 e2
        refine q_aload_n (pc := 69) C dX2_makeEndlessWhatRepeats_69 rfl rfl ?_
        refine q_getR (pc := 70) (ci := 2) (k := 5) (r := 124) C rfl fiX2_makeEndlessWhatRepeats_X2 (by decide) k22 (by decide) rfl (by decide) flX2_makeEndlessWhatRepeats_16 rfl rfl dX2_makeEndlessWhatRepeats_70 ?_
        refine q_iload_n (pc := 73) C dX2_makeEndlessWhatRepeats_73 rfl rfl ?_
        refine q_iaload (pc := 74) C k124 n124 (by decide) (by decide) (by omega) (by omega) dX2_makeEndlessWhatRepeats_74 ?_
        refine q_istore_n (pc := 75) (lv2 := [_, _, _, _, _, _]) C dX2_makeEndlessWhatRepeats_75 rfl (by decide) rfl ?_
        refine q_iinc (pc := 76) (lv2 := [_, _, _, _, _, _]) C dX2_makeEndlessWhatRepeats_76 (by decide) rfl rfl ?_
        refine q_goto (pc := 79) (tgt := 24) C dX2_makeEndlessWhatRepeats_79 (by decide) ?_
        refine q_iload (pc := 24) C dX2_makeEndlessWhatRepeats_24 rfl ?_
        refine q_if_lt (pc := 26) (tgt := 82) C (by first | exact hR _ _ | exact hRo _ _ | assumption | exact ⟨by omega, by omega⟩) dX2_makeEndlessWhatRepeats_26 (by decide) (fun hq => ?_) (fun hq => ?_)
        · exact q_vret (pc := 82) C hret ⟨rfl, by rw [e2]; exact hfin⟩ (by decide) (by decide) dX2_makeEndlessWhatRepeats_82
        · exact absurd (show (0 : Int) + -1 < 0 by decide) hq
      have hdI : ((0 : Nat) : Int) = 0 := rfl
      refine q_iload (pc := 24) C dX2_makeEndlessWhatRepeats_24 rfl ?_
      refine q_if_lt (pc := 26) (tgt := 82) C (by first | exact hR _ _ | exact hRo _ _ | assumption | exact ⟨by omega, by omega⟩) dX2_makeEndlessWhatRepeats_26 (by decide) (fun hq => ?_) (fun hq => ?_)
      · exact absurd hq (by omega)
      · refine q_aload_n (pc := 29) C dX2_makeEndlessWhatRepeats_29 rfl rfl ?_
        refine q_getR (pc := 30) (ci := 2) (k := 4) (r := 23) C rfl fiX2_makeEndlessWhatRepeats_X2 (by decide) k22 (by decide) rfl (by decide) flX2_makeEndlessWhatRepeats_11 rfl rfl dX2_makeEndlessWhatRepeats_30 ?_
        refine q_iload_n (pc := 33) C dX2_makeEndlessWhatRepeats_33 rfl rfl ?_
        first | refine q_aaloadN (pc := 34) C k23 n23 (by decide) (by decide) (by omega) rfl dX2_makeEndlessWhatRepeats_34 ?_ | refine q_aaload (pc := 34) C k23 n23 (by decide) (by decide) (by omega) (by omega) rfl dX2_makeEndlessWhatRepeats_34 ?_
        refine q_astore (pc := 35) (lv2 := [_, _, _, _, _, _]) C dX2_makeEndlessWhatRepeats_35 (by decide) rfl ?_
        refine q_aload_n (pc := 37) C dX2_makeEndlessWhatRepeats_37 rfl rfl ?_
        refine q_aload (pc := 38) C dX2_makeEndlessWhatRepeats_38 rfl ?_
        refine q_callSN (pc := 40) (As := [_, _]) (rest := []) C (c_covers hlf D cy B (a := 24 + n) (b := 24 + a) (k_r23 (by omega)) (n_r23 (by omega)) (l_r23 (by omega)) (k_r23 (by omega)) (n_r23 (by omega)) (l_r23 (by omega))) ⟨va_cnB (host := "CoverTrees") (index := 76) 2 C.2.2.2.2.1 gX2_makeEndlessWhatRepeats_X3_covers_n76 rfl rfl rfl (C.2.2.2.2.2.1.2.2.1 (RX2, 76, yX3_covers) (by decide +kernel)) (C.2.2.2.2.1 _ (by decide +kernel)) (by decide +kernel) ⟨Nat.le_of_ble_eq_true rfl, Nat.le_of_ble_eq_true rfl⟩, C.2.2.2.2.1 _ (by decide +kernel), trivial⟩ rfl rfl (by first | decide | simp [Value.category]) dX2_makeEndlessWhatRepeats_40 (by decide) (fun _ _ h => h.elim) (fun v σ9 hv => ?_)
        obtain ⟨rfl, rfl⟩ := hv
        have hz := bI_01 (∀ q : Nat, q < 6 → σ9 (24 + a) q ≤ σ9 (24 + n) q)
        refine q_if_eq (pc := 43) (tgt := 69) C (by first | exact hR _ _ | exact hRo _ _ | assumption | exact ⟨by omega, by omega⟩) dX2_makeEndlessWhatRepeats_43 (by decide) (fun hr => ?_) (fun hr => ?_)
        · refine q_drop 5 (lv2 := [_, _, _, _, _, none]) rfl ?_
          exact T σ9 (by unfold hitS; rw [if_neg (fun z => bI_0.mp hr z.1)])
        · have hcv := bI_1.mp (show bI (∀ q : Nat, q < 6 → σ9 (24 + a) q ≤ σ9 (24 + n) q) = 1 by omega)
          refine q_aload_n (pc := 46) C dX2_makeEndlessWhatRepeats_46 rfl rfl ?_
          refine q_aload (pc := 47) C dX2_makeEndlessWhatRepeats_47 rfl ?_
          refine q_callSN (pc := 49) (As := [_, _]) (rest := []) C (c_same hlf D cy B (a := 24 + n) (b := 24 + a) (k_r23 (by omega)) (n_r23 (by omega)) (l_r23 (by omega)) (k_r23 (by omega)) (n_r23 (by omega)) (l_r23 (by omega))) ⟨va_cnB (host := "CoverTrees") (index := 80) 2 C.2.2.2.2.1 gX2_makeEndlessWhatRepeats_X3_same_n80 rfl rfl rfl (C.2.2.2.2.2.1.2.2.1 (RX2, 80, yX3_same) (by decide +kernel)) (C.2.2.2.2.1 _ (by decide +kernel)) (by decide +kernel) ⟨Nat.le_of_ble_eq_true rfl, Nat.le_of_ble_eq_true rfl⟩, C.2.2.2.2.1 _ (by decide +kernel), trivial⟩ rfl rfl (by first | decide | simp [Value.category]) dX2_makeEndlessWhatRepeats_49 (by decide) (fun _ _ h => h.elim) (fun v σ8 hv => ?_)
          obtain ⟨rfl, rfl⟩ := hv
          have hz2 := bI_01 (∀ q : Nat, q < 6 → σ8 (24 + n) q = σ8 (24 + a) q)
          refine q_if_ne (pc := 52) (tgt := 69) C (by first | exact hR _ _ | exact hRo _ _ | assumption | exact ⟨by omega, by omega⟩) dX2_makeEndlessWhatRepeats_52 (by decide) (fun hr2 => ?_) (fun hr2 => ?_)
          · have hsm := bI_1.mp (show bI (∀ q : Nat, q < 6 → σ8 (24 + n) q = σ8 (24 + a) q) = 1 by omega)
            refine q_drop 5 (lv2 := [_, _, _, _, _, none]) rfl ?_
            exact T σ8 (by unfold hitS; rw [if_neg (fun z => z.2 hsm)])
          · refine q_aload_n (pc := 55) C dX2_makeEndlessWhatRepeats_55 rfl rfl ?_
            refine q_aload_n (pc := 56) C dX2_makeEndlessWhatRepeats_56 rfl rfl ?_
            refine q_aload (pc := 57) C dX2_makeEndlessWhatRepeats_57 rfl ?_
            refine q_callV (pc := 59) (As := [_, _]) (rest := []) C (c_more hlf D cy B (a := 24 + n) (b := 24 + a) (k_r23 (by omega)) (n_r23 (by omega)) (l_r23 (by omega)) (k_r23 (by omega)) (n_r23 (by omega)) (l_r23 (by omega)) (by omega)) (cwV 2 C.2.2.2.2.1 gX2_makeEndlessWhatRepeats_X2_makeEndlessWhereMore rfl rfl rfl (by decide +kernel) ⟨Nat.le_of_ble_eq_true rfl, Nat.le_of_ble_eq_true rfl⟩) (ci := 2) rfl k22 (by decide) (by decide) rfl rfl (by first | decide | simp [Value.category]) dX2_makeEndlessWhatRepeats_59 (by decide) (fun _ _ h => h.elim) (fun v σ7 hv => ?_)
            obtain ⟨rfl, rfl⟩ := hv
            refine q_aload_n (pc := 62) C dX2_makeEndlessWhatRepeats_62 rfl rfl ?_
            refine q_iload_n (pc := 63) C dX2_makeEndlessWhatRepeats_63 rfl rfl ?_
            refine q_iload (pc := 64) C dX2_makeEndlessWhatRepeats_64 rfl ?_
            refine q_callV (pc := 66) (As := [_, _]) (rest := []) C (c_note hlf D cy B (n := n) (d := 0) ⟨by omega, by omega⟩ ⟨by omega, by omega⟩) (cwV 2 C.2.2.2.2.1 gX2_makeEndlessWhatRepeats_X2_noteFirstEndless rfl rfl rfl (by decide +kernel) ⟨Nat.le_of_ble_eq_true rfl, Nat.le_of_ble_eq_true rfl⟩) (ci := 2) rfl k22 (by decide) (by decide) rfl rfl (by first | decide | simp [Value.category]) dX2_makeEndlessWhatRepeats_66 (by decide) (fun _ _ h => h.elim) (fun v σ6 hv => ?_)
            obtain ⟨rfl, rfl⟩ := hv
            refine q_drop 5 (lv2 := [_, _, _, _, _, none]) rfl ?_
            exact T _ (by unfold hitS; rw [if_pos ⟨hcv, bI_0.mp hr2⟩])
    | succ d ih =>
      intro a σ ha hda hσ hfin
      obtain ⟨e1, e2⟩ | ⟨j, e3, hj, hp1, hp2, hp3⟩ := hch a ha
      · rw [hσ 126 _ (by decide) (by omega)] at hda
        rw [e2] at hda
        omega
      have hda2 := hda
      rw [hσ 126 _ (by decide) (by omega), hp3] at hda2
      have he3 : e3 = d := by omega
      obtain ⟨e5, h51, h52⟩ := chP_le hch a ha
      have hdlt : d < 100 := by omega
      have T : ∀ σ2 : St, σ2 = hitS σ n a ((d + 1 : Nat) : Int) → PW p l e (r0 1) s m args below meth c D cy B 6 0 0 (vx_MQ below (Qp D cy B (ret0 (repS d0 μ n a0))) (Xp D cy B noX) args s (r0 1).cells (r0 1).slots (fun q => B ≤ q)) 69 [some (.ref (B + 22)), some (iN n), some (.ref (B + (24 + n))), some (iN a), some (iN ((d + 1 : Nat) : Int)), none] [] σ2 := by
        intro σ2 e2
        have hs2 : ∀ x k, x ≠ 22 → x ≠ 24 + n → σ2 x k = μ x k := fun x k h1 h2 => by rw [e2, hitS_ne _ _ _ _ h1 h2]; exact hσ x k h1 h2
        refine q_aload_n (pc := 69) C dX2_makeEndlessWhatRepeats_69 rfl rfl ?_
        refine q_getR (pc := 70) (ci := 2) (k := 5) (r := 124) C rfl fiX2_makeEndlessWhatRepeats_X2 (by decide) k22 (by decide) rfl (by decide) flX2_makeEndlessWhatRepeats_16 rfl rfl dX2_makeEndlessWhatRepeats_70 ?_
        refine q_iload_n (pc := 73) C dX2_makeEndlessWhatRepeats_73 rfl rfl ?_
        refine q_iaload (pc := 74) C k124 n124 (by decide) (by decide) (by omega) (by omega) dX2_makeEndlessWhatRepeats_74 ?_
        refine q_istore_n (pc := 75) (lv2 := [_, _, _, _, _, _]) C dX2_makeEndlessWhatRepeats_75 rfl (by decide) rfl ?_
        rw [hs2 124 _ (by decide) (by omega), hp1]
        refine q_iinc (pc := 76) (lv2 := [_, _, _, _, _, _]) C dX2_makeEndlessWhatRepeats_76 (by decide) rfl rfl ?_
        refine q_goto (pc := 79) (tgt := 24) C dX2_makeEndlessWhatRepeats_79 (by decide) ?_
        rw [show ((d + 1 : Nat) : Int) + -1 = (d : Int) by omega]
        refine ih j σ2 (by omega) ?_ hs2 ?_
        · rw [hs2 126 _ (by decide) (by omega), hp2, he3]
        · rw [e2, ← hfin]
          rw [repS_succ, hσ 124 _ (by decide) (by omega), hp1]
          rfl
      refine q_iload (pc := 24) C dX2_makeEndlessWhatRepeats_24 rfl ?_
      refine q_if_lt (pc := 26) (tgt := 82) C (by first | exact hR _ _ | exact hRo _ _ | assumption | exact ⟨by omega, by omega⟩) dX2_makeEndlessWhatRepeats_26 (by decide) (fun hq => ?_) (fun hq => ?_)
      · exact absurd hq (by omega)
      · refine q_aload_n (pc := 29) C dX2_makeEndlessWhatRepeats_29 rfl rfl ?_
        refine q_getR (pc := 30) (ci := 2) (k := 4) (r := 23) C rfl fiX2_makeEndlessWhatRepeats_X2 (by decide) k22 (by decide) rfl (by decide) flX2_makeEndlessWhatRepeats_11 rfl rfl dX2_makeEndlessWhatRepeats_30 ?_
        refine q_iload_n (pc := 33) C dX2_makeEndlessWhatRepeats_33 rfl rfl ?_
        first | refine q_aaloadN (pc := 34) C k23 n23 (by decide) (by decide) (by omega) rfl dX2_makeEndlessWhatRepeats_34 ?_ | refine q_aaload (pc := 34) C k23 n23 (by decide) (by decide) (by omega) (by omega) rfl dX2_makeEndlessWhatRepeats_34 ?_
        refine q_astore (pc := 35) (lv2 := [_, _, _, _, _, _]) C dX2_makeEndlessWhatRepeats_35 (by decide) rfl ?_
        refine q_aload_n (pc := 37) C dX2_makeEndlessWhatRepeats_37 rfl rfl ?_
        refine q_aload (pc := 38) C dX2_makeEndlessWhatRepeats_38 rfl ?_
        refine q_callSN (pc := 40) (As := [_, _]) (rest := []) C (c_covers hlf D cy B (a := 24 + n) (b := 24 + a) (k_r23 (by omega)) (n_r23 (by omega)) (l_r23 (by omega)) (k_r23 (by omega)) (n_r23 (by omega)) (l_r23 (by omega))) ⟨va_cnB (host := "CoverTrees") (index := 76) 2 C.2.2.2.2.1 gX2_makeEndlessWhatRepeats_X3_covers_n76 rfl rfl rfl (C.2.2.2.2.2.1.2.2.1 (RX2, 76, yX3_covers) (by decide +kernel)) (C.2.2.2.2.1 _ (by decide +kernel)) (by decide +kernel) ⟨Nat.le_of_ble_eq_true rfl, Nat.le_of_ble_eq_true rfl⟩, C.2.2.2.2.1 _ (by decide +kernel), trivial⟩ rfl rfl (by first | decide | simp [Value.category]) dX2_makeEndlessWhatRepeats_40 (by decide) (fun _ _ h => h.elim) (fun v σ9 hv => ?_)
        obtain ⟨rfl, rfl⟩ := hv
        have hz := bI_01 (∀ q : Nat, q < 6 → σ9 (24 + a) q ≤ σ9 (24 + n) q)
        refine q_if_eq (pc := 43) (tgt := 69) C (by first | exact hR _ _ | exact hRo _ _ | assumption | exact ⟨by omega, by omega⟩) dX2_makeEndlessWhatRepeats_43 (by decide) (fun hr => ?_) (fun hr => ?_)
        · refine q_drop 5 (lv2 := [_, _, _, _, _, none]) rfl ?_
          exact T σ9 (by unfold hitS; rw [if_neg (fun z => bI_0.mp hr z.1)])
        · have hcv := bI_1.mp (show bI (∀ q : Nat, q < 6 → σ9 (24 + a) q ≤ σ9 (24 + n) q) = 1 by omega)
          refine q_aload_n (pc := 46) C dX2_makeEndlessWhatRepeats_46 rfl rfl ?_
          refine q_aload (pc := 47) C dX2_makeEndlessWhatRepeats_47 rfl ?_
          refine q_callSN (pc := 49) (As := [_, _]) (rest := []) C (c_same hlf D cy B (a := 24 + n) (b := 24 + a) (k_r23 (by omega)) (n_r23 (by omega)) (l_r23 (by omega)) (k_r23 (by omega)) (n_r23 (by omega)) (l_r23 (by omega))) ⟨va_cnB (host := "CoverTrees") (index := 80) 2 C.2.2.2.2.1 gX2_makeEndlessWhatRepeats_X3_same_n80 rfl rfl rfl (C.2.2.2.2.2.1.2.2.1 (RX2, 80, yX3_same) (by decide +kernel)) (C.2.2.2.2.1 _ (by decide +kernel)) (by decide +kernel) ⟨Nat.le_of_ble_eq_true rfl, Nat.le_of_ble_eq_true rfl⟩, C.2.2.2.2.1 _ (by decide +kernel), trivial⟩ rfl rfl (by first | decide | simp [Value.category]) dX2_makeEndlessWhatRepeats_49 (by decide) (fun _ _ h => h.elim) (fun v σ8 hv => ?_)
          obtain ⟨rfl, rfl⟩ := hv
          have hz2 := bI_01 (∀ q : Nat, q < 6 → σ8 (24 + n) q = σ8 (24 + a) q)
          refine q_if_ne (pc := 52) (tgt := 69) C (by first | exact hR _ _ | exact hRo _ _ | assumption | exact ⟨by omega, by omega⟩) dX2_makeEndlessWhatRepeats_52 (by decide) (fun hr2 => ?_) (fun hr2 => ?_)
          · have hsm := bI_1.mp (show bI (∀ q : Nat, q < 6 → σ8 (24 + n) q = σ8 (24 + a) q) = 1 by omega)
            refine q_drop 5 (lv2 := [_, _, _, _, _, none]) rfl ?_
            exact T σ8 (by unfold hitS; rw [if_neg (fun z => z.2 hsm)])
          · refine q_aload_n (pc := 55) C dX2_makeEndlessWhatRepeats_55 rfl rfl ?_
            refine q_aload_n (pc := 56) C dX2_makeEndlessWhatRepeats_56 rfl rfl ?_
            refine q_aload (pc := 57) C dX2_makeEndlessWhatRepeats_57 rfl ?_
            refine q_callV (pc := 59) (As := [_, _]) (rest := []) C (c_more hlf D cy B (a := 24 + n) (b := 24 + a) (k_r23 (by omega)) (n_r23 (by omega)) (l_r23 (by omega)) (k_r23 (by omega)) (n_r23 (by omega)) (l_r23 (by omega)) (by omega)) (cwV 2 C.2.2.2.2.1 gX2_makeEndlessWhatRepeats_X2_makeEndlessWhereMore rfl rfl rfl (by decide +kernel) ⟨Nat.le_of_ble_eq_true rfl, Nat.le_of_ble_eq_true rfl⟩) (ci := 2) rfl k22 (by decide) (by decide) rfl rfl (by first | decide | simp [Value.category]) dX2_makeEndlessWhatRepeats_59 (by decide) (fun _ _ h => h.elim) (fun v σ7 hv => ?_)
            obtain ⟨rfl, rfl⟩ := hv
            refine q_aload_n (pc := 62) C dX2_makeEndlessWhatRepeats_62 rfl rfl ?_
            refine q_iload_n (pc := 63) C dX2_makeEndlessWhatRepeats_63 rfl rfl ?_
            refine q_iload (pc := 64) C dX2_makeEndlessWhatRepeats_64 rfl ?_
            refine q_callV (pc := 66) (As := [_, _]) (rest := []) C (c_note hlf D cy B (n := n) (d := ((d + 1 : Nat) : Int)) ⟨by omega, by omega⟩ ⟨by omega, by omega⟩) (cwV 2 C.2.2.2.2.1 gX2_makeEndlessWhatRepeats_X2_noteFirstEndless rfl rfl rfl (by decide +kernel) ⟨Nat.le_of_ble_eq_true rfl, Nat.le_of_ble_eq_true rfl⟩) (ci := 2) rfl k22 (by decide) (by decide) rfl rfl (by first | decide | simp [Value.category]) dX2_makeEndlessWhatRepeats_66 (by decide) (fun _ _ h => h.elim) (fun v σ6 hv => ?_)
            obtain ⟨rfl, rfl⟩ := hv
            refine q_drop 5 (lv2 := [_, _, _, _, _, none]) rfl ?_
            exact T _ (by unfold hitS; rw [if_pos ⟨hcv, bI_0.mp hr2⟩])
  refine q_aload_n (pc := 0) C dX2_makeEndlessWhatRepeats_0 rfl rfl ?_
  refine q_getR (pc := 1) (ci := 2) (k := 4) (r := 23) C rfl fiX2_makeEndlessWhatRepeats_X2 (by decide) k22 (by decide) rfl (by decide) flX2_makeEndlessWhatRepeats_11 rfl rfl dX2_makeEndlessWhatRepeats_1 ?_
  refine q_iload_n (pc := 4) C dX2_makeEndlessWhatRepeats_4 rfl rfl ?_
  first | refine q_aaloadN (pc := 5) C k23 n23 (by decide) (by decide) (by omega) rfl dX2_makeEndlessWhatRepeats_5 ?_ | refine q_aaload (pc := 5) C k23 n23 (by decide) (by decide) (by omega) (by omega) rfl dX2_makeEndlessWhatRepeats_5 ?_
  refine q_astore_n (pc := 6) (lv2 := [_, _, _, _, _, _]) C dX2_makeEndlessWhatRepeats_6 rfl (by decide) rfl ?_
  refine q_aload_n (pc := 7) C dX2_makeEndlessWhatRepeats_7 rfl rfl ?_
  refine q_getR (pc := 8) (ci := 2) (k := 5) (r := 124) C rfl fiX2_makeEndlessWhatRepeats_X2 (by decide) k22 (by decide) rfl (by decide) flX2_makeEndlessWhatRepeats_16 rfl rfl dX2_makeEndlessWhatRepeats_8 ?_
  refine q_iload_n (pc := 11) C dX2_makeEndlessWhatRepeats_11 rfl rfl ?_
  refine q_iaload (pc := 12) C k124 n124 (by decide) (by decide) (by omega) (by omega) dX2_makeEndlessWhatRepeats_12 ?_
  rw [hp]
  refine q_istore_n (pc := 13) (lv2 := [_, _, _, _, _, _]) C dX2_makeEndlessWhatRepeats_13 rfl (by decide) rfl ?_
  refine q_aload_n (pc := 14) C dX2_makeEndlessWhatRepeats_14 rfl rfl ?_
  refine q_getR (pc := 15) (ci := 2) (k := 7) (r := 126) C rfl fiX2_makeEndlessWhatRepeats_X2 (by decide) k22 (by decide) rfl (by decide) flX2_makeEndlessWhatRepeats_23 rfl rfl dX2_makeEndlessWhatRepeats_15 ?_
  refine q_iload_n (pc := 18) C dX2_makeEndlessWhatRepeats_18 rfl rfl ?_
  refine q_iaload (pc := 19) C k126 n126 (by decide) (by decide) (by omega) (by omega) dX2_makeEndlessWhatRepeats_19 ?_
  refine q_iconst (pc := 20) C dX2_makeEndlessWhatRepeats_20 ?_
  refine q_isub (pc := 21) C dX2_makeEndlessWhatRepeats_21 ?_
  refine q_istore (pc := 22) (lv2 := [_, _, _, _, _, _]) C dX2_makeEndlessWhatRepeats_22 (by decide) rfl ?_
  rw [hdn, show ((d0 + 1 : Nat) : Int) - 1 = (d0 : Int) by omega]
  exact L d0 a0 μ ha0 hd0 (fun _ _ _ _ => rfl) rfl

