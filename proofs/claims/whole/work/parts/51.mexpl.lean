theorem fiX4_explore_X4 : ∀ w ∈ u_ws RX4 TX4 22, w ∈ wsX4_explore := by decide +kernel
theorem flX4_explore_63 : Cond.fieldLink RX4 63 RX4 (TX4 0).2.1 (TX4 0).2.2.1 ∈ wsX4_explore := by decide +kernel
theorem flX4_explore_66 : Cond.fieldLink RX4 66 RX4 (TX4 1).2.1 (TX4 1).2.2.1 ∈ wsX4_explore := by decide +kernel
theorem flX4_explore_69 : Cond.fieldLink RX4 69 RX4 (TX4 2).2.1 (TX4 2).2.2.1 ∈ wsX4_explore := by decide +kernel
theorem flX4_explore_7 : Cond.fieldLink RX4 7 RX4 (TX4 3).2.1 (TX4 3).2.2.1 ∈ wsX4_explore := by decide +kernel
theorem flX4_explore_22 : Cond.fieldLink RX4 22 RX4 (TX4 7).2.1 (TX4 7).2.2.1 ∈ wsX4_explore := by decide +kernel
theorem flX4_explore_29 : Cond.fieldLink RX4 29 RX4 (TX4 9).2.1 (TX4 9).2.2.1 ∈ wsX4_explore := by decide +kernel
theorem flX4_explore_35 : Cond.fieldLink RX4 35 RX4 (TX4 11).2.1 (TX4 11).2.2.1 ∈ wsX4_explore := by decide +kernel
theorem flX4_explore_38 : Cond.fieldLink RX4 38 RX4 (TX4 12).2.1 (TX4 12).2.2.1 ∈ wsX4_explore := by decide +kernel
theorem flX4_explore_89 : Cond.fieldLink RX4 89 RX4 (TX4 13).2.1 (TX4 13).2.2.1 ∈ wsX4_explore := by decide +kernel
theorem flX4_explore_92 : Cond.fieldLink RX4 92 RX4 (TX4 14).2.1 (TX4 14).2.2.1 ∈ wsX4_explore := by decide +kernel
theorem flX4_explore_60 : Cond.fieldLink RX4 60 RX4 (TX4 21).2.1 (TX4 21).2.2.1 ∈ wsX4_explore := by decide +kernel
theorem adN_lo (κ : St) (P n : Nat) (u t : Int) {x : Nat} (j : Int) (h1 : x ≠ 216) (h2 : x ≠ 221) (h3 : x ≠ 222) (h4 : x ≠ 223) (h5 : x ≠ 224) (h6 : x ≠ 225) : adN κ P n u t x j = κ x j := by
  unfold adN ad1
  rw [updS_ne _ _ _ _ h1, updS_ne _ _ _ _ h5, updS_ne _ _ _ _ h4, updS_ne _ _ _ _ h3, blkS_ne _ _ _ _ _ h2, updS_ne _ _ _ _ h6]
theorem adN_16 (κ : St) (P n : Nat) (u t : Int) {j : Int} (h1 : j ≠ 7) : adN κ P n u t 216 j = κ 216 j := by
  unfold adN ad1
  rw [updS_nk _ _ _ _ h1, updS_ne _ _ _ _ (by decide), updS_ne _ _ _ _ (by decide), updS_ne _ _ _ _ (by decide), blkS_ne _ _ _ _ _ (by decide), updS_ne _ _ _ _ (by decide)]
theorem adN_7 (κ : St) (P n : Nat) (u t : Int) : adN κ P n u t 216 7 = ((n + 1 : Nat) : Int) := by
  unfold adN
  rw [updS_self]
  omega
theorem adN_24 (κ : St) (P n : Nat) (u t : Int) (j : Int) : adN κ P n u t 224 j = if j = n then 0 else κ 224 j := by
  unfold adN ad1
  rw [updS_ne _ _ _ _ (by decide), updS_ap]
  by_cases h : j = n
  · rw [if_pos ⟨rfl, h⟩, if_pos h]
  · rw [if_neg (fun z => h z.2), if_neg h, updS_ne _ _ _ _ (by decide), updS_ne _ _ _ _ (by decide), blkS_ne _ _ _ _ _ (by decide), updS_ne _ _ _ _ (by decide)]
def nxo (σ μ : St) : Nat → Nat → Nat → Prop
  | 0, u, t => μ 224 u = t
  | d + 1, u, t => μ 224 u = t ∧ nxo σ μ d (σ 124 u).toNat ((σ 125 u).toNat + 1)
theorem nxo_t {σ μ : St} {d u t : Nat} (h : nxo σ μ d u t) : μ 224 u = t := by
  cases d with
  | zero => exact h
  | succ d => exact h.1
theorem nxo_congr {σ ρ μ κ : St} {n : Nat} (hch : chP σ n) : ∀ (d u t : Nat), u < n → σ 126 u = d → (∀ i : Nat, i ≤ u → κ 224 i = μ 224 i ∧ ρ 124 i = σ 124 i ∧ ρ 125 i = σ 125 i) → nxo σ μ d u t → nxo ρ κ d u t
  | 0, u, t, hu, hd, e, h => by
    show κ 224 u = t
    rw [(e u (Nat.le_refl _)).1]
    exact h
  | d + 1, u, t, hu, hd, e, h => by
    rcases hch u hu with ⟨z1, z2⟩ | ⟨j, f, hj, z1, z2, z3⟩
    · omega
    · refine ⟨by rw [(e u (Nat.le_refl _)).1]; exact h.1, ?_⟩
      have h2 := h.2
      rw [(e u (Nat.le_refl _)).2.1, (e u (Nat.le_refl _)).2.2]
      rw [z1] at h2 ⊢
      exact nxo_congr hch d j _ (by omega) (by rw [z2]; omega) (fun i hi => e i (by have : i ≤ j := hi; omega)) h2
theorem nxo_up {σ μ : St} {n d u t : Nat} {b : Int} (hch : chP σ n) (hu : u < n) (hd : σ 126 u = d) (h : nxo σ μ d u t) {t2 : Nat} (hb : b = t2) : nxo σ (updS μ 224 u b) d u t2 := by
  cases d with
  | zero => show updS μ 224 u b 224 u = _; rw [updS_self, hb]
  | succ d =>
    refine ⟨by rw [updS_self, hb], ?_⟩
    rcases hch u hu with ⟨z1, z2⟩ | ⟨j, f, hj, z1, z2, z3⟩
    · omega
    · have h2 := h.2
      rw [z1] at h2 ⊢
      exact nxo_congr hch d j _ (by omega) (by rw [z2]; omega) (fun i hi => ⟨updS_nk _ _ _ _ (by have : i ≤ j := hi; omega), rfl, rfl⟩) h2
def kpM (x : Nat) (j : Int) : Prop := x < 216 ∨ (217 ≤ x ∧ x ≤ 220) ∨ (226 ≤ x ∧ x ≤ 230) ∨ x = 232 ∨ (x = 216 ∧ (j = 1 ∨ j = 2))
def frM (μ κ : St) : Prop := ∀ x j, kpM x j → κ x j = μ x j
theorem MT_ne {σ μ κ : St} {P n : Nat} (h : MT σ μ P n) (e : ∀ x j, 221 ≤ x → x ≤ 225 → x ≠ 224 → κ x j = μ x j) (e2 : κ 216 13 = μ 216 13) (e3 : κ 216 14 = μ 216 14) : MT σ κ P n := by
  obtain ⟨h1, h2, h3, h4, h5⟩ := h
  refine ⟨fun i q hi hq => by rw [e _ _ (by decide) (by decide) (by decide)]; exact h1 i q hi hq, fun i hi => by rw [e _ _ (by decide) (by decide) (by decide)]; exact h2 i hi, fun i hi => by rw [e _ _ (by decide) (by decide) (by decide)]; exact h3 i hi, fun i hi => by rw [e _ _ (by decide) (by decide) (by decide)]; exact h4 i hi, ?_⟩
  unfold MG
  rw [e2, e3]
  exact h5
theorem root_cpl {ν κ : St} {P T : Nat} (hN : NI ν P T) (hZ : NZ ν P) (hw : ∀ q : Nat, q < P → κ 231 q = ν 2 q) (h13 : κ 216 13 = -1) : MT (rootS ν) (adN κ P 0 (-1) (-2)) P 1 := by
  have h6 := hN.1
  refine ⟨?_, ?_, ?_, ?_, ?_⟩
  · intro i q hi hq
    have : i = 0 := by omega
    subst this
    have hf := hN.2.2.2.2.1 q hq
    rw [rootS_24 ν hq]
    refine ⟨fun hqP => ?_, fun hqP => (hZ q hq hqP).1⟩
    rw [w3_s (by omega), ← hw q hqP]
    unfold adN ad1
    rw [updS_ne _ _ _ _ (by decide), updS_ne _ _ _ _ (by decide), updS_ne _ _ _ _ (by decide), updS_ne _ _ _ _ (by decide), blkS_ap, if_pos ⟨rfl, by show 6 * (0 : Int) ≤ 6 * (0 : Int) + (q : Int); omega, by show 6 * (0 : Int) + (q : Int) < 6 * (0 : Int) + (P : Int); omega⟩]
    rw [show ix 0 q - 6 * ((0 : Nat) : Int) = q by show 6 * (0 : Int) + (q : Int) - 6 * (0 : Int) = q; omega]
  · intro i hi
    have : i = 0 := by omega
    subst this
    simp [adN, ad1, updS_ap]
  · intro i hi
    have : i = 0 := by omega
    subst this
    simp [adN, ad1, updS_ap, rootS]
  · intro i hi
    have : i = 0 := by omega
    subst this
    have e0 : cpM κ P 0 = 0 := bI_f (by rintro ⟨j, hj, -⟩; omega)
    have e1 : adN κ P 0 (-1) (-2) 225 ((0 : Nat) : Int) = cpM κ P 0 := by
      unfold adN ad1
      rw [updS_ne _ _ _ _ (by decide), updS_ne _ _ _ _ (by decide), updS_ne _ _ _ _ (by decide), updS_ne _ _ _ _ (by decide), blkS_ne _ _ _ _ _ (by decide), updS_self]
    rw [e1, e0]
    simp [updS_ap, rootS]
  · refine Or.inl ⟨by simp [updS_ap, rootS], ?_⟩
    rw [adN_16 _ _ _ _ _ (by decide)]
    exact h13
def exQ (μ σf : St) (P nf k9 : Nat) (v : Int) (μ2 : St) : Prop := frM μ μ2 ∧ μ2 216 15 = -1 ∧ ((k9 = 1 ∧ v = nf ∧ μ2 216 0 = 0 ∧ μ2 216 7 = nf ∧ MT σf μ2 P nf) ∨ (k9 = 2 ∧ μ2 216 0 = 1 ∧ μ2 216 7 = -1))
set_option maxHeartbeats 4000000 in
set_option maxRecDepth 100000 in
theorem m_explore {l : Launch} (hlf : l.stackTraces = false) (D : va_G) (cy : Nat → ClassId) (B : Nat) {μ : St} {ν σf : St} {P T nf k9 : Nat} (hN : NI ν P T) (hM : MN ν μ P T) (hZ : NZ ν P) (hk9 : k9 = 1 ∨ k9 = 2) (hrun : runT 900 (rootS ν) 1 0 0 = (σf, nf, k9)) : PC l D cy B yX4_explore wsX4_explore (r0 2) [.ref (B + 216)] μ (qv (exQ μ σf P nf k9)) noX := by
  refine PC.pre (fun hR => ?_)
  refine q_start (cc := cX4_explore) (maxL := 3) (ret := (some .int)) hlf (by decide +kernel) rfl (by simp [Value.category]) (Nat.le_of_ble_eq_true rfl) ?_
  intro p e s m args below meth c C hret hno
  show PW p l e (r0 2) s m args below meth c D cy B 3 0 0 _ 0 [some (.ref (B + 216)), none, none] [] μ
  have hRo := hR
  have h6 := hN.1
  have h8 := hN.2.1
  have L : ∀ (k : Nat) (σ : St) (n u t : Nat) (κ : St), runT k σ n u t = (σf, nf, k9) → NI σ P T → TI σ T n → NZ σ P → u < n → t ≤ T → MN σ κ P T → MT σ κ P n → nxo σ κ (σ 126 u).toNat u t → κ 216 7 = n → κ 216 0 = 0 → κ 216 15 = -1 → frM μ κ → PW p l e (r0 2) s m args below meth c D cy B 3 0 0 (vx_MQ below (Qp D cy B (qv (exQ μ σf P nf k9))) (Xp D cy B noX) args s (r0 2).cells (r0 2).slots (fun q => B ≤ q)) 61 [some (.ref (B + 216)), some (iN u), none] [] κ := by
    intro k
    induction k with
    | zero =>
      intro σ n u t κ hr
      have : k9 = 0 := (congrArg (fun z => z.2.2) hr).symm
      omega
    | succ k ih =>
      intro σ n u t κ hr hN hT hZ hu ht hM hMT hnx h7 h0 h15 hfr
      have hT1 := hN.2.2.2.1
      have hch := hT.2.2.2.1
      have hn100 := hT.2.1
      obtain ⟨d, hd1, hd2⟩ := chP_le hch u hu
      have hdn : (σ 126 u).toNat = d := by rw [hd1]; rfl
      rw [hdn] at hnx
      have ht224 := nxo_t hnx
      have hT2 := hM.2.1
      have hco := hMT.2.2.2.1 u hu
      have hpa := hMT.2.1 u hu
      have h127 := hT.2.2.2.2.2.2.1 u hu
      rw [runT] at hr
      refine q_rng (fun hR => ?_)
      have UP : (σ 127 u = 1 ∨ (t : Int) = σ 1 1) → PW p l e (r0 2) s m args below meth c D cy B 3 0 0 (vx_MQ below (Qp D cy B (qv (exQ μ σf P nf k9))) (Xp D cy B noX) args s (r0 2).cells (r0 2).slots (fun q => B ≤ q)) 87 [some (.ref (B + 216)), some (iN u), none] [] κ := by
        intro hup
        rw [if_pos hup] at hr
        by_cases hu0 : u = 0
        · rw [if_pos hu0] at hr hpa
          have e1 : σ = σf := congrArg (fun z => z.1) hr
          have e2 : n = nf := congrArg (fun z => z.2.1) hr
          have e3 : 1 = k9 := congrArg (fun z => z.2.2) hr
          refine q_aload_n (pc := 87) C dX4_explore_87 rfl rfl ?_
          refine q_getR (pc := 88) (ci := 4) (k := 9) (r := 222) C rfl fiX4_explore_X4 (by decide) k216 (by decide) rfl (by decide) flX4_explore_29 rfl rfl dX4_explore_88 ?_
          refine q_iload_n (pc := 91) C dX4_explore_91 rfl rfl ?_
          refine q_iaload (pc := 92) C k222 n222 (by decide) (by decide) (by omega) (by omega) dX4_explore_92 ?_
          rw [hpa]
          refine q_istore_n (pc := 93) (lv2 := [_, _, _]) C dX4_explore_93 rfl (by decide) rfl ?_
          refine q_goto (pc := 94) (tgt := 61) C dX4_explore_94 (by decide) ?_
          refine q_iload_n (pc := 61) C dX4_explore_61 rfl rfl ?_
          refine q_if_lt (pc := 62) (tgt := 165) C (by first | exact hR _ _ | exact hRo _ _ | assumption | exact r_bI _ | exact ⟨by omega, by omega⟩) dX4_explore_62 (by decide) (fun hq => ?_) (fun hq => ?_)
          · refine q_aload_n (pc := 165) C dX4_explore_165 rfl rfl ?_
            refine q_getI (pc := 166) (ci := 4) (k := 7) (ki := 7) C rfl rfl fiX4_explore_X4 (by decide) k216 (by decide) rfl (by decide) flX4_explore_22 rfl rfl dX4_explore_166 ?_
            rw [h7]
            exact q_iret (pc := 169) C hret ⟨n, ⟨by omega, by omega⟩, rfl, hfr, h15, Or.inl ⟨e3.symm, by rw [e2], h0, by rw [h7, e2], by rw [← e1, ← e2]; exact hMT⟩⟩ (by decide) (by decide) dX4_explore_169
          · exact absurd hq (by decide)
        · rw [if_neg hu0] at hr hpa
          rcases hch u hu with ⟨z, -⟩ | ⟨j, f, hj, z1, z2, z3⟩
          · exact absurd z hu0
          · obtain ⟨b, hb1, hb2⟩ := hT.2.2.2.2.2.1 u (by omega) hu
            rw [z1, hb1] at hr
            have hdf : d = f + 1 := by omega
            rw [hdf] at hnx
            have hnx2 := hnx.2
            rw [z1, hb1] at hnx2
            refine q_aload_n (pc := 87) C dX4_explore_87 rfl rfl ?_
            refine q_getR (pc := 88) (ci := 4) (k := 9) (r := 222) C rfl fiX4_explore_X4 (by decide) k216 (by decide) rfl (by decide) flX4_explore_29 rfl rfl dX4_explore_88 ?_
            refine q_iload_n (pc := 91) C dX4_explore_91 rfl rfl ?_
            refine q_iaload (pc := 92) C k222 n222 (by decide) (by decide) (by omega) (by omega) dX4_explore_92 ?_
            rw [hpa, z1]
            refine q_istore_n (pc := 93) (lv2 := [_, _, _]) C dX4_explore_93 rfl (by decide) rfl ?_
            refine q_goto (pc := 94) (tgt := 61) C dX4_explore_94 (by decide) ?_
            exact ih σ n j (b + 1) κ hr hN hT hZ (by omega) (by omega) hM hMT (by rw [z2]; exact hnx2) h7 h0 h15 hfr
      have EX : ¬ (σ 127 u = 1 ∨ (t : Int) = σ 1 1) → t < T → PW p l e (r0 2) s m args below meth c D cy B 3 0 0 (vx_MQ below (Qp D cy B (qv (exQ μ σf P nf k9))) (Xp D cy B noX) args s (r0 2).cells (r0 2).slots (fun q => B ≤ q)) 97 [some (.ref (B + 216)), some (iN u), none] [] κ := by
        intro hup htT
        rw [if_neg hup] at hr
        obtain ⟨κ1, hκ1⟩ : ∃ κ1 : St, κ1 = updS κ 224 u ((t : Int) + 1) := ⟨_, rfl⟩
        have k1 : ∀ {x : Nat} (j : Int), x ≠ 224 → κ1 x j = κ x j := fun j hx => by rw [hκ1, updS_ne _ _ _ _ hx]
        have hM1 : MN σ κ1 P T := MN_ne hM (fun _ _ _ => rfl) (fun x j h1 h2 => k1 j (by omega)) (k1 _ (by decide)) (k1 _ (by decide))
        have hMT1 : MT σ κ1 P n := MT_ne hMT (fun x j h1 h2 h3 => k1 j h3) (k1 _ (by decide)) (k1 _ (by decide))
        have hnx1 : nxo σ κ1 d u (t + 1) := by rw [hκ1]; exact nxo_up hch hu hd1 hnx (by omega)
        have h71 : κ1 216 7 = n := by rw [k1 _ (by decide)]; exact h7
        have hfr1 : frM μ κ1 := fun x j hx => by rw [k1 _ (by unfold kpM at hx; omega)]; exact hfr x j hx
        have hen := en_iff hM1 hN hZ hMT1.1 (bR_TI hT) hu htT
        refine q_aload_n (pc := 97) C dX4_explore_97 rfl rfl ?_
        refine q_getR (pc := 98) (ci := 4) (k := 11) (r := 224) C rfl fiX4_explore_X4 (by decide) k216 (by decide) rfl (by decide) flX4_explore_35 rfl rfl dX4_explore_98 ?_
        refine q_iload_n (pc := 101) C dX4_explore_101 rfl rfl ?_
        refine q_iaload (pc := 102) C k224 n224 (by decide) (by decide) (by omega) (by omega) dX4_explore_102 ?_
        rw [ht224]
        refine q_istore_n (pc := 103) (lv2 := [_, _, _]) C dX4_explore_103 rfl (by decide) rfl ?_
        refine q_aload_n (pc := 104) C dX4_explore_104 rfl rfl ?_
        refine q_getR (pc := 105) (ci := 4) (k := 11) (r := 224) C rfl fiX4_explore_X4 (by decide) k216 (by decide) rfl (by decide) flX4_explore_35 rfl rfl dX4_explore_105 ?_
        refine q_iload_n (pc := 108) C dX4_explore_108 rfl rfl ?_
        refine q_iload_n (pc := 109) C dX4_explore_109 rfl rfl ?_
        refine q_iconst (pc := 110) C dX4_explore_110 ?_
        refine q_iadd (pc := 111) C dX4_explore_111 ?_
        refine q_iastore (pc := 112) C k224 n224 (by decide) (by decide) (by omega) (by omega) (by first | exact hR _ _ | exact hRo _ _ | assumption | exact r_bI _ | exact ⟨by omega, by omega⟩) dX4_explore_112 ?_
        refine q_mu hκ1.symm ?_
        refine q_rng (fun hR => ?_)
        refine q_aload_n (pc := 113) C dX4_explore_113 rfl rfl ?_
        refine q_iload_n (pc := 114) C dX4_explore_114 rfl rfl ?_
        refine q_iload_n (pc := 115) C dX4_explore_115 rfl rfl ?_
        refine q_callV (pc := 116) (As := [_, _]) (rest := []) C (m_enabledAt hlf D cy B (P := P) (n := u) (t := t) hM1.1 h6 (by omega) (by omega)) (cwV 2 C.2.2.2.2.1 gX4_explore_X4_enabledAt rfl rfl rfl (by decide +kernel) ⟨Nat.le_of_ble_eq_true rfl, Nat.le_of_ble_eq_true rfl⟩) (ci := 4) rfl k216 (by decide) (by decide) rfl rfl (by first | decide | simp [Value.category]) dX4_explore_116 (by decide) (fun _ _ h => h.elim) (fun v μ9 hv => ?_)
        have e8 := hv.1
        have e9 := hv.2.symm
        clear hv
        subst e8
        subst e9
        dsimp only [Option.toList, List.cons_append, List.nil_append]
        have hz := bI_01 (∀ q : Nat, q < P → κ1 219 (ix t q) ≤ κ1 221 (ix u q))
        refine q_if_eq (pc := 119) (tgt := 162) C (by first | exact hR _ _ | exact hRo _ _ | assumption | exact r_bI _ | exact ⟨by omega, by omega⟩) dX4_explore_119 (by decide) (fun hq => ?_) (fun hq => ?_)
        · have hno := fun z => bI_0.mp hq (hen.mpr z)
          rw [if_neg hno] at hr
          refine q_drop 2 (lv2 := [_, _, none]) rfl ?_
          refine q_goto (pc := 162) (tgt := 61) C dX4_explore_162 (by decide) ?_
          exact ih σ n u (t + 1) κ1 hr hN hT hZ hu (by omega) hM1 hMT1 (by rw [hdn]; exact hnx1) h71 (by rw [k1 _ (by decide)]; exact h0) (by rw [k1 _ (by decide)]; exact h15) hfr1
        · have hyes : enP σ (24 + u) t := hen.mp (bI_1.mp (show bI (∀ q : Nat, q < P → κ1 219 (ix t q) ≤ κ1 221 (ix u q)) = 1 by omega))
          rw [if_pos hyes] at hr
          refine q_aload_n (pc := 122) C dX4_explore_122 rfl rfl ?_
          refine q_getI (pc := 123) (ci := 4) (k := 7) (ki := 7) C rfl rfl fiX4_explore_X4 (by decide) k216 (by decide) rfl (by decide) flX4_explore_22 rfl rfl dX4_explore_123 ?_
          rw [h71]
          refine q_bipush (pc := 126) C (by decide +kernel) dX4_explore_126 ?_
          refine q_icmp_ne (pc := 128) (tgt := 143) C (by first | exact hR _ _ | exact hRo _ _ | assumption | exact r_bI _ | exact ⟨by omega, by omega⟩) (by first | exact hR _ _ | exact hRo _ _ | assumption | exact r_bI _ | exact ⟨by omega, by omega⟩) dX4_explore_128 (by decide) (fun hq2 => ?_) (fun hq2 => ?_)
          · have hn : n < 100 := by omega
            rw [if_neg (by omega)] at hr
            have hv9 : ∀ q : Nat, q < P → InR (fireM κ1 u t q) := fun q hq => by
              rw [fireM_eq hM1 hN hMT1.1 (bR_TI hT) hu htT (fireV_bnd hN hT hu htT hyes) q hq]
              exact w3_r (fireV_bnd hN hT hu htT hyes q (by omega))
            refine q_aload_n (pc := 143) C dX4_explore_143 rfl rfl ?_
            refine q_iload_n (pc := 144) C dX4_explore_144 rfl rfl ?_
            refine q_iload_n (pc := 145) C dX4_explore_145 rfl rfl ?_
            refine q_callV (pc := 146) (As := [_, _]) (rest := []) C (m_fire hlf D cy B (P := P) (n := n) (u := u) (t := t) (dp := fun i => (σ 126 i).toNat) hM1.1 h6 hn100 h71 hu (by omega) (chM_of hch hMT1.2.1) hv9) (cwV 2 C.2.2.2.2.1 gX4_explore_X4_fire rfl rfl rfl (by decide +kernel) ⟨Nat.le_of_ble_eq_true rfl, Nat.le_of_ble_eq_true rfl⟩) (ci := 4) rfl k216 (by decide) (by decide) rfl rfl (by first | decide | simp [Value.category]) dX4_explore_146 (by decide) (fun _ _ h => h.elim) (fun v μ9 hv => ?_)
            have e8 := hv.1
            have e9 := hv.2.symm
            clear hv
            subst e8
            subst e9
            dsimp only [Option.toList, List.cons_append, List.nil_append]
            obtain ⟨κ2, hκ2⟩ : ∃ κ2 : St, κ2 = repM (σ 126 u).toNat (fmW κ1 P u t) P u := ⟨_, rfl⟩
            refine q_mu (μ2 := κ2) hκ2.symm ?_
            have k2 : ∀ {x : Nat} (j : Int), x ≠ 216 → x ≠ 231 → κ2 x j = κ1 x j := fun j h1 h2 => by rw [hκ2, repM_ne _ _ _ _ h1 h2]; exact preS_ne _ _ _ _ h2
            have y216 : ∀ {j : Int}, j ≠ 13 → j ≠ 14 → κ2 216 j = κ1 216 j := fun h1 h2 => by rw [hκ2, repM_nk _ _ _ _ h1 h2]; exact preS_ne _ _ _ _ (by decide)
            refine q_aload_n (pc := 149) C dX4_explore_149 rfl rfl ?_
            refine q_iload_n (pc := 150) C dX4_explore_150 rfl rfl ?_
            refine q_iload_n (pc := 151) C dX4_explore_151 rfl rfl ?_
            refine q_callV (pc := 152) (As := [_, _]) (rest := []) C (m_addNode hlf D cy B (P := P) (n := n) (u := u) (t := t) (by rw [y216 (by decide) (by decide)]; exact hM1.1) h6 hn (by rw [y216 (by decide) (by decide)]; exact h71) ⟨by omega, by omega⟩ ⟨by omega, by omega⟩) (cwV 2 C.2.2.2.2.1 gX4_explore_X4_addNode rfl rfl rfl (by decide +kernel) ⟨Nat.le_of_ble_eq_true rfl, Nat.le_of_ble_eq_true rfl⟩) (ci := 4) rfl k216 (by decide) (by decide) rfl rfl (by first | decide | simp [Value.category]) dX4_explore_152 (by decide) (fun _ _ h => h.elim) (fun v μ9 hv => ?_)
            have e8 := hv.1
            have e9 := hv.2.symm
            clear hv
            subst e8
            subst e9
            dsimp only [Option.toList, List.cons_append, List.nil_append]
            refine q_aload_n (pc := 155) C dX4_explore_155 rfl rfl ?_
            refine q_getI (pc := 156) (ci := 4) (k := 7) (ki := 7) C rfl rfl fiX4_explore_X4 (by decide) k216 (by decide) rfl (by decide) flX4_explore_22 rfl rfl dX4_explore_156 ?_
            rw [adN_7]
            refine q_iconst (pc := 159) C dX4_explore_159 ?_
            refine q_isub (pc := 160) C dX4_explore_160 ?_
            rw [show ((n + 1 : Nat) : Int) - 1 = n by omega]
            refine q_istore_n (pc := 161) (lv2 := [_, _, _]) C dX4_explore_161 rfl (by decide) rfl ?_
            refine q_drop 2 (lv2 := [_, _, none]) rfl ?_
            refine q_goto (pc := 162) (tgt := 61) C dX4_explore_162 (by decide) ?_
            have hcc := child_cpl hN hT hZ hn hu htT hyes hM1 hMT1 h71
            rw [← hκ2] at hcc
            refine ih (chS σ n u t) (n + 1) n 0 (adN κ2 P n u t) hr (NI_ch hN hn u t) (TI_ch hN hT hn hu htT hyes) (NZ_ne hZ (fun x j hx => chS_out _ hn _ _ (by omega) (by omega) j)) (by omega) (by omega) (MN_ne hM1 (fun x j hx => chS_out _ hn _ _ (by omega) (by omega) j) (fun x j h1 h2 => by rw [adN_lo _ _ _ _ _ _ (by omega) (by omega) (by omega) (by omega) (by omega) (by omega), k2 _ (by omega) (by omega)]) (by rw [adN_16 _ _ _ _ _ (by decide), y216 (by decide) (by decide)]) (by rw [adN_16 _ _ _ _ _ (by decide), y216 (by decide) (by decide)])) hcc ?_ (adN_7 _ _ _ _ _) (by rw [adN_16 _ _ _ _ _ (by decide), y216 (by decide) (by decide), k1 _ (by decide)]; exact h0) (by rw [adN_16 _ _ _ _ _ (by decide), y216 (by decide) (by decide), k1 _ (by decide)]; exact h15) ?_
            · rw [chS_126 _ hn, if_pos rfl, hd1, show (((d : Nat) : Int) + 1).toNat = d + 1 by omega]
              refine ⟨by rw [adN_24, if_pos rfl]; rfl, ?_⟩
              rw [chS_124 _ hn, if_pos rfl, chS_125 _ hn, if_pos rfl]
              exact nxo_congr hch d u (t + 1) hu hd1 (fun i hi => ⟨by rw [adN_24, if_neg (by have : i ≤ u := hi; omega), k2 _ (by decide) (by decide)], by rw [chS_124 _ hn, if_neg (by have : i ≤ u := hi; omega)], by rw [chS_125 _ hn, if_neg (by have : i ≤ u := hi; omega)]⟩) hnx1
            · intro x j hx
              rw [← hfr1 x j hx]
              by_cases e : x = 216
              · subst e
                have hj : j = 1 ∨ j = 2 := by unfold kpM at hx; omega
                rw [adN_16 _ _ _ _ _ (by omega), y216 (by omega) (by omega)]
              · unfold kpM at hx
                rw [adN_lo _ _ _ _ _ _ (by omega) (by omega) (by omega) (by omega) (by omega) (by omega), k2 _ (by omega) (by omega)]
          · rw [if_pos (by omega)] at hr
            have e3 : 2 = k9 := congrArg (fun z => z.2.2) hr
            refine q_aload_n (pc := 131) C dX4_explore_131 rfl rfl ?_
            refine q_iconst (pc := 132) C dX4_explore_132 ?_
            refine q_put (pc := 133) (ci := 4) (k := 7) (ki := 7) (ty0 := tyX4) C rfl rfl fiX4_explore_X4 (by decide) k216 (by decide) rfl (by decide) flX4_explore_22 rfl tyX4_ok nmX4 rfl rfl rfl (by first | exact hR _ _ | exact hRo _ _ | assumption | exact r_bI _ | exact ⟨by omega, by omega⟩) dX4_explore_133 ?_
            refine q_aload_n (pc := 136) C dX4_explore_136 rfl rfl ?_
            refine q_iconst (pc := 137) C dX4_explore_137 ?_
            refine q_put (pc := 138) (ci := 4) (k := 0) (ki := 0) (ty0 := tyX4) C rfl rfl fiX4_explore_X4 (by decide) k216 (by decide) rfl (by decide) flX4_explore_63 rfl tyX4_ok nmX4 rfl rfl rfl (by first | exact hR _ _ | exact hRo _ _ | assumption | exact r_bI _ | exact ⟨by omega, by omega⟩) dX4_explore_138 ?_
            refine q_iconst (pc := 141) C dX4_explore_141 ?_
            exact q_iret (pc := 142) C hret ⟨0, r_0, rfl, fun x j hx => by rw [updS_ap, updS_ap, if_neg (by unfold kpM at hx; omega), if_neg (by unfold kpM at hx; omega)]; exact hfr1 x j hx, by rw [updS_nk _ _ _ _ (by decide), updS_nk _ _ _ _ (by decide), k1 _ (by decide)]; exact h15, Or.inr ⟨e3.symm, updS_self _ _ _ _, by rw [updS_nk _ _ _ _ (by decide), updS_self]⟩⟩ (by decide) (by decide) dX4_explore_142
      refine q_iload_n (pc := 61) C dX4_explore_61 rfl rfl ?_
      refine q_if_lt (pc := 62) (tgt := 165) C (by first | exact hR _ _ | exact hRo _ _ | assumption | exact r_bI _ | exact ⟨by omega, by omega⟩) dX4_explore_62 (by decide) (fun hq => ?_) (fun hq => ?_)
      · exact absurd hq (by omega)
      · refine q_aload_n (pc := 65) C dX4_explore_65 rfl rfl ?_
        refine q_getR (pc := 66) (ci := 4) (k := 12) (r := 225) C rfl fiX4_explore_X4 (by decide) k216 (by decide) rfl (by decide) flX4_explore_38 rfl rfl dX4_explore_66 ?_
        refine q_iload_n (pc := 69) C dX4_explore_69 rfl rfl ?_
        refine q_baload (pc := 70) C k225 n225 (by decide) (by decide) (by omega) (by omega) dX4_explore_70 ?_
        rw [hco]
        refine q_if_ne (pc := 71) (tgt := 87) C (by first | exact hR _ _ | exact hRo _ _ | assumption | exact r_bI _ | exact ⟨by omega, by omega⟩) dX4_explore_71 (by decide) (fun hq2 => ?_) (fun hq2 => ?_)
        · exact UP (Or.inl (by omega))
        · refine q_aload_n (pc := 74) C dX4_explore_74 rfl rfl ?_
          refine q_getR (pc := 75) (ci := 4) (k := 11) (r := 224) C rfl fiX4_explore_X4 (by decide) k216 (by decide) rfl (by decide) flX4_explore_35 rfl rfl dX4_explore_75 ?_
          refine q_iload_n (pc := 78) C dX4_explore_78 rfl rfl ?_
          refine q_iaload (pc := 79) C k224 n224 (by decide) (by decide) (by omega) (by omega) dX4_explore_79 ?_
          rw [ht224]
          refine q_aload_n (pc := 80) C dX4_explore_80 rfl rfl ?_
          refine q_getI (pc := 81) (ci := 4) (k := 2) (ki := 2) C rfl rfl fiX4_explore_X4 (by decide) k216 (by decide) rfl (by decide) flX4_explore_69 rfl rfl dX4_explore_81 ?_
          rw [hT2]
          refine q_icmp_ne (pc := 84) (tgt := 97) C (by first | exact hR _ _ | exact hRo _ _ | assumption | exact r_bI _ | exact ⟨by omega, by omega⟩) (by first | exact hR _ _ | exact hRo _ _ | assumption | exact r_bI _ | exact ⟨by omega, by omega⟩) dX4_explore_84 (by decide) (fun hq3 => ?_) (fun hq3 => ?_)
          · exact EX (by rintro (z | z) <;> omega) (by omega)
          · exact UP (Or.inr (by omega))
  obtain ⟨κ0, hκ0⟩ : ∃ κ0 : St, κ0 = updS (updS (updS (mdS (updS μ 216 0 0)) 216 7 0) 216 13 (-1)) 216 14 (-1) := ⟨_, rfl⟩
  have z9 : ∀ {x : Nat} (j : Int), x ≠ 216 → κ0 x j = μ x j := fun j hx => by rw [hκ0, updS_ne _ _ _ _ hx, updS_ne _ _ _ _ hx, updS_ne _ _ _ _ hx, mdS_ne _ hx, updS_ne _ _ _ _ hx]
  have z1 : κ0 216 1 = P := by
    rw [hκ0, updS_nk _ _ _ _ (by decide), updS_nk _ _ _ _ (by decide), updS_nk _ _ _ _ (by decide), mdS_nk _ (by decide) (by decide), updS_nk _ _ _ _ (by decide)]
    exact hM.1
  have z2 : κ0 216 2 = T := by
    rw [hκ0, updS_nk _ _ _ _ (by decide), updS_nk _ _ _ _ (by decide), updS_nk _ _ _ _ (by decide), mdS_nk _ (by decide) (by decide), updS_nk _ _ _ _ (by decide)]
    exact hM.2.1
  have z7 : κ0 216 7 = 0 := by rw [hκ0, updS_nk _ _ _ _ (by decide), updS_nk _ _ _ _ (by decide), updS_self]
  have z0 : κ0 216 0 = 0 := by rw [hκ0, updS_nk _ _ _ _ (by decide), updS_nk _ _ _ _ (by decide), updS_nk _ _ _ _ (by decide), mdS_nk _ (by decide) (by decide), updS_self]
  have z15 : κ0 216 15 = -1 := by
    rw [hκ0, updS_nk _ _ _ _ (by decide), updS_nk _ _ _ _ (by decide), updS_nk _ _ _ _ (by decide)]
    exact updS_self _ _ _ _
  have z13 : κ0 216 13 = -1 := by rw [hκ0, updS_nk _ _ _ _ (by decide), updS_self]
  have FI : ∀ i : Nat, i ≤ P → PW p l e (r0 2) s m args below meth c D cy B 3 0 0 (vx_MQ below (Qp D cy B (qv (exQ μ σf P nf k9))) (Xp D cy B noX) args s (r0 2).cells (r0 2).slots (fun q => B ≤ q)) 26 [some (.ref (B + 216)), some (iN i), none] [] (preS κ0 231 i (fun q => μ 217 q)) := by
    refine up_to P _ (fun i hi ih => ?_)
    have y1 : preS κ0 231 i (fun q => μ 217 q) 216 1 = P := by rw [preS_ne _ _ _ _ (by decide), z1]
    refine q_rng (fun hR => ?_)
    refine q_iload_n (pc := 26) C dX4_explore_26 rfl rfl ?_
    refine q_aload_n (pc := 27) C dX4_explore_27 rfl rfl ?_
    refine q_getI (pc := 28) (ci := 4) (k := 1) (ki := 1) C rfl rfl fiX4_explore_X4 (by decide) k216 (by decide) rfl (by decide) flX4_explore_66 rfl rfl dX4_explore_28 ?_
    refine q_icmp_ge (pc := 31) (tgt := 52) C (by first | exact hR _ _ | exact hRo _ _ | assumption | exact r_bI _ | exact ⟨by omega, by omega⟩) (by first | exact hR _ _ | exact hRo _ _ | assumption | exact r_bI _ | exact ⟨by omega, by omega⟩) dX4_explore_31 (by decide) (fun hc => ?_) (fun hc => ?_)
    · have e : i = P := by omega
      obtain ⟨κ1, hκ1⟩ : ∃ κ1 : St, κ1 = preS κ0 231 i (fun q => μ 217 q) := ⟨_, rfl⟩
      have k1 : ∀ {x : Nat} (j : Int), x ≠ 231 → κ1 x j = κ0 x j := fun j hx => by rw [hκ1, preS_ne _ _ _ _ hx]
      refine q_mu hκ1.symm ?_
      refine q_aload_n (pc := 52) C dX4_explore_52 rfl rfl ?_
      refine q_iconst (pc := 53) C dX4_explore_53 ?_
      refine q_bipush (pc := 54) C (by decide +kernel) dX4_explore_54 ?_
      refine q_callV (pc := 56) (As := [_, _]) (rest := []) C (m_addNode hlf D cy B (P := P) (n := 0) (u := -1) (t := -2) (by rw [k1 _ (by decide)]; exact z1) h6 (by decide) (by rw [k1 _ (by decide)]; exact z7) ⟨by decide, by decide⟩ ⟨by decide, by decide⟩) (cwV 2 C.2.2.2.2.1 gX4_explore_X4_addNode rfl rfl rfl (by decide +kernel) ⟨Nat.le_of_ble_eq_true rfl, Nat.le_of_ble_eq_true rfl⟩) (ci := 4) rfl k216 (by decide) (by decide) rfl rfl (by first | decide | simp [Value.category]) dX4_explore_56 (by decide) (fun _ _ h => h.elim) (fun v μ9 hv => ?_)
      have e8 := hv.1
      have e9 := hv.2.symm
      clear hv
      subst e8
      subst e9
      dsimp only [Option.toList, List.cons_append, List.nil_append]
      refine q_iconst (pc := 59) C dX4_explore_59 ?_
      refine q_istore_n (pc := 60) (lv2 := [_, _, _]) C dX4_explore_60 rfl (by decide) rfl ?_
      have rf : ∀ x k, x < 22 → rootS ν x k = ν x k := fun x k hx => rootS_out ν (by omega) (by omega) k
      refine L 900 (rootS ν) 1 0 0 (adN κ1 P 0 (-1) (-2)) hrun (NI_root hN) (TI_root hN) (NZ_ne hZ rf) (by decide) (by omega) (MN_ne hM rf (fun x j h1 h2 => by rw [adN_lo _ _ _ _ _ _ (by omega) (by omega) (by omega) (by omega) (by omega) (by omega), k1 _ (by omega), z9 _ (by omega)]) (by rw [adN_16 _ _ _ _ _ (by decide), k1 _ (by decide), z1, hM.1]) (by rw [adN_16 _ _ _ _ _ (by decide), k1 _ (by decide), z2, hM.2.1])) (root_cpl hN hZ (fun q hq => ?_) (by rw [k1 _ (by decide)]; exact z13)) ?_ (adN_7 _ _ _ _ _) (by rw [adN_16 _ _ _ _ _ (by decide), k1 _ (by decide)]; exact z0) (by rw [adN_16 _ _ _ _ _ (by decide), k1 _ (by decide)]; exact z15) ?_
      · rw [hκ1, preS_ap, if_pos ⟨rfl, by omega, by omega⟩]
        exact hM.2.2.1 q (by omega)
      · rw [show rootS ν 126 ((0 : Nat) : Int) = 0 by simp [rootS, updS_ap]]
        show adN κ1 P 0 (-1) (-2) 224 ((0 : Nat) : Int) = ((0 : Nat) : Int)
        rw [adN_24, if_pos rfl]
        rfl
      · intro x j hx
        by_cases e2 : x = 216
        · subst e2
          have hj : j = 1 ∨ j = 2 := by unfold kpM at hx; omega
          rw [adN_16 _ _ _ _ _ (by omega), k1 _ (by decide), hκ0, updS_nk _ _ _ _ (by omega), updS_nk _ _ _ _ (by omega), updS_nk _ _ _ _ (by omega), mdS_nk _ (by omega) (by omega), updS_nk _ _ _ _ (by omega)]
        · unfold kpM at hx
          rw [adN_lo _ _ _ _ _ _ (by omega) (by omega) (by omega) (by omega) (by omega) (by omega), k1 _ (by omega), z9 _ (by omega)]
    · refine q_aload_n (pc := 34) C dX4_explore_34 rfl rfl ?_
      refine q_getR (pc := 35) (ci := 4) (k := 21) (r := 231) C rfl fiX4_explore_X4 (by decide) k216 (by decide) rfl (by decide) flX4_explore_60 rfl rfl dX4_explore_35 ?_
      refine q_iload_n (pc := 38) C dX4_explore_38 rfl rfl ?_
      refine q_aload_n (pc := 39) C dX4_explore_39 rfl rfl ?_
      refine q_getR (pc := 40) (ci := 4) (k := 3) (r := 217) C rfl fiX4_explore_X4 (by decide) k216 (by decide) rfl (by decide) flX4_explore_7 rfl rfl dX4_explore_40 ?_
      refine q_iload_n (pc := 43) C dX4_explore_43 rfl rfl ?_
      refine q_iaload (pc := 44) C k217 n217 (by decide) (by decide) (by omega) (by omega) dX4_explore_44 ?_
      rw [preS_ne _ _ _ _ (by decide), z9 _ (by decide)]
      have hR := hRo
      refine q_iastore (pc := 45) C k231 n231 (by decide) (by decide) (by omega) (by omega) (by first | exact hR _ _ | exact hRo _ _ | assumption | exact r_bI _ | exact ⟨by omega, by omega⟩) dX4_explore_45 ?_
      refine q_mu (preS_step κ0 231 i (fun q => μ 217 q) rfl) ?_
      refine q_iinc (pc := 46) (lv2 := [_, _, _]) C dX4_explore_46 (by decide) rfl rfl ?_
      refine q_goto (pc := 49) (tgt := 26) C dX4_explore_49 (by decide) ?_
      exact ih (by omega)
  refine q_aload_n (pc := 0) C dX4_explore_0 rfl rfl ?_
  refine q_iconst (pc := 1) C dX4_explore_1 ?_
  refine q_put (pc := 2) (ci := 4) (k := 0) (ki := 0) (ty0 := tyX4) C rfl rfl fiX4_explore_X4 (by decide) k216 (by decide) rfl (by decide) flX4_explore_63 rfl tyX4_ok nmX4 rfl rfl rfl (by first | exact hR _ _ | exact hRo _ _ | assumption | exact r_bI _ | exact ⟨by omega, by omega⟩) dX4_explore_2 ?_
  refine q_aload_n (pc := 5) C dX4_explore_5 rfl rfl ?_
  refine q_callV (pc := 6) (As := []) (rest := []) C (m_discard hlf D cy B) (cwV 0 C.2.2.2.2.1 gX4_explore_X4_discard rfl rfl rfl (by decide +kernel) ⟨Nat.le_of_ble_eq_true rfl, Nat.le_of_ble_eq_true rfl⟩) (ci := 4) rfl k216 (by decide) (by decide) rfl rfl (by first | decide | simp [Value.category]) dX4_explore_6 (by decide) (fun _ _ h => h.elim) (fun v μ9 hv => ?_)
  have e8 := hv.1
  have e9 := hv.2.symm
  clear hv
  subst e8
  subst e9
  dsimp only [Option.toList, List.cons_append, List.nil_append]
  refine q_aload_n (pc := 9) C dX4_explore_9 rfl rfl ?_
  refine q_iconst (pc := 10) C dX4_explore_10 ?_
  refine q_put (pc := 11) (ci := 4) (k := 7) (ki := 7) (ty0 := tyX4) C rfl rfl fiX4_explore_X4 (by decide) k216 (by decide) rfl (by decide) flX4_explore_22 rfl tyX4_ok nmX4 rfl rfl rfl (by first | exact hR _ _ | exact hRo _ _ | assumption | exact r_bI _ | exact ⟨by omega, by omega⟩) dX4_explore_11 ?_
  refine q_aload_n (pc := 14) C dX4_explore_14 rfl rfl ?_
  refine q_iconst (pc := 15) C dX4_explore_15 ?_
  refine q_put (pc := 16) (ci := 4) (k := 13) (ki := 13) (ty0 := tyX4) C rfl rfl fiX4_explore_X4 (by decide) k216 (by decide) rfl (by decide) flX4_explore_89 rfl tyX4_ok nmX4 rfl rfl rfl (by first | exact hR _ _ | exact hRo _ _ | assumption | exact r_bI _ | exact ⟨by omega, by omega⟩) dX4_explore_16 ?_
  refine q_aload_n (pc := 19) C dX4_explore_19 rfl rfl ?_
  refine q_iconst (pc := 20) C dX4_explore_20 ?_
  refine q_put (pc := 21) (ci := 4) (k := 14) (ki := 14) (ty0 := tyX4) C rfl rfl fiX4_explore_X4 (by decide) k216 (by decide) rfl (by decide) flX4_explore_92 rfl tyX4_ok nmX4 rfl rfl rfl (by first | exact hR _ _ | exact hRo _ _ | assumption | exact r_bI _ | exact ⟨by omega, by omega⟩) dX4_explore_21 ?_
  refine q_mu hκ0.symm ?_
  refine q_iconst (pc := 24) C dX4_explore_24 ?_
  refine q_istore_n (pc := 25) (lv2 := [_, _, _]) C dX4_explore_25 rfl (by decide) rfl ?_
  refine q_mu (preS_0 κ0 231 (fun q => μ 217 q)).symm ?_
  exact FI 0 (by omega)

