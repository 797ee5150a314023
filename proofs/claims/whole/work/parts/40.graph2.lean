theorem fiX0_build_X0 : ∀ w ∈ u_ws RX0 TX0 9, w ∈ wsX0_build := by decide +kernel
theorem fiX0_build_X1 : ∀ w ∈ u_ws RX1 TX1 5, w ∈ wsX0_build := by decide +kernel
theorem fiX0_lookAhead_X0 : ∀ w ∈ u_ws RX0 TX0 9, w ∈ wsX0_lookAhead := by decide +kernel
theorem flX0_build_35 : Cond.fieldLink RX0 35 RX0 (TX0 0).2.1 (TX0 0).2.2.1 ∈ wsX0_build := by decide +kernel
theorem flX0_build_48 : Cond.fieldLink RX0 48 RX0 (TX0 1).2.1 (TX0 1).2.2.1 ∈ wsX0_build := by decide +kernel
theorem flX0_build_32 : Cond.fieldLink RX0 32 RX0 (TX0 8).2.1 (TX0 8).2.2.1 ∈ wsX0_build := by decide +kernel
theorem flX0_lookAhead_48 : Cond.fieldLink RX0 48 RX0 (TX0 1).2.1 (TX0 1).2.2.1 ∈ wsX0_lookAhead := by decide +kernel
theorem flX0_lookAhead_29 : Cond.fieldLink RX0 29 RX0 (TX0 7).2.1 (TX0 7).2.2.1 ∈ wsX0_lookAhead := by decide +kernel
abbrev bt (σ : St) (i t : Nat) : Prop := (σ 214 i).toNat.testBit t = true
def Rc (μ : St) (g T t i : Nat) : Prop := ∀ S : Nat → Prop, (∀ k : Nat, k < g → ¬ μ (171 + k) t = -2 → S k) → (∀ k u j : Nat, k < g → u < T → j < g → μ (171 + k) u = j → S j → S k) → S i
def laV (μ : St) (g T : Nat) (σ : St) : Prop := (∀ x k, x ≠ 214 → σ x k = μ x k) ∧ ahP σ g ∧ (∀ i t : Nat, i < g → t < T → ¬ μ (171 + i) t = -2 → bt σ i t) ∧ ∀ i t : Nat, i < g → t < T → bt σ i t → Rc μ g T t i
def clo (μ : St) (g T : Nat) (σ : St) (t : Nat) : Prop := ∀ i u j : Nat, i < g → u < T → j < g → μ (171 + i) u = j → bt σ j t → bt σ i t
def laW (μ : St) (g T : Nat) (σ0 : St) (i : Nat) (σ : St) : Prop := laV μ g T σ ∧ (∀ k t : Nat, k < g → bt σ0 k t → bt σ k t) ∧ (∀ k t u j : Nat, k < i → t < T → u < T → j < g → μ (171 + k) u = j → bt σ0 j t → bt σ k t) ∧ ∀ t : Nat, t < T → clo μ g T σ0 t → ∀ k : Nat, k < g → bt σ k t → bt σ0 k t
theorem bt_upd (σ : St) (i k t v : Nat) : bt (updS σ 214 i (v : Int)) k t ↔ if k = i then v.testBit t = true else bt σ k t := by
  unfold bt
  rw [updS_ap]
  by_cases h : k = i
  · rw [if_pos ⟨rfl, by omega⟩, if_pos h]
    rfl
  · rw [if_neg (by omega), if_neg h]
theorem laW_0 {μ σ : St} {g T : Nat} (h : laV μ g T σ) : laW μ g T σ 0 σ := ⟨h, fun _ _ _ z => z, fun k t u j hk => absurd hk (by omega), fun _ _ _ _ _ z => z⟩
theorem Rc_step {μ : St} {g T t k u j : Nat} (hk : k < g) (hu : u < T) (hj : j < g) (e : μ (171 + k) u = j) (h : Rc μ g T t j) : Rc μ g T t k := fun S h1 h2 => h2 k u j hk hu hj e (h S h1 h2)
theorem Rc_base {μ : St} {g T t k : Nat} (hk : k < g) (h : ¬ μ (171 + k) t = -2) : Rc μ g T t k := fun S h1 _ => h1 k hk h
theorem la_step {μ σ0 σ : St} {g T i w : Nat} (h : laW μ g T σ0 i σ) (hg : g ≤ 40) (hi : i < g) (hT : T ≤ 8) (hnx : ∀ k : Nat, k < g → nxP μ g k T) (hw : σ 214 i = w) : laW μ g T σ0 (i + 1) (updS σ 214 i ((w ||| anB σ i T : Nat) : Int)) := by
  obtain ⟨⟨h1, h2, h3, h4⟩, h5, h6, h7⟩ := h
  have hnx2 : nxP σ g i T := nxP_ne (hnx i hi) (fun j => h1 _ _ (by omega))
  have han := anB_lt hnx2 h2 T (Nat.le_refl _)
  have hwb : ∀ t : Nat, w.testBit t = true ↔ bt σ i t := fun t => by
    unfold bt
    rw [hw]
    rfl
  obtain ⟨w2, hw2, hw3⟩ := h2 i hi
  have hw4 : w = w2 := by rw [hw] at hw3; omega
  have key : ∀ t : Nat, (w ||| anB σ i T).testBit t = true ↔ bt σ i t ∨ ∃ u j : Nat, u < T ∧ j < g ∧ μ (171 + i) u = j ∧ bt σ j t := by
    intro t
    rw [Nat.testBit_or, Bool.or_eq_true, hwb, anB_bit]
    constructor
    · rintro (z | ⟨u, hu, z1, z2⟩)
      · exact Or.inl z
      · rcases hnx2 u hu with z | ⟨j, hj, z⟩
        · exact absurd z z1
        · rw [z] at z2
          refine Or.inr ⟨u, j, hu, hj, ?_, z2⟩
          rw [← h1 _ _ (by omega)]
          exact z
    · rintro (z | ⟨u, j, hu, hj, z1, z2⟩)
      · exact Or.inl z
      · have z3 : σ (171 + i) u = j := by rw [h1 _ _ (by omega)]; exact z1
        exact Or.inr ⟨u, hu, by rw [z3]; omega, by rw [z3]; exact z2⟩
  refine ⟨⟨?_, ?_, ?_, ?_⟩, ?_, ?_, ?_⟩
  · intro x k hx
    rw [updS_ne _ _ _ _ hx]
    exact h1 x k hx
  · intro k hk
    by_cases e : k = i
    · subst e
      exact ⟨_, b_lt (by omega) han, updS_self _ _ _ _⟩
    · obtain ⟨v, hv1, hv2⟩ := h2 k hk
      exact ⟨v, hv1, by rw [updS_nk _ _ _ _ (by omega)]; exact hv2⟩
  · intro k t hk ht hb
    rw [bt_upd]
    split
    · rename_i e
      subst e
      exact (key t).mpr (Or.inl (h3 _ t hk ht hb))
    · exact h3 k t hk ht hb
  · intro k t hk ht hb
    rw [bt_upd] at hb
    split at hb
    · rename_i e
      subst e
      rcases (key t).mp hb with z | ⟨u, j, hu, hj, z1, z2⟩
      · exact h4 _ t hk ht z
      · exact Rc_step hk hu hj z1 (h4 j t hj ht z2)
    · exact h4 k t hk ht hb
  · intro k t hk hb
    rw [bt_upd]
    split
    · rename_i e
      subst e
      exact (key t).mpr (Or.inl (h5 _ t hk hb))
    · exact h5 k t hk hb
  · intro k t u j hk ht hu hj z1 z2
    rw [bt_upd]
    split
    · rename_i e
      subst e
      exact (key t).mpr (Or.inr ⟨u, j, hu, hj, z1, h5 j t hj z2⟩)
    · exact h6 k t u j (by omega) ht hu hj z1 z2
  · intro t ht hc k hk hb
    rw [bt_upd] at hb
    split at hb
    · rename_i e
      subst e
      rcases (key t).mp hb with z | ⟨u, j, hu, hj, z1, z2⟩
      · exact h7 t ht hc _ hk z
      · exact hc _ u j hk hu hj z1 (h7 t ht hc j hj z2)
    · exact h7 t ht hc k hk hb
def cnB (p : Nat → Bool) : Nat → Nat
  | 0 => 0
  | n + 1 => if p n = true then cnB p n + 1 else cnB p n
theorem cnB_le (p : Nat → Bool) : ∀ n, cnB p n ≤ n
  | 0 => Nat.le_refl _
  | n + 1 => by
    unfold cnB
    have := cnB_le p n
    split <;> omega
theorem cnB_mono {p q : Nat → Bool} : ∀ n : Nat, (∀ k, k < n → p k = true → q k = true) → cnB p n ≤ cnB q n
  | 0, _ => Nat.le_refl _
  | n + 1, h => by
    have h1 := cnB_mono n (fun k hk => h k (by omega))
    have h2 := h n (by omega)
    unfold cnB
    by_cases e : p n = true
    · rw [if_pos e, if_pos (h2 e)]
      omega
    · rw [if_neg e]
      split <;> omega
theorem cnB_lt {p q : Nat → Bool} : ∀ n : Nat, (∀ k, k < n → p k = true → q k = true) → (∃ k, k < n ∧ ¬ p k = true ∧ q k = true) → cnB p n + 1 ≤ cnB q n
  | 0, _, ⟨k, hk, _⟩ => absurd hk (by omega)
  | n + 1, h, ⟨k, hk, z1, z2⟩ => by
    have h0 := cnB_mono n (fun k hk => h k (by omega))
    have h2 := h n (by omega)
    unfold cnB
    by_cases e : k = n
    · subst e
      rw [if_neg z1, if_pos z2]
      omega
    · have h1 := cnB_lt n (fun k hk => h k (by omega)) ⟨k, by omega, z1, z2⟩
      by_cases e : p n = true
      · rw [if_pos e, if_pos (h2 e)]
        omega
      · rw [if_neg e]
        split <;> omega
theorem cnB_full {p : Nat → Bool} : ∀ n : Nat, n ≤ cnB p n → ∀ k, k < n → p k = true
  | 0, _ => fun k hk => absurd hk (by omega)
  | n + 1, h => by
    have h1 := cnB_le p n
    unfold cnB at h
    split at h
    · intro k hk
      by_cases e : k = n
      · subst e; assumption
      · exact cnB_full n (by omega) k (by omega)
    · omega
def cbt (σ : St) (t g : Nat) : Nat := cnB (fun k => (σ 214 k).toNat.testBit t) g
def prg (μ : St) (g T r : Nat) (σ : St) : Prop := ∀ t : Nat, t < T → clo μ g T σ t ∨ r ≤ cbt σ t g
theorem la_end {μ σ0 σ : St} {g T r : Nat} (h : laW μ g T σ0 g σ) (hp : prg μ g T r σ0) : prg μ g T (r + 1) σ := by
  obtain ⟨-, h5, h6, h7⟩ := h
  intro t ht
  by_cases hc : clo μ g T σ0 t
  · exact Or.inl (fun i u j hi hu hj e hb => h5 i t hi (hc i u j hi hu hj e (h7 t ht hc j hj hb)))
  · rcases hp t ht with z | z
    · exact absurd z hc
    · refine Or.inr (Nat.le_trans (Nat.succ_le_succ z) (cnB_lt g (fun k hk hb => h5 k t hk hb) ?_))
      refine Classical.byContradiction (fun hn => hc (fun i u j hi hu hj e hb => ?_))
      refine Classical.byContradiction (fun hn2 => hn ⟨i, hi, hn2, h6 i t u j hi ht hu hj e hb⟩)
theorem la_still {μ σ0 σ : St} {g T : Nat} (h : laW μ g T σ0 g σ) (he : ∀ k : Nat, k < g → σ 214 k = σ0 214 k) : ∀ t : Nat, t < T → clo μ g T σ t := by
  obtain ⟨-, h5, h6, h7⟩ := h
  intro t ht i u j hi hu hj e hb
  refine h6 i t u j hi ht hu hj e ?_
  unfold bt at hb ⊢
  rw [← he j hj]
  exact hb
theorem la_fin {μ σ : St} {g T : Nat} (h : prg μ g T g σ) : ∀ t : Nat, t < T → clo μ g T σ t := by
  intro t ht
  rcases h t ht with z | z
  · exact z
  · exact fun i u j hi hu hj e hb => cnB_full g z i hi
/- the state's own transitions, and those ahead of it -/
def ahS (μ : St) (g T : Nat) (σ : St) : Prop := ahP σ g ∧ ∀ i t : Nat, i < g → t < T → (bt σ i t ↔ Rc μ g T t i)
theorem la_all {μ σ : St} {g T : Nat} (h : laV μ g T σ) (hc : ∀ t : Nat, t < T → clo μ g T σ t) : ahS μ g T σ := by
  obtain ⟨h1, h2, h3, h4⟩ := h
  exact ⟨h2, fun i t hi ht => ⟨h4 i t hi ht, fun z => z (fun k => bt σ k t) (fun k hk hb => h3 k t hk ht hb) (hc t ht)⟩⟩
theorem enB_congr {μ σ : St} {k : Nat} (h : ∀ j : Int, σ (171 + k) j = μ (171 + k) j) : ∀ t : Nat, enB σ k t = enB μ k t
  | 0 => rfl
  | t + 1 => by
    unfold enB
    rw [h, enB_congr h t]
def aheQ (μ : St) (g T : Nat) : Option Value → St → Prop := fun r μ2 => r = none ∧ (∀ x k, x ≠ 214 → μ2 x k = μ x k) ∧ ahS μ g T μ2
set_option maxHeartbeats 4000000 in
set_option maxRecDepth 100000 in
theorem c_lookAhead {l : Launch} (hlf : l.stackTraces = false) (D : va_G) (cy : Nat → ClassId) (B : Nat) {μ : St} {g T : Nat} (hg : g ≤ 40) (hsg : μ 128 1 = g) (hT : T ≤ 8) (hsT : μ 1 1 = T) (hnx : ∀ k : Nat, k < g → nxP μ g k T) : PC l D cy B yX0_lookAhead wsX0_lookAhead (r0 1) [.ref (B + 128)] μ (aheQ μ g T) noX := by
  refine PC.pre (fun hR => ?_)
  refine q_start (cc := cX0_lookAhead) (maxL := 5) (ret := none) hlf (by decide +kernel) rfl (by simp [Value.category]) (Nat.le_of_ble_eq_true rfl) ?_
  intro p e s m args below meth c C hret hno
  show PW p l e (r0 1) s m args below meth c D cy B 5 0 0 _ 0 [some (.ref (B + 128)), none, none, none, none] [] μ
  have RT : ∀ σ : St, laV μ g T σ → (∀ t : Nat, t < T → clo μ g T σ t) → ∀ m1 r : Int, PW p l e (r0 1) s m args below meth c D cy B 5 0 0 (vx_MQ below (Qp D cy B (aheQ μ g T)) (Xp D cy B noX) args s (r0 1).cells (r0 1).slots (fun q => B ≤ q)) 110 [some (.ref (B + 128)), some (iN m1), some (iN r), none, none] [] σ := by
    intro σ hV hc m1 r
    exact q_vret (pc := 110) C hret ⟨rfl, hV.1, la_all hV hc⟩ (by decide) (by decide) dX0_lookAhead_110
  have OUT : ∀ r : Nat, r ≤ g → ∀ (σ : St) (m1 : Int), (m1 = 0 ∨ m1 = 1) → laV μ g T σ → prg μ g T r σ → (m1 = 0 → ∀ t : Nat, t < T → clo μ g T σ t) → PW p l e (r0 1) s m args below meth c D cy B 5 0 0 (vx_MQ below (Qp D cy B (aheQ μ g T)) (Xp D cy B noX) args s (r0 1).cells (r0 1).slots (fun q => B ≤ q)) 31 [some (.ref (B + 128)), some (iN m1), some (iN r), none, none] [] σ := by
    refine up_to g _ (fun r hr ihr => ?_)
    intro σ0 m0 hm0 hV0 hp0 hz0
    have IN : ∀ i : Nat, i ≤ g → ∀ (σ : St) (m1 : Int), (m1 = 0 ∨ m1 = 1) → laW μ g T σ0 i σ → (m1 = 0 → ∀ k : Nat, k < g → σ 214 k = σ0 214 k) → r < g → PW p l e (r0 1) s m args below meth c D cy B 5 0 0 (vx_MQ below (Qp D cy B (aheQ μ g T)) (Xp D cy B noX) args s (r0 1).cells (r0 1).slots (fun q => B ≤ q)) 47 [some (.ref (B + 128)), some (iN m1), some (iN r), some (iN i), none] [] σ := by
      refine up_to g _ (fun i hi ih => ?_)
      intro σ m1 hm1 hW hm2 hrg
      have hs1 : σ 128 1 = g := by rw [hW.1.1 _ _ (by decide), hsg]
      have hs2 : σ 1 1 = T := by rw [hW.1.1 _ _ (by decide), hsT]
      refine q_rng (fun hR => ?_)
      refine q_iload_n (pc := 47) C dX0_lookAhead_47 rfl rfl ?_
      refine q_aload_n (pc := 48) C dX0_lookAhead_48 rfl rfl ?_
      refine q_getI (pc := 49) (ci := 0) (k := 1) (ki := 1) C rfl rfl fiX0_lookAhead_X0 (by decide) k128 (by decide) rfl (by decide) flX0_lookAhead_48 rfl rfl dX0_lookAhead_49 ?_
      refine q_icmp_ge (pc := 52) (tgt := 104) C (by first | exact hR _ _ | exact hRo _ _ | assumption | exact ⟨by omega, by omega⟩) (by first | exact hR _ _ | exact hRo _ _ | assumption | exact ⟨by omega, by omega⟩) dX0_lookAhead_52 (by decide) (fun hc => ?_) (fun hc => ?_)
      · have e : i = g := by omega
        subst e
        refine q_drop 3 (lv2 := [_, _, _, none, _]) rfl ?_
        refine q_iinc (pc := 104) (lv2 := [_, _, _, _, _]) C dX0_lookAhead_104 (by decide) rfl rfl ?_
        refine q_goto (pc := 107) (tgt := 31) C dX0_lookAhead_107 (by decide) ?_
        exact ihr hrg σ m1 hm1 hW.1 (la_end hW hp0) (fun z => la_still hW (hm2 z))
      · obtain ⟨w, hw1, hw2⟩ := hW.1.2.1 i (by omega)
        have hnx2 : nxP σ g i T := nxP_ne (hnx i (by omega)) (fun j => hW.1.1 _ _ (by omega))
        have han := anB_lt hnx2 hW.1.2.1 T (Nat.le_refl _)
        have hst := la_step hW hg (show i < g by omega) hT hnx hw2
        have hlt := b_lt hw1 han
        refine q_aload_n (pc := 55) C dX0_lookAhead_55 rfl rfl ?_
        refine q_getR (pc := 56) (ci := 0) (k := 7) (r := 214) C rfl fiX0_lookAhead_X0 (by decide) k128 (by decide) rfl (by decide) flX0_lookAhead_29 rfl rfl dX0_lookAhead_56 ?_
        refine q_iload_n (pc := 59) C dX0_lookAhead_59 rfl rfl ?_
        refine q_iaload (pc := 60) C k214 n214 (by decide) (by decide) (by omega) (by omega) dX0_lookAhead_60 ?_
        refine q_aload_n (pc := 61) C dX0_lookAhead_61 rfl rfl ?_
        refine q_iload_n (pc := 62) C dX0_lookAhead_62 rfl rfl ?_
        refine q_callV (pc := 63) (As := [_]) (rest := [_]) C (c_aheadOfNext hlf D cy B (g := g) (k := i) (T := T) (by omega) hg hT hs2 hnx2 hW.1.2.1) (cwV 1 C.2.2.2.2.1 gX0_lookAhead_X0_aheadOfNext rfl rfl rfl (by decide +kernel) ⟨Nat.le_of_ble_eq_true rfl, Nat.le_of_ble_eq_true rfl⟩) (ci := 0) rfl k128 (by decide) (by decide) rfl rfl (by first | decide | simp [Value.category]) dX0_lookAhead_63 (by decide) (fun _ _ h => h.elim) (fun v μ9 hv => ?_)
        have e8 := hv.1
        have e9 := hv.2.symm
        clear hv
        subst e8
        subst e9
        dsimp only [Option.toList, List.cons_append, List.nil_append]
        rw [hw2]
        refine q_ior (pc := 66) C (b_or w (anB σ i T)) dX0_lookAhead_66 ?_
        obtain ⟨v, hv⟩ : ∃ v : Nat, v = w ||| anB σ i T := ⟨_, rfl⟩
        rw [← hv] at hst hlt ⊢
        have J : ∀ mm : Int, (mm = 0 ∨ mm = 1) → (mm = 0 → m1 = 0 ∧ v = w) → PW p l e (r0 1) s m args below meth c D cy B 5 0 0 (vx_MQ below (Qp D cy B (aheQ μ g T)) (Xp D cy B noX) args s (r0 1).cells (r0 1).slots (fun q => B ≤ q)) 89 [some (.ref (B + 128)), some (iN m1), some (iN r), some (iN i), some (iN v)] [iN mm] σ := by
          intro mm hmm hmz
          refine q_istore_n (pc := 89) (lv2 := [_, _, _, _, _]) C dX0_lookAhead_89 rfl (by decide) rfl ?_
          refine q_aload_n (pc := 90) C dX0_lookAhead_90 rfl rfl ?_
          refine q_getR (pc := 91) (ci := 0) (k := 7) (r := 214) C rfl fiX0_lookAhead_X0 (by decide) k128 (by decide) rfl (by decide) flX0_lookAhead_29 rfl rfl dX0_lookAhead_91 ?_
          refine q_iload_n (pc := 94) C dX0_lookAhead_94 rfl rfl ?_
          refine q_iload (pc := 95) C dX0_lookAhead_95 rfl ?_
          refine q_iastore (pc := 97) C k214 n214 (by decide) (by decide) (by omega) (by omega) (by first | exact hR _ _ | exact hRo _ _ | assumption | exact ⟨by omega, by omega⟩) dX0_lookAhead_97 ?_
          refine q_drop 4 (lv2 := [_, _, _, _, none]) rfl ?_
          refine q_iinc (pc := 98) (lv2 := [_, _, _, _, _]) C dX0_lookAhead_98 (by decide) rfl rfl ?_
          refine q_goto (pc := 101) (tgt := 47) C dX0_lookAhead_101 (by decide) ?_
          refine ih (by omega) _ mm hmm hst (fun z k hk => ?_) hrg
          obtain ⟨z1, z2⟩ := hmz z
          rw [← hm2 z1 k hk]
          by_cases e : k = i
          · subst e
            rw [updS_self, hw2, z2]
          · rw [updS_nk _ _ _ _ (by omega)]
        refine q_istore (pc := 67) (lv2 := [_, _, _, _, _]) C dX0_lookAhead_67 (by decide) rfl ?_
        refine q_iload_n (pc := 69) C dX0_lookAhead_69 rfl rfl ?_
        refine q_if_ne (pc := 70) (tgt := 84) C (by first | exact hR _ _ | exact hRo _ _ | assumption | exact ⟨by omega, by omega⟩) dX0_lookAhead_70 (by decide) (fun hq => ?_) (fun hq => ?_)
        · refine q_iconst (pc := 84) C dX0_lookAhead_84 ?_
          refine q_goto (pc := 85) (tgt := 89) C dX0_lookAhead_85 (by decide) ?_
          exact J 1 (Or.inr rfl) (fun z => absurd z (by decide))
        · refine q_iload (pc := 73) C dX0_lookAhead_73 rfl ?_
          refine q_aload_n (pc := 75) C dX0_lookAhead_75 rfl rfl ?_
          refine q_getR (pc := 76) (ci := 0) (k := 7) (r := 214) C rfl fiX0_lookAhead_X0 (by decide) k128 (by decide) rfl (by decide) flX0_lookAhead_29 rfl rfl dX0_lookAhead_76 ?_
          refine q_iload_n (pc := 79) C dX0_lookAhead_79 rfl rfl ?_
          refine q_iaload (pc := 80) C k214 n214 (by decide) (by decide) (by omega) (by omega) dX0_lookAhead_80 ?_
          rw [hw2]
          refine q_icmp_eq (pc := 81) (tgt := 88) C (by first | exact hR _ _ | exact hRo _ _ | assumption | exact ⟨by omega, by omega⟩) (by first | exact hR _ _ | exact hRo _ _ | assumption | exact ⟨by omega, by omega⟩) dX0_lookAhead_81 (by decide) (fun hq2 => ?_) (fun hq2 => ?_)
          · refine q_iconst (pc := 88) C dX0_lookAhead_88 ?_
            exact J 0 (Or.inl rfl) (fun z => ⟨by omega, by omega⟩)
          · refine q_iconst (pc := 84) C dX0_lookAhead_84 ?_
            refine q_goto (pc := 85) (tgt := 89) C dX0_lookAhead_85 (by decide) ?_
            exact J 1 (Or.inr rfl) (fun z => absurd z (by decide))
    have hs1 : σ0 128 1 = g := by rw [hV0.1 _ _ (by decide), hsg]
    refine q_rng (fun hR => ?_)
    refine q_iload_n (pc := 31) C dX0_lookAhead_31 rfl rfl ?_
    refine q_aload_n (pc := 32) C dX0_lookAhead_32 rfl rfl ?_
    refine q_getI (pc := 33) (ci := 0) (k := 1) (ki := 1) C rfl rfl fiX0_lookAhead_X0 (by decide) k128 (by decide) rfl (by decide) flX0_lookAhead_48 rfl rfl dX0_lookAhead_33 ?_
    refine q_icmp_ge (pc := 36) (tgt := 110) C (by first | exact hR _ _ | exact hRo _ _ | assumption | exact ⟨by omega, by omega⟩) (by first | exact hR _ _ | exact hRo _ _ | assumption | exact ⟨by omega, by omega⟩) dX0_lookAhead_36 (by decide) (fun hc => ?_) (fun hc => ?_)
    · have e : r = g := by omega
      subst e
      exact RT σ0 hV0 (la_fin hp0) _ _
    · refine q_iload_n (pc := 39) C dX0_lookAhead_39 rfl rfl ?_
      refine q_if_eq (pc := 40) (tgt := 110) C (by first | exact hR _ _ | exact hRo _ _ | assumption | exact ⟨by omega, by omega⟩) dX0_lookAhead_40 (by decide) (fun hd => ?_) (fun hd => ?_)
      · exact RT σ0 hV0 (hz0 hd) _ _
      · refine q_iconst (pc := 43) C dX0_lookAhead_43 ?_
        refine q_istore_n (pc := 44) (lv2 := [_, _, _, _, _]) C dX0_lookAhead_44 rfl (by decide) rfl ?_
        refine q_iconst (pc := 45) C dX0_lookAhead_45 ?_
        refine q_istore_n (pc := 46) (lv2 := [_, _, _, _, _]) C dX0_lookAhead_46 rfl (by decide) rfl ?_
        exact IN 0 (by omega) σ0 0 (Or.inl rfl) (laW_0 hV0) (fun _ _ _ => rfl) (by omega)
  have FI : ∀ i : Nat, i ≤ g → PW p l e (r0 1) s m args below meth c D cy B 5 0 0 (vx_MQ below (Qp D cy B (aheQ μ g T)) (Xp D cy B noX) args s (r0 1).cells (r0 1).slots (fun q => B ≤ q)) 2 [some (.ref (B + 128)), some (iN i), none, none, none] [] (preS μ 214 i (fun k => (enB μ k.toNat T : Int))) := by
    refine up_to g _ (fun i hi ih => ?_)
    have hs1 : preS μ 214 i (fun k => (enB μ k.toNat T : Int)) 128 1 = g := by rw [preS_ne _ _ _ _ (by decide), hsg]
    have hs2 : preS μ 214 i (fun k => (enB μ k.toNat T : Int)) 1 1 = T := by rw [preS_ne _ _ _ _ (by decide), hsT]
    refine q_rng (fun hR => ?_)
    refine q_iload_n (pc := 2) C dX0_lookAhead_2 rfl rfl ?_
    refine q_aload_n (pc := 3) C dX0_lookAhead_3 rfl rfl ?_
    refine q_getI (pc := 4) (ci := 0) (k := 1) (ki := 1) C rfl rfl fiX0_lookAhead_X0 (by decide) k128 (by decide) rfl (by decide) flX0_lookAhead_48 rfl rfl dX0_lookAhead_4 ?_
    refine q_icmp_ge (pc := 7) (tgt := 27) C (by first | exact hR _ _ | exact hRo _ _ | assumption | exact ⟨by omega, by omega⟩) (by first | exact hR _ _ | exact hRo _ _ | assumption | exact ⟨by omega, by omega⟩) dX0_lookAhead_7 (by decide) (fun hc => ?_) (fun hc => ?_)
    · have e : i = g := by omega
      subst e
      have hat : ∀ k : Nat, k < i → preS μ 214 i (fun k => (enB μ k.toNat T : Int)) 214 k = (enB μ k T : Int) := fun k hk => by
        rw [preS_ap, if_pos ⟨rfl, by omega, by omega⟩]
        rfl
      have hb : ∀ k t : Nat, k < i → (bt (preS μ 214 i (fun k => (enB μ k.toNat T : Int))) k t ↔ t < T ∧ ¬ μ (171 + k) t = -2) := fun k t hk => by
        unfold bt
        rw [hat k hk, Int.toNat_natCast, enB_bit]
      refine q_drop 1 (lv2 := [_, none, _, _, _]) rfl ?_
      refine q_iconst (pc := 27) C dX0_lookAhead_27 ?_
      refine q_istore_n (pc := 28) (lv2 := [_, _, _, _, _]) C dX0_lookAhead_28 rfl (by decide) rfl ?_
      refine q_iconst (pc := 29) C dX0_lookAhead_29 ?_
      refine q_istore_n (pc := 30) (lv2 := [_, _, _, _, _]) C dX0_lookAhead_30 rfl (by decide) rfl ?_
      refine OUT 0 (by omega) _ 1 (Or.inr rfl) ⟨fun x k hx => preS_ne _ _ _ _ hx, fun k hk => ⟨_, enB_lt μ k T hT, hat k hk⟩, fun k t hk ht hh => (hb k t hk).mpr ⟨ht, hh⟩, fun k t hk ht hh => Rc_base hk ((hb k t hk).mp hh).2⟩ (fun t ht => Or.inr (Nat.zero_le _)) (fun z => absurd z (by decide))
    · have hlt := enB_lt μ i T hT
      refine q_aload_n (pc := 10) C dX0_lookAhead_10 rfl rfl ?_
      refine q_getR (pc := 11) (ci := 0) (k := 7) (r := 214) C rfl fiX0_lookAhead_X0 (by decide) k128 (by decide) rfl (by decide) flX0_lookAhead_29 rfl rfl dX0_lookAhead_11 ?_
      refine q_iload_n (pc := 14) C dX0_lookAhead_14 rfl rfl ?_
      refine q_aload_n (pc := 15) C dX0_lookAhead_15 rfl rfl ?_
      refine q_iload_n (pc := 16) C dX0_lookAhead_16 rfl rfl ?_
      refine q_callV (pc := 17) (As := [_]) (rest := [_, _]) C (c_enabledIn hlf D cy B (k := i) (T := T) (by omega) hT hs2) (cwV 1 C.2.2.2.2.1 gX0_lookAhead_X0_enabledIn rfl rfl rfl (by decide +kernel) ⟨Nat.le_of_ble_eq_true rfl, Nat.le_of_ble_eq_true rfl⟩) (ci := 0) rfl k128 (by decide) (by decide) rfl rfl (by first | decide | simp [Value.category]) dX0_lookAhead_17 (by decide) (fun _ _ h => h.elim) (fun v μ9 hv => ?_)
      have e8 := hv.1
      have e9 := hv.2.symm
      clear hv
      subst e8
      subst e9
      dsimp only [Option.toList, List.cons_append, List.nil_append]
      rw [enB_congr (fun j => preS_ne μ i (fun k => (enB μ k.toNat T : Int)) j (show 171 + i ≠ 214 by omega))]
      refine q_iastore (pc := 20) C k214 n214 (by decide) (by decide) (by omega) (by omega) (by first | exact hR _ _ | exact hRo _ _ | assumption | exact ⟨by omega, by omega⟩) dX0_lookAhead_20 ?_
      refine q_mu (preS_step μ 214 i (fun k => (enB μ k.toNat T : Int)) rfl) ?_
      refine q_iinc (pc := 21) (lv2 := [_, _, _, _, _]) C dX0_lookAhead_21 (by decide) rfl rfl ?_
      refine q_goto (pc := 24) (tgt := 2) C dX0_lookAhead_24 (by decide) ?_
      exact ih (by omega)
  refine q_iconst (pc := 0) C dX0_lookAhead_0 ?_
  refine q_istore_n (pc := 1) (lv2 := [_, _, _, _, _]) C dX0_lookAhead_1 rfl (by decide) rfl ?_
  refine q_mu (preS_0 μ 214 (fun k => (enB μ k.toNat T : Int))).symm ?_
  exact FI 0 (by omega)
def bldS : Nat → St → Nat → Nat → Nat → St × Nat × Bool
  | 0, σ, g, _, _ => (σ, g, true)
  | n + 1, σ, g, k, T => if k < g then (if (folS T σ g k 0).2.2 = true then bldS n (folS T σ g k 0).1 (folS T σ g k 0).2.1 (k + 1) T else folS T σ g k 0) else (σ, g, true)
theorem bldS_succ (n : Nat) (σ : St) (g k T : Nat) : bldS (n + 1) σ g k T = if k < g then (if (folS T σ g k 0).2.2 = true then bldS n (folS T σ g k 0).1 (folS T σ g k 0).2.1 (k + 1) T else folS T σ g k 0) else (σ, g, true) := rfl
def b0S (μ : St) : St := asS (updS (cpS μ 215 2) 128 1 0) 0 (-2) (-2) 0
theorem b0S_out (μ : St) {x : Nat} (h : ¬ inG x) (j : Int) : b0S μ x j = μ x j := by
  unfold inG at h
  unfold b0S
  rw [asS_ne _ _ _ _ (by omega) (by omega) (by omega) (by omega) (by omega), updS_ne _ _ _ _ (by omega), cpS_ap, if_neg (by omega)]
theorem b0S_row (μ : St) {q : Nat} (hq : q < 6) : b0S μ 130 q = μ 2 q := by
  unfold b0S
  rw [show (130 : Nat) = 130 + 0 from rfl, asS_row _ (by decide) _ _ _ hq, updS_ne _ _ _ _ (by omega), cpS_ap, if_pos ⟨rfl, by omega, by omega⟩]
theorem GI_b0 {μ : St} {P T : Nat} (h : NI μ P T) : GI (b0S μ) T 1 := by
  refine ⟨Nat.le_refl _, by decide, ?_, ?_, ?_, ?_, ?_, ?_⟩
  · unfold b0S
    rw [asS_128 _ (by decide)]
  · intro i q hi hq
    have : i = 0 := by omega
    subst this
    have := h.2.2.2.2.1 q hq
    rw [b0S_row μ hq]
    omega
  · unfold b0S
    rw [asS_211 _ (by decide), if_pos (by rfl)]
  · unfold b0S
    rw [asS_212 _ (by decide), if_pos (by rfl)]
  · unfold b0S
    rw [asS_213 _ (by decide), if_pos (by rfl)]
  · intro i h0 hi
    omega
theorem NI_b0 {μ : St} {P T : Nat} (h : NI μ P T) : NI (b0S μ) P T := NI_ne h (fun x k hx => b0S_out μ (by unfold inG; omega) k)
def buiQ (μ : St) (P T : Nat) : Option Value → St → Prop := fun r μ2 => ∃ (σ : St) (g : Nat) (ok : Bool), bldS 40 (b0S μ) 1 0 T = (σ, g, ok) ∧ NI σ P T ∧ (∀ x j, ¬ inG x → σ x j = μ x j) ∧
  ((ok = true ∧ r = some (iN 1) ∧ GI σ T g ∧ (∀ k : Nat, k < g → nxP σ g k T) ∧ (∀ x k, x ≠ 214 → μ2 x k = σ x k) ∧ ahS σ g T μ2) ∨ (ok = false ∧ r = some (iN 0) ∧ μ2 = updS σ 128 1 0))
set_option maxHeartbeats 4000000 in
set_option maxRecDepth 100000 in
theorem c_build {l : Launch} (hlf : l.stackTraces = false) (D : va_G) (cy : Nat → ClassId) (B : Nat) {μ : St} {P T : Nat} (hN : NI μ P T) : PC l D cy B yX0_build wsX0_build (r0 4) [.ref (B + 128)] μ (buiQ μ P T) noX := by
  refine PC.pre (fun hR => ?_)
  refine q_start (cc := cX0_build) (maxL := 2) (ret := (some .boolean)) hlf (by decide +kernel) rfl (by simp [Value.category]) (Nat.le_of_ble_eq_true rfl) ?_
  intro p e s m args below meth c C hret hno
  show PW p l e (r0 4) s m args below meth c D cy B 2 0 0 _ 0 [some (.ref (B + 128)), none] [] μ
  have hT8 := hN.2.1
  have L : ∀ (n k g : Nat) (σ : St), n + k = 40 → NI σ P T → GI σ T g → k ≤ g → (∀ i : Nat, i < k → nxP σ g i T) → bldS n σ g k T = bldS 40 (b0S μ) 1 0 T → (∀ x j, ¬ inG x → σ x j = μ x j) → PW p l e (r0 4) s m args below meth c D cy B 2 0 0 (vx_MQ below (Qp D cy B (buiQ μ P T)) (Xp D cy B noX) args s (r0 4).cells (r0 4).slots (fun q => B ≤ q)) 31 [some (.ref (B + 128)), some (iN k)] [] σ := by
    intro n
    have FIN : ∀ (k g : Nat) (σ : St), k ≤ 40 → NI σ P T → GI σ T g → (∀ i : Nat, i < g → nxP σ g i T) → (σ, g, true) = bldS 40 (b0S μ) 1 0 T → (∀ x j, ¬ inG x → σ x j = μ x j) → PW p l e (r0 4) s m args below meth c D cy B 2 0 0 (vx_MQ below (Qp D cy B (buiQ μ P T)) (Xp D cy B noX) args s (r0 4).cells (r0 4).slots (fun q => B ≤ q)) 66 [some (.ref (B + 128)), some (iN k)] [] σ := by
      intro k g σ hk hN hG hL hf hout
      refine q_aload_n (pc := 66) C dX0_build_66 rfl rfl ?_
      refine q_callV (pc := 67) (As := []) (rest := []) C (c_lookAhead hlf D cy B (g := g) (T := T) hG.2.1 hG.2.2.1 hT8 hN.2.2.2.1 hL) (cwV 0 C.2.2.2.2.1 gX0_build_X0_lookAhead rfl rfl rfl (by decide +kernel) ⟨Nat.le_of_ble_eq_true rfl, Nat.le_of_ble_eq_true rfl⟩) (ci := 0) rfl k128 (by decide) (by decide) rfl rfl (by first | decide | simp [Value.category]) dX0_build_67 (by decide) (fun _ _ h => h.elim) (fun v σ9 hv => ?_)
      obtain ⟨hv1, hv2, hv3⟩ := hv
      subst hv1
      dsimp only [Option.toList, List.cons_append, List.nil_append]
      refine q_iconst (pc := 70) C dX0_build_70 ?_
      exact q_zret (pc := 71) C hret (by first | exact Or.inl rfl | exact Or.inr rfl | assumption) ⟨σ, g, true, hf.symm, hN, hout, Or.inl ⟨rfl, rfl, hG, hL, hv2, hv3⟩⟩ (by decide) (by decide) dX0_build_71
    induction n with
    | zero =>
      intro k g σ hnk hN hG hkg hL hf hout
      have hg40 := hG.2.1
      refine q_iload_n (pc := 31) C dX0_build_31 rfl rfl ?_
      refine q_bipush (pc := 32) C (by decide +kernel) dX0_build_32 ?_
      refine q_icmp_ge (pc := 34) (tgt := 66) C (by first | exact hR _ _ | exact hRo _ _ | assumption | exact ⟨by omega, by omega⟩) (by first | exact hR _ _ | exact hRo _ _ | assumption | exact ⟨by omega, by omega⟩) dX0_build_34 (by decide) (fun hc => ?_) (fun hc => ?_)
      · exact FIN k g σ (by omega) hN hG (fun i hi => hL i (by omega)) hf hout
      · exact absurd hc (by omega)
    | succ n ih =>
      intro k g σ hnk hN hG hkg hL hf hout
      have hsz := hG.2.2.1
      have hg40 := hG.2.1
      refine q_rng (fun hR => ?_)
      refine q_iload_n (pc := 31) C dX0_build_31 rfl rfl ?_
      refine q_bipush (pc := 32) C (by decide +kernel) dX0_build_32 ?_
      refine q_icmp_ge (pc := 34) (tgt := 66) C (by first | exact hR _ _ | exact hRo _ _ | assumption | exact ⟨by omega, by omega⟩) (by first | exact hR _ _ | exact hRo _ _ | assumption | exact ⟨by omega, by omega⟩) dX0_build_34 (by decide) (fun hc => ?_) (fun hc => ?_)
      · exact absurd hc (by omega)
      · refine q_iload_n (pc := 37) C dX0_build_37 rfl rfl ?_
        refine q_aload_n (pc := 38) C dX0_build_38 rfl rfl ?_
        refine q_getI (pc := 39) (ci := 0) (k := 1) (ki := 1) C rfl rfl fiX0_build_X0 (by decide) k128 (by decide) rfl (by decide) flX0_build_48 rfl rfl dX0_build_39 ?_
        refine q_icmp_ge (pc := 42) (tgt := 66) C (by first | exact hR _ _ | exact hRo _ _ | assumption | exact ⟨by omega, by omega⟩) (by first | exact hR _ _ | exact hRo _ _ | assumption | exact ⟨by omega, by omega⟩) dX0_build_42 (by decide) (fun hd => ?_) (fun hd => ?_)
        · rw [bldS_succ, if_neg (by omega)] at hf
          exact FIN k g σ (by omega) hN hG (fun i hi => hL i (by omega)) hf hout
        · have hkg2 : k < g := by omega
          rw [bldS_succ, if_pos hkg2] at hf
          refine q_aload_n (pc := 45) C dX0_build_45 rfl rfl ?_
          refine q_iload_n (pc := 46) C dX0_build_46 rfl rfl ?_
          refine q_callV (pc := 47) (As := [_]) (rest := []) C (c_follow hlf D cy B (P := P) (T := T) (g := g) (k := k) hN hG hkg2 hL) (cwV 1 C.2.2.2.2.1 gX0_build_X0_follow rfl rfl rfl (by decide +kernel) ⟨Nat.le_of_ble_eq_true rfl, Nat.le_of_ble_eq_true rfl⟩) (ci := 0) rfl k128 (by decide) (by decide) rfl rfl (by first | decide | simp [Value.category]) dX0_build_47 (by decide) (fun _ _ h => h.elim) (fun v σ9 hv => ?_)
          obtain ⟨g9, ok, hv1, hv2, hv3, hv4, hv5⟩ := hv
          subst hv2
          dsimp only [Option.toList, List.cons_append, List.nil_append]
          rw [hv1] at hf
          cases ok with
          | true =>
            obtain ⟨hG9, hgg, hL9⟩ := hv5 rfl
            rw [if_pos rfl] at hf ⊢
            refine q_if_ne (pc := 50) (tgt := 60) C (by first | exact hR _ _ | exact hRo _ _ | assumption | exact ⟨by omega, by omega⟩) dX0_build_50 (by decide) (fun hq => ?_) (fun hq => ?_)
            · refine q_iinc (pc := 60) (lv2 := [_, _]) C dX0_build_60 (by decide) rfl rfl ?_
              refine q_goto (pc := 63) (tgt := 31) C dX0_build_63 (by decide) ?_
              refine ih (k + 1) g9 σ9 (by omega) hv3 hG9 (by omega) ?_ hf (fun x j hx => by rw [hv4 x j hx]; exact hout x j hx)
              intro i hi
              by_cases e : i = k
              · subst e; exact hL9.2
              · exact hL9.1 i (by omega)
            · exact absurd hq (by decide)
          | false =>
            rw [if_neg (show ¬ (false = true) by decide)] at hf ⊢
            refine q_if_ne (pc := 50) (tgt := 60) C (by first | exact hR _ _ | exact hRo _ _ | assumption | exact ⟨by omega, by omega⟩) dX0_build_50 (by decide) (fun hq => ?_) (fun hq => ?_)
            · exact absurd rfl hq
            · refine q_aload_n (pc := 53) C dX0_build_53 rfl rfl ?_
              refine q_iconst (pc := 54) C dX0_build_54 ?_
              refine q_put (pc := 55) (ci := 0) (k := 1) (ki := 1) (ty0 := tyX0) C rfl rfl fiX0_build_X0 (by decide) k128 (by decide) rfl (by decide) flX0_build_48 rfl tyX0_ok nmX0 rfl rfl rfl (by first | exact hR _ _ | exact hRo _ _ | assumption | exact ⟨by omega, by omega⟩) dX0_build_55 ?_
              refine q_iconst (pc := 58) C dX0_build_58 ?_
              exact q_zret (pc := 59) C hret (by first | exact Or.inl rfl | exact Or.inr rfl | assumption) ⟨σ9, g9, false, hf.symm, hv3, fun x j hx => by rw [hv4 x j hx]; exact hout x j hx, Or.inr ⟨rfl, rfl, rfl⟩⟩ (by decide) (by decide) dX0_build_59
  refine q_aload_n (pc := 0) C dX0_build_0 rfl rfl ?_
  refine q_getR (pc := 1) (ci := 0) (k := 8) (r := 215) C rfl fiX0_build_X0 (by decide) k128 (by decide) rfl (by decide) flX0_build_32 rfl rfl dX0_build_1 ?_
  refine q_aload_n (pc := 4) C dX0_build_4 rfl rfl ?_
  refine q_getR (pc := 5) (ci := 0) (k := 0) (r := 1) C rfl fiX0_build_X0 (by decide) k128 (by decide) rfl (by decide) flX0_build_35 rfl rfl dX0_build_5 ?_
  refine q_getRN (pc := 8) (ci := 1) (k := 2) (r := 2) C rfl fiX0_build_X1 (by decide) k1 (by decide) rfl (by decide) (by decide +kernel) rfl rfl dX0_build_8 ?_
  refine q_callSN (pc := 11) (As := [_, _]) (rest := []) C (c_copyInto hlf D cy B (a := 215) (b := 2) k215 n215 (by decide) k2 n2 (by decide)) ⟨va_cnB (host := "CoverTrees") (index := 44) 2 C.2.2.2.2.1 gX0_build_X3_copyInto_n44 rfl rfl rfl (C.2.2.2.2.2.1.2.2.1 (RX0, 44, yX3_copyInto) (by decide +kernel)) (C.2.2.2.2.1 _ (by decide +kernel)) (by decide +kernel) ⟨Nat.le_of_ble_eq_true rfl, Nat.le_of_ble_eq_true rfl⟩, C.2.2.2.2.1 _ (by decide +kernel), trivial⟩ rfl rfl (by first | decide | simp [Value.category]) dX0_build_11 (by decide) (fun _ _ h => h.elim) (fun v μ9 hv => ?_)
  have e8 := hv.1
  have e9 := hv.2.symm
  clear hv
  subst e8
  subst e9
  dsimp only [Option.toList, List.cons_append, List.nil_append]
  refine q_aload_n (pc := 14) C dX0_build_14 rfl rfl ?_
  refine q_iconst (pc := 15) C dX0_build_15 ?_
  refine q_put (pc := 16) (ci := 0) (k := 1) (ki := 1) (ty0 := tyX0) C rfl rfl fiX0_build_X0 (by decide) k128 (by decide) rfl (by decide) flX0_build_48 rfl tyX0_ok nmX0 rfl rfl rfl (by first | exact hR _ _ | exact hRo _ _ | assumption | exact ⟨by omega, by omega⟩) dX0_build_16 ?_
  refine q_aload_n (pc := 19) C dX0_build_19 rfl rfl ?_
  refine q_bipush (pc := 20) C (by decide +kernel) dX0_build_20 ?_
  refine q_bipush (pc := 22) C (by decide +kernel) dX0_build_22 ?_
  refine q_iconst (pc := 24) C dX0_build_24 ?_
  refine q_callV (pc := 25) (As := [_, _, _]) (rest := []) C (c_addState hlf D cy B (g := 0) (f := -2) (b := -2) (d := 0) (by decide) (updS_self _ _ _ _) ⟨by decide, by decide⟩ ⟨by decide, by decide⟩ ⟨by decide, by decide⟩) (cwV 3 C.2.2.2.2.1 gX0_build_X0_addState rfl rfl rfl (by decide +kernel) ⟨Nat.le_of_ble_eq_true rfl, Nat.le_of_ble_eq_true rfl⟩) (ci := 0) rfl k128 (by decide) (by decide) rfl rfl (by first | decide | simp [Value.category]) dX0_build_25 (by decide) (fun _ _ h => h.elim) (fun v σ9 hv => ?_)
  obtain ⟨hv1, hv2⟩ := hv
  subst hv1
  have hv2 := hv2.symm
  subst hv2
  dsimp only [Option.toList, List.cons_append, List.nil_append]
  refine q_mu (μ2 := b0S μ) rfl ?_
  refine q_pop (pc := 28) C rfl dX0_build_28 ?_
  refine q_iconst (pc := 29) C dX0_build_29 ?_
  refine q_istore_n (pc := 30) (lv2 := [_, _]) C dX0_build_30 rfl (by decide) rfl ?_
  exact L 40 0 1 (b0S μ) rfl (NI_b0 hN) (GI_b0 hN) (by omega) (fun i hi => absurd hi (by omega)) rfl (fun x j hx => b0S_out μ hx j)

