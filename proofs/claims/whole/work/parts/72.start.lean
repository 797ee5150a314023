theorem fiL_law_X3 : ∀ w ∈ u_ws RX3 TX3 4, w ∈ wsL_law := by decide +kernel
theorem fiL_law_X4 : ∀ w ∈ u_ws RX4 TX4 22, w ∈ wsL_law := by decide +kernel
abbrev rf9 : Nat → Nat → Bool := (rfS (rfS (rfS (rfS (rfS (rfS (rfS (rfS (rfS (rfS (rfS (rfS (rfS (rfS (rfS (rfS (rfS (rfS (rfS (rfS (rfS (rfS (rfS (rfS (rfS (rfS (rfS (rfS (rfS (rfS (rfS (rfS (rfS (rfS (rfS (rfS rz 1 2) 1 3) 1 4) 0 0) 0 1) 22 4) 22 5) 22 6) 22 7) 22 8) 22 0) 0 2) 128 2) 128 3) 128 4) 128 5) 128 6) 128 7) 128 8) 128 0) 0 3) 216 3) 216 4) 216 5) 216 6) 216 8) 216 9) 216 10) 216 11) 216 12) 216 16) 216 17) 216 18) 216 19) 216 20) 216 21)
abbrev μ9 : St := (updS (updS μz 216 7 (-1)) 216 15 (-1))
theorem rf9_all : ∀ a : Nat, a < 233 → kd a < 5 → ∀ k : Nat, k < 22 → (rfo a k).isSome = true → rf9 a k = true := by decide +kernel
theorem WR_WL {D : va_G} {cy : Nat → ClassId} {B : Nat} {μ : St} {H : Heap} (h : va_P D vwCl (WR B cy rf9 μ 233) H) : va_P D vwCl (WL B cy μ) H := by
  intro i q hq
  obtain ⟨hi, rfl⟩ := WL_at hq
  have h9 := h i _ (WR_get hi)
  have e : entR B cy rf9 μ i = ent B cy μ i := by
    by_cases h5 : kd i < 5
    · unfold entR ent
      rw [if_pos h5, if_pos h5]
      congr 2
      unfold entQ entO
      refine List.map_congr_left (fun k hk => ?_)
      have hk2 : k < 22 := by
        have := List.mem_range.mp hk
        have : nf (kd i) ≤ 22 := by unfold nf; split <;> (try split) <;> (try split) <;> (try split) <;> omega
        omega
      cases hr : rfo i k with
      | none => rfl
      | some r =>
        have := rf9_all i hi h5 k hk2 (by rw [hr]; rfl)
        simp only [this, if_true]
    · exact entR_arr h5
  rw [← e]
  exact h9
theorem GG9 : GG μ9 0 0 := by
  have e : ∀ (a : Nat) (k : Int), ¬ a = 216 → μ9 a k = 0 := fun a k h => by
    show updS (updS μz 216 7 (-1)) 216 15 (-1) a k = 0
    rw [updS_ne _ _ _ _ h, updS_ne _ _ _ _ h]
  have e1 : μ9 216 1 = 0 := rfl
  have e2 : μ9 216 2 = 0 := rfl
  have e7 : μ9 216 7 = -1 := rfl
  have e15 : μ9 216 15 = -1 := rfl
  refine ⟨⟨by decide, by decide, e 1 _ (by decide), e 1 _ (by decide), fun q hq => ?_, fun t q ht hq => ?_⟩, fun q hq _ => ⟨e 2 _ (by decide), e 21 _ (by decide), fun t ht => ⟨e _ _ (by omega), e _ _ (by omega)⟩⟩, fun q hq => ?_, ⟨e1, e2, fun q hq => ?_, fun q hq => ?_, fun t q ht hq => ⟨?_, ?_⟩⟩, Or.inl ⟨e 22 _ (by decide), e7⟩, Or.inl ⟨e 128 _ (by decide), e15⟩⟩
  · rw [e 2 _ (by decide)]; exact ⟨by decide, by decide⟩
  · rw [e _ _ (by omega), e _ _ (by omega)]; exact ⟨by decide, by decide, by decide, by decide⟩
  · rw [e 21 _ (by decide)]; exact ⟨by decide, by decide⟩
  · rw [e 217 _ (by decide), e 2 _ (by decide)]
  · rw [e 218 _ (by decide), e 21 _ (by decide)]
  · rw [e 219 _ (by decide), e _ _ (by omega)]
  · rw [e 220 _ (by decide), e _ _ (by omega)]
theorem InRg9 : InRg μ9 := fun a k => by
  show InR (updS (updS μz 216 7 (-1)) 216 15 (-1) a k)
  unfold updS
  split
  · exact ⟨by decide, by decide⟩
  · split
    · exact ⟨by decide, by decide⟩
    · exact r_0
set_option maxHeartbeats 4000000 in
set_option maxRecDepth 100000 in
theorem law_start {p : Program} {l : Launch} {e : Env} {s : State} {m : MethodId} {below : List Frame} {meth : Method} {c : Code} {D : va_G} {cy : Nat → ClassId} {B b L : Nat} {xs : Nat → Int32} (hlf : l.stackTraces = false) (C : Cz p l s m #[Value.ref b] meth c cL_law 7 RL wsL_law D cy B) (hret : meth.sig.returnType = ret) (hX : va_X b L xs s s.heap) (hbs : b < s.heap.size) (hBs : B = s.heap.size) (hL : L ≤ 2560) : PV p l e room_1 s m #[Value.ref b] below meth c D cy B 7 0 0 (lw_Z below #[Value.ref b] s) 0 [some (.ref b), none, none, none, none, none, none] [] rz μz 0 := by
  refine v_new (pc := 0) (ci := 3) (N := 4) C rfl fiL_law_X3 tyX3_ok (by decide +kernel) (by decide +kernel) (by decide +kernel) (by decide) (by decide) rfl (fun j hj => by rcases (show j = 0 ∨ j = 1 ∨ j = 2 ∨ j = 3 by omega) with rfl | rfl | rfl | rfl <;> rfl) (Nat.le_of_ble_eq_true rfl) (Nat.le_of_ble_eq_true rfl) dL_law_0 ?_
  refine v_dup (pc := 3) C rfl dL_law_3 ?_
  refine v_callI (pc := 4) (As := []) (rest := [_]) C (iX3_init D cy B) (cwI 0 C.1.2.2.2.2 gL_law_X3_init rfl rfl rfl (C.1.2.2.2.2 _ (by decide +kernel)) (C.1.2.2.2.2 _ (by decide +kernel)) (C.1.2.2.2.2 _ (by decide +kernel)) rfl (by decide +kernel) ⟨Nat.le_of_ble_eq_true rfl, Nat.le_of_ble_eq_true rfl⟩) rfl rfl (by simp [Value.category]) dL_law_4 (by decide) ?_
  refine v_astore_n (pc := 7) (lv2 := [_, _, _, _, _, _, _]) C dL_law_7 rfl (by decide) rfl ?_
  refine v_new (pc := 8) (ci := 4) (N := 22) C rfl fiL_law_X4 tyX4_ok (by decide +kernel) (by decide +kernel) (by decide +kernel) (by decide) (by decide) rfl (fun j hj => by rcases (show j = 0 ∨ j = 1 ∨ j = 2 ∨ j = 3 ∨ j = 4 ∨ j = 5 ∨ j = 6 ∨ j = 7 ∨ j = 8 ∨ j = 9 ∨ j = 10 ∨ j = 11 ∨ j = 12 ∨ j = 13 ∨ j = 14 ∨ j = 15 ∨ j = 16 ∨ j = 17 ∨ j = 18 ∨ j = 19 ∨ j = 20 ∨ j = 21 by omega) with rfl | rfl | rfl | rfl | rfl | rfl | rfl | rfl | rfl | rfl | rfl | rfl | rfl | rfl | rfl | rfl | rfl | rfl | rfl | rfl | rfl | rfl <;> rfl) (Nat.le_of_ble_eq_true rfl) (Nat.le_of_ble_eq_true rfl) dL_law_8 ?_
  refine v_dup (pc := 11) C rfl dL_law_11 ?_
  refine v_callI (pc := 12) (As := []) (rest := [_]) C (iX4_init D cy B (rfS (rfS (rfS (rfS (rfS (rfS (rfS (rfS (rfS (rfS (rfS (rfS (rfS (rfS (rfS (rfS (rfS (rfS (rfS (rfS (rfS rz 1 2) 1 3) 1 4) 0 0) 0 1) 22 4) 22 5) 22 6) 22 7) 22 8) 22 0) 0 2) 128 2) 128 3) 128 4) 128 5) 128 6) 128 7) 128 8) 128 0) 0 3)) (cwI 0 C.1.2.2.2.2 gL_law_X4_init rfl rfl rfl (C.1.2.2.2.2 _ (by decide +kernel)) (C.1.2.2.2.2 _ (by decide +kernel)) (C.1.2.2.2.2 _ (by decide +kernel)) rfl (by decide +kernel) ⟨Nat.le_of_ble_eq_true rfl, Nat.le_of_ble_eq_true rfl⟩) rfl rfl (by simp [Value.category]) dL_law_12 (by decide) ?_
  refine v_astore_n (pc := 15) (lv2 := [_, _, _, _, _, _, _]) C dL_law_15 rfl (by decide) rfl ?_
  refine v_iconst (pc := 16) C dL_law_16 ?_
  refine v_newa (pc := 17) (atype := .long) (ty := .long) (N := 1) (t0 := 3) (t9 := 8) C rfl (by decide +kernel) rfl (fun _ h => h) (by decide) (by decide) (by decide) (by decide) (he_long (by decide) (by decide) (fun _ => by simp only [updS_ap]; simp)) (Nat.le_of_ble_eq_true rfl) (Nat.le_of_ble_eq_true rfl) dL_law_17 ?_
  refine v_astore_n (pc := 19) (lv2 := [_, _, _, _, _, _, _]) C dL_law_19 rfl (by decide) rfl ?_
  intro H locs ls hP hz hS hl
  have C2 : Cx p l s m #[Value.ref b] meth c cL_law 7 RL wsL_law D cy B := ⟨C.1.1, C.1.2.1, C.1.2.2.1, C.1.2.2.2.1, C.1.2.2.2.2, C.2.1, C.2.2.1, C.2.2.2.1, hlf⟩
  have K := law_loop (e := e) (below := below) hlf C2 hret hX hbs hBs hL 512 0 μ9 0 0 233 3874 GG9 (by decide) (by decide) (by omega) (by omega)
  have K2 := q_iconst (pc := 20) C2 dL_law_20 (q_istore (pc := 21) (lv := [some (.ref b), some (.ref (B + 0)), some (.ref (B + 216)), some (.ref (B + 232)), none, none, none]) C2 dL_law_21 (by decide) rfl K)
  exact K2 InRg9 H locs ls (WR_WL hP) hS hl

