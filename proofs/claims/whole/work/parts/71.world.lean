theorem bi_NWF : ∀ q ∈ NWF, Cond.fieldLinkNest q.1 q.2.1 q.2.2.1 q.2.2.2.1 q.2.2.2.2 "CoverTrees" ∈ lw_tbl := by decide +kernel
theorem bi_NWM : ∀ q ∈ NWM, Cond.methodLinkNest q.1 q.2.1 q.2.2 "CoverTrees" ∈ lw_tbl := by decide +kernel
theorem bi_SLs : ∀ q ∈ SLs, Cond.stringRef q.1 q.2.1 q.2.2 ∈ lw_tbl := by decide +kernel
theorem bi_SL2 : ∀ q ∈ SLs, Cond.exactly (.string q.1 q.2.1) "java/lang/String" ∈ flatC (Jvm.Cond.and given_1 narrow_1) := by decide +kernel
theorem bi_NCs : ∀ q ∈ NCs, Cond.not (.castable q.1 q.2) ∈ flatC (Jvm.Cond.and given_1 narrow_1) := by decide +kernel
theorem bi_NDs : ∀ q ∈ NDs, Cond.declares q ∈ lw_tbl := by decide +kernel
theorem bi_NEs : ∀ q ∈ NEs, Cond.castable q q ∈ lw_tbl := by decide +kernel
theorem bi_X0 : ∀ w ∈ u_ws RX0 TX0 9, w ∈ lw_tbl := by decide +kernel
theorem bi_X1 : ∀ w ∈ u_ws RX1 TX1 5, w ∈ lw_tbl := by decide +kernel
theorem bi_X2 : ∀ w ∈ u_ws RX2 TX2 9, w ∈ lw_tbl := by decide +kernel
theorem bi_X3 : ∀ w ∈ u_ws RX3 TX3 4, w ∈ lw_tbl := by decide +kernel
theorem bi_X4 : ∀ w ∈ u_ws RX4 TX4 22, w ∈ lw_tbl := by decide +kernel
theorem bi_iX0 : Cond.instantiable RX0 9 ∈ lw_tbl := by decide +kernel
theorem bi_iX1 : Cond.instantiable RX1 5 ∈ lw_tbl := by decide +kernel
theorem bi_iX2 : Cond.instantiable RX2 9 ∈ lw_tbl := by decide +kernel
theorem bi_iX3 : Cond.instantiable RX3 4 ∈ lw_tbl := by decide +kernel
theorem bi_iX4 : Cond.instantiable RX4 22 ∈ lw_tbl := by decide +kernel
theorem bi_int : Cond.arrayClass .int ∈ lw_tbl := by decide +kernel
theorem bi_bool : Cond.arrayClass .boolean ∈ lw_tbl := by decide +kernel
theorem bi_long : Cond.arrayClass .long ∈ lw_tbl := by decide +kernel
theorem bi_over : Cond.arrayOver (.array .int) ∈ lw_tbl := by decide +kernel
theorem bi_l1 : Cond.laysStatic Bundle.tN "UNASSIGNED_STACK" Bundle.steD ∈ lw_tbl := by decide +kernel
theorem bi_l2 : Cond.laysStatic Bundle.tN "SUPPRESSED_SENTINEL" Bundle.listD ∈ lw_tbl := by decide +kernel
theorem bi_l3 : Cond.initialized Bundle.tN ∈ lw_tbl := by decide +kernel
theorem bi_l4 : Cond.isRef (.static Bundle.tN "UNASSIGNED_STACK" Bundle.steD) ∈ flatC (Jvm.Cond.and given_1 narrow_1) := by decide +kernel
theorem bi_l5 : Cond.isRef (.static Bundle.tN "SUPPRESSED_SENTINEL" Bundle.listD) ∈ flatC (Jvm.Cond.and given_1 narrow_1) := by decide +kernel
/- the world at the law's entry -/
theorem lw_EF {p : Program} {s : State} {m : MethodId} {meth : Method} {c : Code} {b L : Nat} {xs : Nat → Int32} (C0 : lw_At p s m meth c b L xs) : ∃ (D : va_G) (cy : Nat → ClassId), EF D cy s.heap.size s ∧ AO s := by
  obtain ⟨hx, hb, hr, hml, hown, hts, hX, hbl, hlk, hgv⟩ := C0
  have hs := flat_of_before _ hgv
  have hA : ∀ a : Nat, a < s.heap.size → ¬ s.heap.size ≤ a := fun a h => by omega
  obtain ⟨c0, i0, u0⟩ := u_known hts bi_X0 (hts _ bi_iX0)
  obtain ⟨c1, i1, u1⟩ := u_known hts bi_X1 (hts _ bi_iX1)
  obtain ⟨c2, i2, u2⟩ := u_known hts bi_X2 (hts _ bi_iX2)
  obtain ⟨c3, i3, u3⟩ := u_known hts bi_X3 (hts _ bi_iX3)
  obtain ⟨c4, i4, u4⟩ := u_known hts bi_X4 (hts _ bi_iX4)
  obtain ⟨a5, k5, m5, f5, g5, h5⟩ := Cond.arrayClass_spec (hts _ bi_int)
  obtain ⟨a6, k6, m6, f6, g6, h6⟩ := Cond.arrayClass_spec (hts _ bi_bool)
  obtain ⟨a8, k8, m8, f8, g8, h8⟩ := Cond.arrayClass_spec (hts _ bi_long)
  have hAO : AO s := mw_over (hts _ bi_over)
  obtain ⟨m7, a7, k7, e7, g7, h7, f7⟩ := hAO
  refine ⟨(fun j => if j = 0 then c0 else if j = 1 then c1 else if j = 2 then c2 else if j = 3 then c3 else c4, fun j => if j = 0 then i0 else if j = 1 then i1 else if j = 2 then i2 else if j = 3 then i3 else i4), (fun j => if j = 5 then a5 else if j = 6 then a6 else if j = 7 then a7 else a8), ⟨⟨?_, ?_⟩, ?_, ?_, ?_, ?_, ?_, ?_, ?_, ?_⟩, ⟨m7, a7, k7, e7, g7, h7, f7⟩⟩
  · intro j q hj
    have h5 : j < 5 := (List.getElem?_eq_some_iff.mp hj).1
    rcases (show j = 0 ∨ j = 1 ∨ j = 2 ∨ j = 3 ∨ j = 4 by omega) with rfl | rfl | rfl | rfl | rfl <;> cases hj
    · exact u0
    · exact u1
    · exact u2
    · exact u3
    · exact u4
  · intro j q hj
    have h5 : j < 4 := (List.getElem?_eq_some_iff.mp hj).1
    rcases (show j = 0 ∨ j = 1 ∨ j = 2 ∨ j = 3 by omega) with rfl | rfl | rfl | rfl <;> cases hj
    · exact ⟨fun n z => ⟨fun k h => (by cases h), k5, g5, m5, by assumption⟩, f5⟩
    · exact ⟨fun n z => ⟨fun k h => (by cases h), k6, g6, m6, h6⟩, f6⟩
    · exact ⟨fun n z => ⟨fun k h => (by cases h), k7, g7, m7, h7⟩, f7⟩
    · exact ⟨fun n z => ⟨fun k h => (by cases h), k8, g8, m8, h8⟩, f8⟩
  · exact fun q hq => va_Nw.of rfl (hts _ (bi_NWF q hq))
  · exact fun q hq => va_Nw.of rfl (hts _ (bi_NWM q hq))
  · exact vx_Zqof (hts _ bi_l1) (hts _ bi_l3) (hs _ bi_l4) hA
  · exact vx_Zqof (hts _ bi_l2) (hts _ bi_l3) (hs _ bi_l5) hA
  · intro q hq
    obtain ⟨a, _, _, _, q1, -⟩ := Cond.exactly_spec (hs _ (bi_SL2 q hq))
    exact ⟨a, vk_R.of (A := #[Value.ref b]) (hts _ (bi_SLs q hq)) q1⟩
  · exact fun q hq => va_Nc.of (hs _ (bi_NCs q hq))
  · exact fun q hq => va_Nw.of rfl (hts _ (bi_NDs q hq))
  · exact fun q hq => va_Nw.of rfl (hts _ (bi_NEs q hq))

