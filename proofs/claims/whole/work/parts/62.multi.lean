section
variable {E : CtlPost} {e : Env} {d : Bool} {acts : List Action} {s : State}
/- an array of N rows, of which i stand; a row of M ints; both as they are made -/
def mwO (cA : ClassId) (N h0 i : Nat) : Cell := arrV cA N (fun j => if j < i then .ref (h0 + 1 + j) else .null)
def mwI (cB : ClassId) (M : Nat) : Cell := arrV cB M (fun _ => .int 0)
def mwS (s : State) (cA cB : ClassId) (N M : Nat) : Nat → State
  | 0 => s.pushCell (mwO cA N s.heap.size 0)
  | i + 1 => ((mwS s cA cB N M i).pushCell (mwI cB M)).setCell s.heap.size (mwO cA N s.heap.size (i + 1))
theorem mwO_size (cA : ClassId) (N h0 i : Nat) : (mwO cA N h0 i).slots.size = N := arrV_size _ _ _
theorem mwI_size (cB : ClassId) (M : Nat) : (mwI cB M).slots.size = M := arrV_size _ _ _
theorem mwO_next (cA : ClassId) (N h0 i : Nat) : (mwO cA N h0 i).setSlot i (.ref (h0 + 1 + i)) = mwO cA N h0 (i + 1) := by
  unfold mwO
  rw [arrV_store]
  congr 1
  funext j
  unfold updV
  by_cases h : j = i
  · subst h
    simp
  · by_cases h2 : j < i
    · have : j < i + 1 := by omega
      simp [h, h2, this]
    · have : ¬ j < i + 1 := by omega
      simp [h, h2, this]
theorem mwS_at (s : State) (cA cB : ClassId) (N M : Nat) : ∀ i : Nat, (mwS s cA cB N M i).heap.size = s.heap.size + 1 + i ∧ (mwS s cA cB N M i).heap[s.heap.size]? = some (mwO cA N s.heap.size i) ∧ (mwS s cA cB N M i).vm = s.vm ∧ (mwS s cA cB N M i).slotsUsed = s.slotsUsed + N + i * M
  | 0 => ⟨by simp [mwS], by simp [mwS], rfl, by simp [mwS, mwO_size]⟩
  | i + 1 => by
    obtain ⟨h1, h2, h3, h4⟩ := mwS_at s cA cB N M i
    have hl : s.heap.size < (mwS s cA cB N M i).heap.size := by omega
    have h5 : ((mwS s cA cB N M i).pushCell (mwI cB M)).heap[s.heap.size]? = some (mwO cA N s.heap.size i) := by
      rw [State.heap_pushCell_of_lt (h := hl)]
      exact h2
    refine ⟨?_, State.heap_setCell_self h5, by simp [mwS, h3], ?_⟩
    · simp [mwS, State.setCell, h1]
      omega
    · simp [mwS, h4, mwI_size, Nat.succ_mul]
      omega
theorem mwS_top (s : State) (f : JFrame) (cA cB : ClassId) (N M : Nat) : ∀ i : Nat, mwS (s.setTop f) cA cB N M i = (mwS s cA cB N M i).setTop f
  | 0 => rfl
  | i + 1 => by simp only [mwS, mwS_top s f cA cB N M i, State.heap_setTop, State.pushCell_setTop, State.setCell_setTop]
theorem mwS_old (s : State) (cA cB : ClassId) (N M : Nat) {a : Addr} (ha : a < s.heap.size) : ∀ i : Nat, (mwS s cA cB N M i).heap[a]? = s.heap[a]?
  | 0 => State.heap_pushCell_of_lt _ _ ha
  | i + 1 => by
    have h1 := (mwS_at s cA cB N M i).1
    show (((mwS s cA cB N M i).pushCell (mwI cB M)).setCell s.heap.size _).heap[a]? = _
    rw [State.heap_setCell_other (Nat.ne_of_gt ha), State.heap_pushCell_of_lt (h := Nat.lt_of_lt_of_le ha (by rw [h1]; omega))]
    exact mwS_old s cA cB N M ha i
theorem mwS_row (s : State) (cA cB : ClassId) (N M : Nat) : ∀ i j : Nat, j < i → (mwS s cA cB N M i).heap[s.heap.size + 1 + j]? = some (mwI cB M)
  | 0, _, h => absurd h (by omega)
  | i + 1, j, h => by
    have h1 := (mwS_at s cA cB N M i).1
    show (((mwS s cA cB N M i).pushCell (mwI cB M)).setCell s.heap.size _).heap[s.heap.size + 1 + j]? = _
    rw [State.heap_setCell_other (show s.heap.size ≠ s.heap.size + 1 + j by omega)]
    by_cases hj : j = i
    · subst hj
      rw [← h1]
      exact State.heap_pushCell_size _ _
    · rw [State.heap_pushCell_of_lt (h := show s.heap.size + 1 + j < (mwS s cA cB N M i).heap.size by rw [h1]; omega)]
      exact mwS_row s cA cB N M i j (by omega)
theorem mw_one {c comp : ClassId} {k : Class} {ty : FieldType} {len : Nat} {v : Value} (hk : s.vm.classes[c]? = some k) (hkind : k.kind = .array comp ty) (hl : ¬ len > e.platform.arrayLengthLimit) (hb : ¬ len * componentBytes ty > e.platform.maxHeapBytes) (hfit : fits ty v = true) (hdef : v.isDefault = true) {Q : Addr → (Bool → List Action → State → Prop)} (h1 : s.heap.size < e.platform.maxCells) (h2 : s.slotsUsed + len ≤ e.platform.maxSlots) (hq : Q s.heap.size d acts (s.pushCell (arrV c len (fun _ => v)))) : wp (Jvm.newArray c len v) Q E e d acts s := by
  have hf : ∀ (i : Nat) (w : Value), (Array.replicate len v)[i]? = some w → s.fitsSlot c .none i w = true := by
    intro i w hw
    simp only [Array.getElem?_replicate] at hw
    split at hw
    · cases hw
      simp [State.fitsSlot, State.slotType?, hk, hkind, hfit]
    · cases hw
  have ha : allocActs (Array.replicate len v) s.heap.size acts = acts := by
    have hall : ((Array.replicate len v).all (·.isDefault)) = true := by
      rw [Array.all_replicate]
      split <;> simp [hdef]
    unfold allocActs
    rw [if_pos hall]
  rw [← arrV_new] at hq
  simp only [Jvm.newArray, Jvm.arrayFits, wp_bind', W.ask, W.ite, hl, if_false, wp_pure', W.theClass, hk, hkind, hb, W.alloc, W.stop, Option.some.injEq, exists_eq_left', Array.size_replicate, ha]
  rw [if_neg (by omega)]
  exact ⟨h1, h2, hf, hq⟩
theorem mw_make {cA cB cc : ClassId} {kA kB : Class} {n m : Int32} (hkA : s.vm.classes[cA]? = some kA) (hA : kA.kind = .array cB (.array .int)) (hkB : s.vm.classes[cB]? = some kB) (hB : kB.kind = .array cc .int) (hn : ¬ n < 0) (hm : ¬ m < 0)
    (l1 : ¬ n.toNatClampNeg > e.platform.arrayLengthLimit) (b1 : ¬ n.toNatClampNeg * 4 > e.platform.maxHeapBytes) (l2 : ¬ m.toNatClampNeg > e.platform.arrayLengthLimit) (b2 : ¬ m.toNatClampNeg * 4 > e.platform.maxHeapBytes)
    (hc : s.heap.size + 1 + n.toNatClampNeg ≤ e.platform.maxCells) (hs : s.slotsUsed + n.toNatClampNeg + n.toNatClampNeg * m.toNatClampNeg ≤ e.platform.maxSlots) {Q : Addr → (Bool → List Action → State → Prop)} (hq : ∀ d2 acts2, Q s.heap.size d2 acts2 (mwS s cA cB n.toNatClampNeg m.toNatClampNeg n.toNatClampNeg)) : wp (multianewarray.make cA [n, m]) Q E e d acts s := by
  have hfind : ([m].find? (· < 0)) = none := by simp [hm]
  have hz := Nat.zero_le (n.toNatClampNeg * m.toNatClampNeg)
  rw [multianewarray.make]
  simp only [wp_bind', W.ite, hn, if_false, wp_pure', W.theClass, hkA, hA, Option.some.injEq, exists_eq_left']
  refine mw_one hkA hA l1 b1 rfl rfl (by omega) (by omega) ?_
  simp only [hfind]
  rw [ite_self, wp_bind', Std.Legacy.Range.forIn_eq_forIn_range']
  rw [show ([:n.toNatClampNeg] : Std.Legacy.Range).size = n.toNatClampNeg by simp [Std.Legacy.Range.size]]
  show wp (forIn (List.range' 0 n.toNatClampNeg 1) PUnit.unit _) _ E e d acts _
  refine wp_forIn_inv (fun rest s2 => ∃ i : Nat, i ≤ n.toNatClampNeg ∧ rest = List.range' i (n.toNatClampNeg - i) ∧ s2 = mwS s cA cB n.toNatClampNeg m.toNatClampNeg i) _ _ ⟨0, Nat.zero_le _, rfl, ?_⟩ ?_ ?_
  · show s.pushCell _ = s.pushCell _
    congr 1
  · rintro z rest s2 d2 acts2 Q2 ⟨i, hi, hl, rfl⟩ hnext
    have hlt : i < n.toNatClampNeg := by
      refine Nat.lt_of_not_le (fun h => ?_)
      rw [show n.toNatClampNeg - i = 0 by omega] at hl
      simp at hl
    rw [show n.toNatClampNeg - i = (n.toNatClampNeg - (i + 1)) + 1 by omega, List.range'_succ] at hl
    obtain ⟨hz1, hz2⟩ := List.cons.inj hl
    subst hz1
    obtain ⟨f1, f2, f3, f4⟩ := mwS_at s cA cB n.toNatClampNeg m.toNatClampNeg z
    have hmul : z * m.toNatClampNeg + m.toNatClampNeg ≤ n.toNatClampNeg * m.toNatClampNeg := by
      have h9 := Nat.mul_le_mul_right m.toNatClampNeg (show z + 1 ≤ n.toNatClampNeg from hlt)
      rw [Nat.succ_mul] at h9
      exact h9
    have hl0 : s.heap.size < (mwS s cA cB n.toNatClampNeg m.toNatClampNeg z).heap.size := by omega
    simp only [wp_bind']
    rw [multianewarray.make]
    simp only [wp_bind', W.ite, hm, if_false, wp_pure', W.theClass, f3, hkB, hB, Option.some.injEq, exists_eq_left']
    refine mw_one (by rw [f3]; exact hkB) hB l2 b2 rfl rfl (by omega) (by omega) ?_
    simp only [wp_bind', W.writeLoc, wp_pure']
    refine ⟨mwO cA n.toNatClampNeg s.heap.size z, by rw [State.heap_pushCell_of_lt (h := hl0)]; exact f2, by simp [mwO, arrV], by rw [mwO_size]; exact hlt, ?_, hnext _ _ _ ⟨z + 1, hlt, hz2, ?_⟩⟩
    · simp [mwO, arrV, State.fitsSlot, State.slotType?, f3, hkA, hA, fits]
    · rw [f1, mwO_next]
      rfl
  · rintro s2 d2 acts2 ⟨i, hi, hl, rfl⟩
    have hin : i = n.toNatClampNeg := by
      refine Classical.byContradiction (fun h => ?_)
      rw [show n.toNatClampNeg - i = (n.toNatClampNeg - (i + 1)) + 1 by omega, List.range'_succ] at hl
      cases hl
    subst hin
    simp only [wp_pure']
    exact hq _ _
end
section
variable {p : Program} {l : Launch} {e : Env} {R : Room} {s : State} {m : MethodId} {args : Array Value} {below : List Frame} {meth : Method} {c : Code} {T : State} {locs : List Loc} {cells slots : Nat}
theorem mw_stand (X : Stand p l e R s m args below meth c T locs cells slots) (cA cB : ClassId) (N M : Nat) : ∀ i : Nat, Stand p l e R s m args below meth c (mwS T cA cB N M i) (locs ++ (List.range i).map fun j => (⟨T.heap.size, j⟩ : Loc)) (cells + 1 + i) (slots + N + i * M)
  | 0 => by
    have h := X.pushed (mwO cA N T.heap.size 0)
    rw [mwO_size] at h
    simpa [mwS] using h
  | i + 1 => by
    have Xi := mw_stand X cA cB N M i
    obtain ⟨f1, f2, f3, f4⟩ := mwS_at T cA cB N M i
    have hc : ((mwS T cA cB N M i).pushCell (mwI cB M)).heap[T.heap.size]? = some (mwO cA N T.heap.size i) := by
      rw [State.heap_pushCell_of_lt (h := show T.heap.size < (mwS T cA cB N M i).heap.size by rw [f1]; omega)]
      exact f2
    have h := (Xi.pushed (mwI cB M)).stored hc i (.ref (T.heap.size + 1 + i))
    rw [mwI_size, mwO_next] at h
    rw [List.range_succ, List.map_append, List.map_singleton, ← List.append_assoc, show slots + N + (i + 1) * M = slots + N + i * M + M by rw [Nat.succ_mul]; omega]
    exact h
/- the class of the arrays of int rows, over the class of its rows -/
def AO (U : State) : Prop := ∃ (comp cA : ClassId) (k : Class), U.vm.findClass "[I" = some comp ∧ U.vm.classes[cA]? = some k ∧ k.kind = .array comp (.array .int) ∧ U.vm.findClass "[[I" = some cA
theorem AO.moved {u U : State} (hvm : u.vm.Alike U.vm) (h : AO u) : AO U := by
  obtain ⟨comp, cA, k, h1, h2, h3, h4⟩ := h
  obtain ⟨k2, hk2, he⟩ := hvm.2.2 _ _ h2
  exact ⟨comp, cA, k2, by rw [hvm.findClass]; exact h1, hk2, by rw [he]; exact h3, by rw [hvm.findClass]; exact h4⟩
theorem mw_over {o : Option Outcome} {idx : List Nat} (h : (Cond.arrayOver (.array .int)).holds args s o s idx = true) : AO s := by
  simp only [Cond.holds, Cond.value, beq_iff_eq] at h
  cases hc : s.vm.findClass (FieldType.array .int).toString with
  | none => simp [hc] at h
  | some comp =>
    simp only [hc, Option.bind_some, Option.bind_eq_some_iff, Option.map_eq_some_iff] at h
    obtain ⟨cA, hi, k, hk, hb⟩ := h
    obtain ⟨hlt, hp, -⟩ := Array.findIdx?_eq_some_iff_getElem.mp hi
    have hkk : s.vm.classes[cA] = k := (Array.getElem?_eq_some_iff.mp hk).2
    rw [hkk] at hp
    cases hkind : k.kind with
    | array component ty =>
      rw [hkind] at hb hp
      simp at hb hp
      exact ⟨comp, cA, k, hc, hk, by rw [hkind, hp, hb.1], hb.2⟩
    | _ =>
      rw [hkind] at hb
      simp at hb
variable {H : Heap} {Q : State → Prop}
/- an array of N rows of M ints -/
theorem W_multi {cc : ByteArray} (hexec : p.tables.exec = Jvm.exec) (hb : c.code = cc) {own : String} {index : Nat} (hown : s.vm.findClass own = some m.cls) (hclink : (Cond.classLink own index "[[I").before args s = true) (hover : AO s) (harr : (Cond.arrayClass .int).before args s = true)
    {g : JFrame} (hg : g.method = m) (hdg : decode cc g.pc = .ok (.multianewarray index 2, 4)) {n k : Int32} {N M : Nat} {rest : List Value} (hstack : g.stack = .int k :: .int n :: rest) (hn : ¬ n < 0) (hk : ¬ k < 0) (hN : n.toNatClampNeg = N) (hM : k.toNatClampNeg = M) (hNb : N ≤ 100000) (hMb : M ≤ 100000) (hcells : cells + (1 + N) ≤ R.cells) (hslots : slots + (N + N * M) ≤ R.slots) {h : Nat} (hh : H.size = h)
    (kk : ∀ (H2 : Heap) (cA cB : ClassId), s.vm.findClass "[[I" = some cA → s.vm.findClass "[I" = some cB → H2[h]? = some (arrV cA N (fun j => if j < N then .ref (h + 1 + j) else .null)) → (∀ j : Nat, j < N → H2[h + 1 + j]? = some (arrV cB M (fun _ => .int 0))) → H2.size = h + 1 + N → (∀ q : Nat, q < h → H2[q]? = H[q]?) →
      W p l e R s m args below meth c H2 (locs ++ (List.range N).map fun j => (⟨h, j⟩ : Loc)) (cells + 1 + N) (slots + N + N * M) Q { g with pc := g.pc + 4, stack := .ref h :: rest }) : W p l e R s m args below meth c H locs cells slots Q g := by
  intro T hT X
  subst hT
  subst hb
  subst hh
  subst hN
  subst hM
  subst hg
  have hpl : e.platform.magicAccessors = ({} : Platform).magicAccessors := by rw [X.admits.platform]
  obtain ⟨cB, cA, kA, hcB, hkA, hkindA, hnameA⟩ := hover
  obtain ⟨cB2, kB, c9, hcB2, hkB, hkindB⟩ := Cond.arrayClass_spec harr
  have e9 : cB2 = cB := Option.some.inj (hcB2.symm.trans hcB)
  subst e9
  obtain ⟨c0, hfc0, hcl⟩ := Cond.classLink_spec hown hclink e.platform hpl
  have e8 : c0 = cA := Option.some.inj (hfc0.symm.trans hnameA)
  subst e8
  obtain ⟨hg1, hw1, hr1⟩ := State.classEntry (e := e) X.warmed hcl
  generalize T.vm.noted g.method.cls index (.cls c0) = vm1 at hg1 hw1 hr1
  obtain ⟨kA1, hkA1, heA⟩ := hw1.alike.2.2 _ _ hkA
  obtain ⟨kB1, hkB1, heB⟩ := hw1.alike.2.2 _ _ hkB
  have hkindA1 : kA1.kind = .array cB2 (.array .int) := by rw [heA]; exact hkindA
  have hkindB1 : kB1.kind = .array c9 .int := by rw [heB]; exact hkindB
  have X1 := X.noted hw1
  obtain ⟨ra, rb⟩ := X.roomAbove hcells hslots
  have XF := mw_stand X1 c0 cB2 n.toNatClampNeg k.toNatClampNeg n.toNatClampNeg
  obtain ⟨f1, f2, f3, f4⟩ := mwS_at (T.setVm vm1) c0 cB2 n.toNatClampNeg k.toNatClampNeg n.toNatClampNeg
  obtain ⟨t, a1, b1⟩ := kk (mwS (T.setVm vm1) c0 cB2 n.toNatClampNeg k.toNatClampNeg n.toNatClampNeg).heap c0 cB2 hfc0 hcB f2 (fun j hj => mwS_row (T.setVm vm1) c0 cB2 _ _ _ j hj) f1 (fun q hq => mwS_old (T.setVm vm1) c0 cB2 _ _ hq _) _ rfl XF
  refine ⟨t, ?_, b1⟩
  have l1 : ¬ n.toNatClampNeg > e.platform.arrayLengthLimit := by rw [Launch.admits_arrayLengthLimit X.admits]; omega
  have l2 : ¬ k.toNatClampNeg > e.platform.arrayLengthLimit := by rw [Launch.admits_arrayLengthLimit X.admits]; omega
  have m1 : ¬ n.toNatClampNeg * 4 > e.platform.maxHeapBytes := by rw [Launch.admits_maxHeapBytes X.admits]; omega
  have m2 : ¬ k.toNatClampNeg * 4 > e.platform.maxHeapBytes := by rw [Launch.admits_maxHeapBytes X.admits]; omega
  jvm_step X.here [hexec, hdg]
  simp only [multianewarray.sem, wp_bind', W.resolveClassAt_links (State.method?_setTop g X.here.top) hg1]
  rw [W.popN, if_neg (by decide)]
  refine ⟨g, State.topJava?_setTop' (s := T.setVm vm1) g X.here.top, [.int n, .int k], rest, rfl, hstack, ?_⟩
  simp only [List.mapM_cons, List.mapM_nil, wp_bind', wp_pure']
  refine mw_make (kA := kA1) (kB := kB1) (cB := cB2) (cc := c9) hkA1 hkindA1 hkB1 hkindB1 hn hk l1 m1 l2 m2 (by show T.heap.size + 1 + _ ≤ _; omega) (by show T.slotsUsed + _ + _ ≤ _; omega) (fun d2 acts2 => ?_)
  have eS : ((T.setTop g).setVm vm1).setTop { g with stack := rest } = (T.setVm vm1).setTop { g with stack := rest } := by
    show ((T.setVm vm1).setTop g).setTop _ = _
    rw [State.setTop_setTop]
  rw [eS, mwS_top]
  simp only [wp_bind', W.mark, W.pushRef, State.topJava?_setTop' _ XF.here.top, Option.some.injEq, exists_eq_left', State.setTop_setTop, State.heap_setTop]
  intro acts
  simp [jvm, XF.here.top]
  exact a1
end

