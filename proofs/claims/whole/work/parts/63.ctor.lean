section
/- which references of an object are laid; the cells from B on that stand -/
def rfS (rf : Nat → Nat → Bool) (a k : Nat) : Nat → Nat → Bool := fun b j => if b = a ∧ j = k then true else rf b j
def entQ (B : Nat) (rf : Nat → Nat → Bool) (μ : St) (a n : Nat) : List Value := (List.range n).map (fun k => match rfo a k with | some r => if rf a k then Value.ref (B + r) else .null | none => iN (μ a k))
def entR (B : Nat) (cy : Nat → ClassId) (rf : Nat → Nat → Bool) (μ : St) (a : Nat) : va_E := if kd a < 5 then .inr (kd a, entQ B rf μ a (nf (kd a))) else ent B cy μ a
def WR (B : Nat) (cy : Nat → ClassId) (rf : Nat → Nat → Bool) (μ : St) (n : Nat) : va_W := (List.range n).map (fun a => (B + a, entR B cy rf μ a))
theorem WR_get {B : Nat} {cy : Nat → ClassId} {rf : Nat → Nat → Bool} {μ : St} {n a : Nat} (h : a < n) : (WR B cy rf μ n)[a]? = some (B + a, entR B cy rf μ a) := by simp [WR, h]
theorem WR_at {B : Nat} {cy : Nat → ClassId} {rf : Nat → Nat → Bool} {μ : St} {n k : Nat} {q : Nat × va_E} (h : (WR B cy rf μ n)[k]? = some q) : k < n ∧ q = (B + k, entR B cy rf μ k) := by
  have hk : k < n := by
    have := (List.getElem?_eq_some_iff.mp h).1
    simpa [WR] using this
  rw [WR_get hk] at h
  exact ⟨hk, (Option.some.inj h).symm⟩
theorem entR_obj {B : Nat} {cy : Nat → ClassId} {rf : Nat → Nat → Bool} {μ : St} {a ci : Nat} (hk : kd a = ci) (h5 : ci < 5) : entR B cy rf μ a = .inr (ci, entQ B rf μ a (nf ci)) := by
  subst hk
  simp [entR, h5]
theorem entR_arr {B : Nat} {cy : Nat → ClassId} {rf : Nat → Nat → Bool} {μ : St} {a : Nat} (hk : ¬ kd a < 5) : entR B cy rf μ a = ent B cy μ a := if_neg hk
theorem entQ_ref {B : Nat} {rf : Nat → Nat → Bool} {μ : St} {a n k r : Nat} (hk : k < n) (hr : rfo a k = some r) (h : rf a k = true) : (entQ B rf μ a n)[k]? = some (.ref (B + r)) := by simp [entQ, hk, hr, h]
theorem entQ_setR {B : Nat} {rf : Nat → Nat → Bool} {μ : St} {a n k r : Nat} (hk : k < n) (hr : rfo a k = some r) : (entQ B rf μ a n).set k (.ref (B + r)) = entQ B (rfS rf a k) μ a n := by
  apply List.ext_getElem?
  intro i
  rw [List.getElem?_set]
  by_cases hi : k = i
  · subst hi
    simp [entQ, hk, hr, rfS]
  · rw [if_neg hi]
    by_cases hl : i < n
    · have h9 : ¬ (i = k) := fun z => hi z.symm
      simp [entQ, hl, rfS, h9]
    · simp [entQ, hl]
theorem entQ_setI {B : Nat} {rf : Nat → Nat → Bool} {μ : St} {a n k : Nat} (hk : k < n) (hr : rfo a k = none) (v : Int) : (entQ B rf μ a n).set k (iN v) = entQ B rf (updS μ a k v) a n := by
  apply List.ext_getElem?
  intro i
  rw [List.getElem?_set]
  by_cases hi : k = i
  · subst hi
    simp [entQ, hk, hr, updS]
  · rw [if_neg hi]
    by_cases hl : i < n
    · have h9 : (i : Int) ≠ (k : Int) := by omega
      simp [entQ, hl, updS, h9]
    · simp [entQ, hl]
theorem WR_more {D : va_G} {B n k : Nat} {cy : Nat → ClassId} {rf : Nat → Nat → Bool} {μ : St} {H H2 : Heap} (hP : va_P D vwCl (WR B cy rf μ n) H) (hz : H.size = B + n) (ho : ∀ q : Nat, q < B + n → H2[q]? = H[q]?) (hn : ∀ a : Nat, n ≤ a → a < n + k → va_at D vwCl (B + a, entR B cy rf μ a) H2) : va_P D vwCl (WR B cy rf μ (n + k)) H2 := by
  intro i q hq
  obtain ⟨hi, rfl⟩ := WR_at hq
  by_cases h : i < n
  · exact (hP i _ (WR_get h)).kept (ho (B + i) (by omega))
  · exact hn i (by omega) hi
theorem WR_new {D : va_G} {B n a : Nat} {cy : Nat → ClassId} {rf rf2 : Nat → Nat → Bool} {μ μ2 : St} {H H2 : Heap} (hP : va_P D vwCl (WR B cy rf μ n) H) (ho : ∀ q : Nat, q ≠ B + a → H2[q]? = H[q]?) (he : ∀ b : Nat, b < n → b ≠ a → entR B cy rf2 μ2 b = entR B cy rf μ b) (ha : va_at D vwCl (B + a, entR B cy rf2 μ2 a) H2) : va_P D vwCl (WR B cy rf2 μ2 n) H2 := by
  intro i q hq
  obtain ⟨hi, rfl⟩ := WR_at hq
  by_cases h : i = a
  · subst h
    exact ha
  · rw [he i hi h]
    exact (hP i _ (WR_get hi)).kept (ho (B + i) (by omega))
theorem entR_ne {B : Nat} {cy : Nat → ClassId} {rf : Nat → Nat → Bool} {μ : St} {a k b : Nat} (h : b ≠ a) : entR B cy (rfS rf a k) μ b = entR B cy rf μ b := by
  unfold entR entQ rfS
  simp [h]
theorem entR_neI {B : Nat} {cy : Nat → ClassId} {rf : Nat → Nat → Bool} {μ : St} {a b : Nat} {k v : Int} (h : b ≠ a) : entR B cy rf (updS μ a k v) b = entR B cy rf μ b := by
  have e : updS μ a k v b = μ b := funext (fun j => updS_ne _ _ _ _ h)
  unfold entR entQ
  rw [ent_congr (fun j => by rw [e])]
  simp only [e]
def Cz (p : Program) (l : Launch) (s : State) (m : MethodId) (args : Array Value) (meth : Method) (c : Code) (cc : ByteArray) (nL : Nat) (own : String) (Ts : List Cond) (D : va_G) (cy : Nat → ClassId) (B : Nat) : Prop := (p.tables.exec = Jvm.exec ∧ c.code = cc ∧ c.maxLocals = nL ∧ s.vm.findClass own = some m.cls ∧ (∀ w ∈ Ts, w.before args s = true)) ∧ EF D cy B s ∧ meth.locks = false ∧ B ≤ s.heap.size ∧ AO s
def PV (p : Program) (l : Launch) (e : Env) (R : Room) (s : State) (m : MethodId) (args : Array Value) (below : List Frame) (meth : Method) (c : Code) (D : va_G) (cy : Nat → ClassId) (B nL cells slots : Nat) (Q : State → Prop) (pc : Nat) (lv : List (Option Value)) (st : List Value) (rf : Nat → Nat → Bool) (μ : St) (n : Nat) : Prop :=
  ∀ (H : Heap) (locs : List Loc) (ls : Array Slot), va_P D vwCl (WR B cy rf μ n) H → H.size = B + n → va_S (fun q => B ≤ q) s.heap H locs → lh ls nL lv → W p l e R s m args below meth c H locs cells slots Q (F0 m pc ls st)
variable {p : Program} {l : Launch} {e : Env} {R : Room} {s : State} {m : MethodId} {args : Array Value} {below : List Frame} {meth : Method} {c : Code} {D : va_G} {cy : Nat → ClassId} {B nL cells slots : Nat} {Q : State → Prop}
variable {cc : ByteArray} {own : String} {Ts : List Cond} {pc : Nat} {lv : List (Option Value)} {st : List Value} {μ : St} {rf : Nat → Nat → Bool} {n : Nat}
theorem v_aload_n (C : Cz p l s m args meth c cc nL own Ts D cy B) {k : Fin 4} {i x : Nat} (hd : decode cc pc = .ok (.aload_n k, 1)) (hi : (k : Nat) = i) (hv : lv[i]? = some (some (.ref x))) (kk : PV p l e R s m args below meth c D cy B nL cells slots Q (pc + 1) lv (.ref x :: st) rf μ n) : PV p l e R s m args below meth c D cy B nL cells slots Q pc lv st rf μ n := by
  intro H locs ls hP hz hS hl
  exact lv_aload_n C.1.1 C.1.2.1 hd hi (hl.at hv) (kk H locs ls hP hz hS hl)
theorem v_astore_n (C : Cz p l s m args meth c cc nL own Ts D cy B) {k : Fin 4} {i x : Nat} {lv2 : List (Option Value)} (hd : decode cc pc = .ok (.astore_n k, 1)) (hi : (k : Nat) = i) (hn : i < nL) (h2 : lv.set i (some (.ref x)) = lv2) (kk : PV p l e R s m args below meth c D cy B nL cells slots Q (pc + 1) lv2 st rf μ n) : PV p l e R s m args below meth c D cy B nL cells slots Q pc lv (.ref x :: st) rf μ n := by
  intro H locs ls hP hz hS hl
  subst h2
  exact lv_astore_n C.1.1 C.1.2.1 hd hi hl.2.1 hn rfl (fun ls2 hl2 => kk H locs ls2 hP hz hS (hl.set rfl hl2))
theorem v_dup (C : Cz p l s m args meth c cc nL own Ts D cy B) {v : Value} (hv : v.category = 1) (hd : decode cc pc = .ok (.dup, 1)) (kk : PV p l e R s m args below meth c D cy B nL cells slots Q (pc + 1) lv (v :: v :: st) rf μ n) : PV p l e R s m args below meth c D cy B nL cells slots Q pc lv (v :: st) rf μ n := by
  intro H locs ls hP hz hS hl
  exact lv_dup C.1.1 C.1.2.1 hd hv (kk H locs ls hP hz hS hl)
theorem v_iconst (C : Cz p l s m args meth c cc nL own Ts D cy B) {k : Int} (hd : decode cc pc = .ok (.iconst k, 1)) (kk : PV p l e R s m args below meth c D cy B nL cells slots Q (pc + 1) lv (iN k :: st) rf μ n) : PV p l e R s m args below meth c D cy B nL cells slots Q pc lv st rf μ n := by
  intro H locs ls hP hz hS hl
  exact lv_iconst C.1.1 C.1.2.1 hd rfl (kk H locs ls hP hz hS hl)
theorem v_bipush (C : Cz p l s m args meth c cc nL own Ts D cy B) {k : Int} (hn : (Int8.ofInt k).toInt32 = Int32.ofInt k) (hd : decode cc pc = .ok (.bipush k, 2)) (kk : PV p l e R s m args below meth c D cy B nL cells slots Q (pc + 2) lv (iN k :: st) rf μ n) : PV p l e R s m args below meth c D cy B nL cells slots Q pc lv st rf μ n := by
  intro H locs ls hP hz hS hl
  exact lv_bipush C.1.1 C.1.2.1 hd hn (kk H locs ls hP hz hS hl)
theorem v_sipush (C : Cz p l s m args meth c cc nL own Ts D cy B) {k : Int} (hn : (Int16.ofInt k).toInt32 = Int32.ofInt k) (hd : decode cc pc = .ok (.sipush k, 3)) (kk : PV p l e R s m args below meth c D cy B nL cells slots Q (pc + 3) lv (iN k :: st) rf μ n) : PV p l e R s m args below meth c D cy B nL cells slots Q pc lv st rf μ n := by
  intro H locs ls hP hz hS hl
  exact lv_sipush C.1.1 C.1.2.1 hd hn (kk H locs ls hP hz hS hl)
theorem v_objInit (C : Cz p l s m args meth c cc nL own Ts D cy B) {idx x : Nat} (h1 : Cond.methodLink own idx Lib.objectInit ∈ Ts) (h2 : Cond.instanceMethod Lib.objectInit ∈ Ts) (h3 : Cond.code Lib.objectInit ⟨#[0xb1]⟩ 1 none ∈ Ts) (hd : decode cc pc = .ok (.invokespecial idx, 3)) (hf : 1 ≤ R.frames) (hL : (st.map fun v => v.category).sum + 12 ≤ R.locals) (kk : PV p l e R s m args below meth c D cy B nL cells slots Q (pc + 3) lv st rf μ n) : PV p l e R s m args below meth c D cy B nL cells slots Q pc lv (.ref x :: st) rf μ n := by
  intro H locs ls hP hz hS hl
  exact W.objInit C.1.1 C.1.2.1 C.1.2.2.2.1 (C.1.2.2.2.2 _ h1) (C.1.2.2.2.2 _ h2) (C.1.2.2.2.2 _ h3) rfl (by rw [C.1.2.2.1]; exact hl.size) rfl hd hf (by simpa [JFrame.monitorRoom] using hL) (kk H locs ls hP hz hS hl)
theorem v_getR (C : Cz p l s m args meth c cc nL own Ts D cy B) {a ci k index r : Nat} {CN : String} {T : u_T} {N : Nat} (hc : vwCl[ci]? = some (CN, T, N)) (hin : ∀ w ∈ u_ws CN T N, w ∈ Ts) (hk : k < N) (hkd : kd a = ci) (h5 : ci < 5) (hN : nf ci = N) (ha : a < n) (hw : Cond.fieldLink own index CN (T k).2.1 (T k).2.2.1 ∈ Ts) (ho : (T k).1 = CN) (hr : rfo a k = some r) (hrf : rf a k = true) (hd : decode cc pc = .ok (.getfield index, 3)) (kk : PV p l e R s m args below meth c D cy B nL cells slots Q (pc + 3) lv (.ref (B + r) :: st) rf μ n) : PV p l e R s m args below meth c D cy B nL cells slots Q pc lv (.ref (B + a) :: st) rf μ n := by
  intro H locs ls hP hz hS hl
  have h9 := WR_get (B := B) (cy := cy) (rf := rf) (μ := μ) ha
  rw [entR_obj hkd h5, hN] at h9
  exact va_get C.1.1 C.1.2.1 C.1.2.2.2.2 hin C.1.2.2.2.1 C.2.1.1 hP a h9 hc k hk (C.1.2.2.2.2 _ hw) (fun _ z => by rw [ho] at z; exact z) (entQ_ref hk hr hrf) hd (kk H locs ls hP hz hS hl)
theorem v_putR (C : Cz p l s m args meth c cc nL own Ts D cy B) (hini : meth.name = "<init>") {a ci k index r : Nat} {CN : String} {T : u_T} {N : Nat} {ty0 : Nat → FieldType} (hc : vwCl[ci]? = some (CN, T, N)) (hin : ∀ w ∈ u_ws CN T N, w ∈ Ts) (hk : k < N) (hkd : kd a = ci) (h5 : ci < 5) (hN : nf ci = N) (ha : a < n) (hw : Cond.fieldLink own index CN (T k).2.1 (T k).2.2.1 ∈ Ts) (ho : (T k).1 = CN) (hown : own = CN) (hty : ∀ k, k < N → parseFieldDescriptor (T k).2.2.1 = some (ty0 k)) (hnm : ∀ a, a < N → ∀ b, b < N → a ≠ b → (T a).2.1 ≠ (T b).2.1) (hfin : (T k).2.2.2 = true) (hr : rfo a k = some r) (hnr : narrow (ty0 k) (.ref (B + r)) = .ref (B + r)) (hfi : fits (ty0 k) (.ref (B + r)) = true) (hd : decode cc pc = .ok (.putfield index, 3)) (kk : PV p l e R s m args below meth c D cy B nL cells slots Q (pc + 3) lv st (rfS rf a k) μ n) : PV p l e R s m args below meth c D cy B nL cells slots Q pc lv (.ref (B + r) :: .ref (B + a) :: st) rf μ n := by
  intro H locs ls hP hz hS hl
  have h9 := WR_get (B := B) (cy := cy) (rf := rf) (μ := μ) ha
  rw [entR_obj hkd h5, hN] at h9
  have hts := C.1.2.2.2.2
  have hK := C.2.1.1
  have hap := va_apart (own := own) hts hin ty0 hty hnm hK hc
  obtain ⟨q, h1, cell, q1, q2, q3, q4⟩ := hP a _ h9
  have hq : q = (CN, T, N) := Option.some.inj (h1.symm.trans hc)
  subst hq
  obtain ⟨hS9, hfc, kC, hkC, hkind⟩ := hK.1 ci _ hc
  obtain ⟨cf, kf, fi, f, hi, hsl⟩ := hS9 k hk
  have hlay := hts _ (hin _ (u_in_lay hk))
  unfold u_lay at hlay
  rw [if_pos hfin] at hlay
  have hst := (u_facts hfc hkC (u_lays hts hin hk) hi).1
  have hcf : m.cls = cf := by
    obtain ⟨_, _, c9, _, _, _, -, -, hf9, -, -, -, hown9, -⟩ := Cond.laysFinal_spec hlay
    have e1 : c9 = cf := by have := hi.symm.trans hf9; simp at this; exact this.1.symm
    rw [ho, ← hown] at hown9
    rw [← e1]
    exact Option.some.inj (C.1.2.2.2.1.symm.trans hown9)
  have h6 := u_fits hfc hkC hkind (Or.inr hlay) hi (hty k hk) hnr hfi
  refine W.putFinK C.1.1 C.1.2.1 C.1.2.2.2.1 (hts _ hw) (by rw [ho] at hi; exact hi) hst hcf hini (by rw [q2]; exact h6) q1 q3 (by rw [hsl]; exact k2_hasslot (q4 k hk)) rfl rfl hd fun H2 e1 e2 e3 => ?_
  rw [hsl] at e1 ⊢
  refine kk H2 _ ls (WR_new hP e3 (fun b _ hb => entR_ne hb) ?_) (by rw [e2, hz]) (hS.put e2 e3 (Nat.le_add_right _ _)) hl
  rw [entR_obj hkd h5, hN, ← entQ_setR hk hr]
  exact ⟨_, hc, t_OB.to (V := updV (vp_V (entQ B rf μ a N)) k (.ref (B + r))) ⟨_, e1, q2, q3, t_set q4 hap hk _⟩ (fun j _ => vp_updV_set (by simp [entQ, hk]) _ j)⟩
theorem v_putI (C : Cz p l s m args meth c cc nL own Ts D cy B) {a ci k index : Nat} {ki v : Int} {CN : String} {T : u_T} {N : Nat} {ty0 : Nat → FieldType} (hki : (k : Int) = ki) (hc : vwCl[ci]? = some (CN, T, N)) (hin : ∀ w ∈ u_ws CN T N, w ∈ Ts) (hk : k < N) (hkd : kd a = ci) (h5 : ci < 5) (hN : nf ci = N) (ha : a < n) (hw : Cond.fieldLink own index CN (T k).2.1 (T k).2.2.1 ∈ Ts) (ho : (T k).1 = CN) (hty : ∀ k, k < N → parseFieldDescriptor (T k).2.2.1 = some (ty0 k)) (hnm : ∀ a, a < N → ∀ b, b < N → a ≠ b → (T a).2.1 ≠ (T b).2.1) (hfin : (T k).2.2.2 = false) (hdi : parseFieldDescriptor (T k).2.2.1 = some .int) (hr : rfo a k = none) (hd : decode cc pc = .ok (.putfield index, 3)) (kk : PV p l e R s m args below meth c D cy B nL cells slots Q (pc + 3) lv st rf (updS μ a ki v) n) : PV p l e R s m args below meth c D cy B nL cells slots Q pc lv (iN v :: .ref (B + a) :: st) rf μ n := by
  intro H locs ls hP hz hS hl
  subst hki
  have h9 := WR_get (B := B) (cy := cy) (rf := rf) (μ := μ) ha
  rw [entR_obj hkd h5, hN] at h9
  have hts := C.1.2.2.2.2
  have hK := C.2.1.1
  have hap := va_apart (own := own) hts hin ty0 hty hnm hK hc
  obtain ⟨q, h1, cell, q1, q2, q3, q4⟩ := hP a _ h9
  have hq : q = (CN, T, N) := Option.some.inj (h1.symm.trans hc)
  subst hq
  obtain ⟨hS9, hfc, kC, hkC, hkind⟩ := hK.1 ci _ hc
  obtain ⟨cf, kf, fi, f, hi, hsl⟩ := hS9 k hk
  have hlay := hts _ (hin _ (u_in_lay hk))
  unfold u_lay at hlay
  rw [if_neg (by rw [hfin]; decide)] at hlay
  have hst := (u_facts hfc hkC (u_lays hts hin hk) hi).1
  have h6 := u_store (v := iN v) hfc hkC hkind hlay hi hdi rfl rfl
  refine W.putK C.1.1 C.1.2.1 (f := f) ⟨C.1.2.2.2.1, hts _ hw, ⟨_, _, _, by rw [ho] at hi; exact hi⟩, hst⟩ (by rw [q2]; exact h6) q1 q3 (by rw [hsl]; exact k2_hasslot (q4 k hk)) rfl rfl hd fun H2 e1 e2 e3 => ?_
  rw [hsl] at e1 ⊢
  refine kk H2 _ ls (WR_new hP e3 (fun b _ hb => entR_neI hb) ?_) (by rw [e2, hz]) (hS.put e2 e3 (Nat.le_add_right _ _)) hl
  rw [entR_obj hkd h5, hN, ← entQ_setI hk hr]
  exact ⟨_, hc, t_OB.to (V := updV (vp_V (entQ B rf μ a N)) k (iN v)) ⟨_, e1, q2, q3, t_set q4 hap hk _⟩ (fun j _ => vp_updV_set (by simp [entQ, hk]) _ j)⟩
theorem arrV_cg {cA : ClassId} {N : Nat} {f h : Nat → Value} (e : ∀ j : Nat, j < N → f j = h j) : arrV cA N f = arrV cA N h := by
  unfold arrV
  congr 1
  congr 1
  funext j
  exact e j.val j.isLt
theorem he_int (hk : kd n = 5) {N : Nat} (hn : ln n = N) (hz : ∀ y, μ n y = 0) (cA : ClassId) (hc : cA = cy 5) : va_at D vwCl (B + n, entR B cy rf μ n) = fun H => H[B + n]? = some (arrV cA N (fun _ => defaultValue .int)) := by
  subst hc
  rw [entR_arr (by omega), ent_int hk hn]
  funext H
  show (H[B + n]? = some (arrV (cy 5) N (fun j => .int (Int32.ofInt (μ n j))))) = _
  congr 2
  refine arrV_cg (fun j _ => ?_)
  rw [hz]
  rfl
theorem he_bool (hk : kd n = 6) {N : Nat} (hn : ln n = N) (hz : ∀ y, μ n y = 0) (cA : ClassId) (hc : cA = cy 6) : va_at D vwCl (B + n, entR B cy rf μ n) = fun H => H[B + n]? = some (arrV cA N (fun _ => defaultValue .boolean)) := by
  subst hc
  rw [entR_arr (by omega), ent_bool hk hn]
  funext H
  show (H[B + n]? = some (arrV (cy 6) N (fun j => .int (Int32.ofInt (μ n j))))) = _
  congr 2
  refine arrV_cg (fun j _ => ?_)
  rw [hz]
  rfl
theorem he_long (hk : kd n = 8) {N : Nat} (hn : ln n = N) (hz : ∀ y, μ n y = 0) (cA : ClassId) (hc : cA = cy 8) : va_at D vwCl (B + n, entR B cy rf μ n) = fun H => H[B + n]? = some (arrV cA N (fun _ => defaultValue .long)) := by
  subst hc
  rw [entR_arr (by omega), ent_long hk hn]
  funext H
  show (H[B + n]? = some (arrV (cy 8) N (fun j => .long (Int64.ofInt (μ n j))))) = _
  congr 2
  refine arrV_cg (fun j _ => ?_)
  rw [hz]
  rfl
theorem va_S.up {A : Nat → Prop} {H0 H H2 : Heap} {locs L : List Loc} (h : va_S A H0 H locs) (hz : H.size ≤ H2.size) (ho : ∀ q : Nat, q < H.size → H2[q]? = H[q]?) (hL : ∀ q ∈ L, A q.base) : va_S A H0 H2 (locs ++ L) := by
  refine ⟨Nat.le_trans h.1 hz, fun q h1 h2 => (ho q (Nat.lt_of_lt_of_le h1 h.1)).trans (h.2.1 q h1 h2), fun q hq => ?_⟩
  rcases List.mem_append.mp hq with h1 | h1
  · exact h.2.2 q h1
  · exact hL q h1
theorem v_newa (C : Cz p l s m args meth c cc nL own Ts D cy B) {atype : ArrayType} {ty : FieldType} {k : Int} {N t0 t9 : Nat} (hty : newarray.typeOf atype = ty) (hw : Cond.arrayClass ty ∈ Ts) (ht : (tysL cy)[t0]? = some (cy t9, ty)) (hra : ∀ cA, va_RA s cA ty → s.vm.findClass ("[" ++ ty.toString) = some cA) (hk : 0 ≤ k) (hkN : k.toNat = N) (hN1 : N ≤ 100000) (hby : N * componentBytes ty ≤ 536870912) (he : ∀ cA : ClassId, cA = cy t9 → va_at D vwCl (B + n, entR B cy rf μ n) = fun H => H[B + n]? = some (arrV cA N (fun _ => defaultValue ty))) (hcells : cells + 1 ≤ R.cells) (hslots : slots + N ≤ R.slots) (hd : decode cc pc = .ok (.newarray atype, 2)) (kk : PV p l e R s m args below meth c D cy B nL (cells + 1) (slots + N) Q (pc + 2) lv (.ref (B + n) :: st) rf μ (n + 1)) : PV p l e R s m args below meth c D cy B nL cells slots Q pc lv (iN k :: st) rf μ n := by
  intro H locs ls hP hz hS hl
  subst hty
  have hk2 : k < 2147483648 := by omega
  refine va_newaK C.1.1 C.1.2.1 (C.1.2.2.2.2 _ hw) rfl hd rfl (n := Int32.ofInt k) (N := N) (by rw [x_0, x_lt ⟨by omega, hk2⟩ r_0]; omega) (by rw [x_clamp hk hk2, hkN]) hby hcells hslots hz fun H2 cA e1 e2 e3 _ e5 => ?_
  have hcA : cA = cy t9 := Option.some.inj (e5.symm.trans (hra _ ((C.2.1.1.2 t0 _ ht).2)))
  refine kk H2 locs ls (WR_more hP hz e3 (fun a h1 h2 => ?_)) (by rw [e2]; omega) ?_ hl
  · have : a = n := by omega
    subst this
    rw [he cA hcA]
    exact e1
  · have := hS.up (L := []) (H2 := H2) (by rw [e2, hz]; omega) (fun q hq => e3 q (by rw [← hz]; exact hq)) (fun q hq => absurd hq List.not_mem_nil)
    simpa using this
theorem v_multi (C : Cz p l s m args meth c cc nL own Ts D cy B) {index N M : Nat} {k j : Int} (hw : Cond.classLink own index "[[I" ∈ Ts) (hw2 : Cond.arrayClass .int ∈ Ts) (hk : 0 ≤ k) (hkN : k.toNat = N) (hj : 0 ≤ j) (hjM : j.toNat = M) (hN1 : N ≤ 100000) (hM1 : M ≤ 100000) (hkd : kd n = 7) (hln : ln n = N) (hro : ∀ i : Nat, i < N → rfo n i = some (n + 1 + i)) (hkr : ∀ i : Nat, i < N → kd (n + 1 + i) = 5 ∧ ln (n + 1 + i) = M ∧ ∀ y, μ (n + 1 + i) y = 0) (hcells : cells + (1 + N) ≤ R.cells) (hslots : slots + (N + N * M) ≤ R.slots) (hd : decode cc pc = .ok (.multianewarray index 2, 4)) (kk : PV p l e R s m args below meth c D cy B nL (cells + 1 + N) (slots + N + N * M) Q (pc + 4) lv (.ref (B + n) :: st) rf μ (n + (1 + N))) : PV p l e R s m args below meth c D cy B nL cells slots Q pc lv (iN j :: iN k :: st) rf μ n := by
  intro H locs ls hP hz hS hl
  have hk2 : k < 2147483648 := by omega
  have hj2 : j < 2147483648 := by omega
  refine W_multi C.1.1 C.1.2.1 C.1.2.2.2.1 (C.1.2.2.2.2 _ hw) C.2.2.2.2 (C.1.2.2.2.2 _ hw2) rfl hd rfl (n := Int32.ofInt k) (k := Int32.ofInt j) (N := N) (M := M) (by rw [x_0, x_lt ⟨by omega, hk2⟩ r_0]; omega) (by rw [x_0, x_lt ⟨by omega, hj2⟩ r_0]; omega) (by rw [x_clamp hk hk2, hkN]) (by rw [x_clamp hj hj2, hjM]) hN1 hM1 hcells hslots hz fun H2 cA cB e1 e2 e3 e4 e5 e6 => ?_
  have hcA : cA = cy 7 := Option.some.inj (e1.symm.trans (C.2.1.1.2 2 _ rfl).2)
  have hcB : cB = cy 5 := Option.some.inj (e2.symm.trans (C.2.1.1.2 0 _ rfl).2)
  subst hcA
  subst hcB
  refine kk H2 _ ls (WR_more hP hz e6 (fun a h1 h2 => ?_)) (by rw [e5]; omega) (hS.up (by rw [e5, hz]; omega) (fun q hq => e6 q (by rw [← hz]; exact hq)) (fun q hq => ?_)) hl
  · by_cases ha : a = n
    · subst ha
      rw [entR_arr (by omega), ent_refs hkd hln]
      show H2[B + a]? = some (arrV (cy 7) N (fun j => va_rf ((rfo a j).map (fun r => B + r))))
      rw [e3]
      congr 1
      refine arrV_cg (fun i hi => ?_)
      rw [if_pos hi, hro i hi]
      show Value.ref (B + a + 1 + i) = Value.ref (B + (a + 1 + i))
      rw [show B + a + 1 + i = B + (a + 1 + i) by omega]
    · obtain ⟨y1, y2, y3⟩ := hkr (a - (n + 1)) (by omega)
      rw [show n + 1 + (a - (n + 1)) = a by omega] at y1 y2 y3
      rw [entR_arr (by omega), ent_int y1 y2]
      show H2[B + a]? = some (arrV (cy 5) M (fun j => .int (Int32.ofInt (μ a j))))
      have h4 := e4 (a - (n + 1)) (by omega)
      rw [show B + n + 1 + (a - (n + 1)) = B + a by omega] at h4
      rw [h4]
      congr 2
      funext i
      rw [y3]
      rfl
  · obtain ⟨i, -, rfl⟩ := List.mem_map.mp hq
    exact Nat.le_add_right _ _
theorem v_new (C : Cz p l s m args meth c cc nL own Ts D cy B) {ci index : Nat} {CN : String} {T : u_T} {N : Nat} {ty0 : Nat → FieldType} (hc : vwCl[ci]? = some (CN, T, N)) (hin : ∀ w ∈ u_ws CN T N, w ∈ Ts) (hty : ∀ k, k < N → parseFieldDescriptor (T k).2.2.1 = some (ty0 k)) (hw1 : Cond.classLink own index CN ∈ Ts) (hw2 : Cond.instantiable CN N ∈ Ts) (hw3 : Cond.initialized CN ∈ Ts) (hkd : kd n = ci) (h5 : ci < 5) (hN : nf ci = N) (hfs : ∀ j, j < N → defaultValue (ty0 j) = vp_V (entQ B rf μ n N) j) (hcells : cells + 1 ≤ R.cells) (hslots : slots + N ≤ R.slots) (hd : decode cc pc = .ok (.new index, 3)) (kk : PV p l e R s m args below meth c D cy B nL (cells + 1) (slots + N) Q (pc + 3) lv (.ref (B + n) :: st) rf μ (n + 1)) : PV p l e R s m args below meth c D cy B nL cells slots Q pc lv st rf μ n := by
  intro H locs ls hP hz hS hl
  have hts := C.1.2.2.2.2
  have hKn := C.2.1.1.1 ci _ hc
  refine W.newcK C.1.1 C.1.2.1 C.1.2.2.2.1 (hts _ hw1) (hts _ hw2) (hts _ hw3) rfl hd hcells hslots hKn.2.1 hz fun H2 kC hkC e1 z1 o1 => ?_
  refine kk H2 locs ls (WR_more hP hz o1 (fun a h1 h2 => ?_)) (by rw [z1]; omega) ?_ hl
  · have : a = n := by omega
    subst this
    rw [entR_obj hkd h5, hN]
    exact ⟨_, hc, (u_born ty0 hts hin hKn hkC e1 hty).to hfs⟩
  · have := hS.up (L := []) (H2 := H2) (by rw [z1, hz]; omega) (fun q hq => o1 q (by rw [← hz]; exact hq)) (fun q hq => absurd hq List.not_mem_nil)
    simpa using this
end

