section
def Cx (p : Program) (l : Launch) (s : State) (m : MethodId) (args : Array Value) (meth : Method) (c : Code) (cc : ByteArray) (nL : Nat) (own : String) (Ts : List Cond) (D : va_G) (cy : Nat → ClassId) (B : Nat) : Prop :=
  p.tables.exec = Jvm.exec ∧ c.code = cc ∧ c.maxLocals = nL ∧ s.vm.findClass own = some m.cls ∧ (∀ w ∈ Ts, w.before args s = true) ∧ EF D cy B s ∧ meth.locks = false ∧ B ≤ s.heap.size ∧ l.stackTraces = false
def PW (p : Program) (l : Launch) (e : Env) (R : Room) (s : State) (m : MethodId) (args : Array Value) (below : List Frame) (meth : Method) (c : Code) (D : va_G) (cy : Nat → ClassId) (B nL cells slots : Nat) (Q : State → Prop) (pc : Nat) (lv : List (Option Value)) (st : List Value) (μ : St) : Prop :=
  InRg μ → ∀ (H : Heap) (locs : List Loc) (ls : Array Slot), va_P D vwCl (WL B cy μ) H → va_S (fun q => B ≤ q) s.heap H locs → lh ls nL lv → W p l e R s m args below meth c H locs cells slots Q (F0 m pc ls st)
/- q is thrown over the place pc -/
def PX (p : Program) (l : Launch) (e : Env) (R : Room) (s : State) (m : MethodId) (args : Array Value) (below : List Frame) (meth : Method) (c : Code) (D : va_G) (cy : Nat → ClassId) (B nL cells slots : Nat) (Q : State → Prop) (pc : Nat) (lv : List (Option Value)) (st : List Value) (μ : St) (E : String) : Prop :=
  InRg μ → ∀ (H : Heap) (locs : List Loc) (ls : Array Slot) (q : Addr) (ce : Cell), va_P D vwCl (WL B cy μ) H → va_S (fun q => B ≤ q) s.heap H locs → lh ls nL lv → H[q]? = some ce → ce.vm = .none → s.vm.findClass E = some ce.cls → vx_W p l e R s m args below meth c H locs cells slots Q (F0 m pc ls st) q

variable {p : Program} {l : Launch} {e : Env} {R : Room} {s : State} {m : MethodId} {args : Array Value} {below : List Frame} {meth : Method} {c : Code} {D : va_G} {cy : Nat → ClassId} {B nL cells slots : Nat} {Q : State → Prop}
variable {cc : ByteArray} {own : String} {Ts : List Cond} {pc : Nat} {lv : List (Option Value)} {st : List Value} {μ : St}

theorem q_rng (k : InRg μ → PW p l e R s m args below meth c D cy B nL cells slots Q pc lv st μ) : PW p l e R s m args below meth c D cy B nL cells slots Q pc lv st μ := fun hR => k hR hR
theorem q_mu {μ2 : St} (h : μ = μ2) (k : PW p l e R s m args below meth c D cy B nL cells slots Q pc lv st μ2) : PW p l e R s m args below meth c D cy B nL cells slots Q pc lv st μ := by subst h; exact k
theorem q_pc {pc2 : Nat} (h : pc = pc2) (k : PW p l e R s m args below meth c D cy B nL cells slots Q pc2 lv st μ) : PW p l e R s m args below meth c D cy B nL cells slots Q pc lv st μ := by subst h; exact k
theorem q_lv (lv2 : List (Option Value)) (hn : lv2.length = lv.length) (hs : ∀ (i : Nat) (v : Value), lv2[i]? = some (some v) → lv[i]? = some (some v)) (k : PW p l e R s m args below meth c D cy B nL cells slots Q pc lv2 st μ) : PW p l e R s m args below meth c D cy B nL cells slots Q pc lv st μ := by
  intro hR H locs ls hP hS hl
  exact k hR H locs ls hP hS (hl.sub lv2 (by rw [hn]; exact hl.1) hs)
theorem q_drop (i : Nat) {lv2 : List (Option Value)} (h : lv.set i none = lv2) (k : PW p l e R s m args below meth c D cy B nL cells slots Q pc lv2 st μ) : PW p l e R s m args below meth c D cy B nL cells slots Q pc lv st μ := by
  intro hR H locs ls hP hS hl
  subst h
  refine k hR H locs ls hP hS (hl.sub _ (by rw [List.length_set]; exact hl.1) (fun j v hj => ?_))
  rw [List.getElem?_set] at hj
  split at hj
  · split at hj <;> simp at hj
  · exact hj
theorem q_st {st2 : List Value} (h : st = st2) (k : PW p l e R s m args below meth c D cy B nL cells slots Q pc lv st2 μ) : PW p l e R s m args below meth c D cy B nL cells slots Q pc lv st μ := by subst h; exact k
theorem q_iconst (C : Cx p l s m args meth c cc nL own Ts D cy B) {n : Int} (hd : decode cc pc = .ok (.iconst n, 1)) (kk : PW p l e R s m args below meth c D cy B nL cells slots Q (pc + 1) lv (iN n :: st) μ) : PW p l e R s m args below meth c D cy B nL cells slots Q pc lv st μ := by
  intro hR H locs ls hP hS hl
  exact lv_iconst C.1 C.2.1 hd rfl (kk hR H locs ls hP hS hl)
theorem q_bipush (C : Cx p l s m args meth c cc nL own Ts D cy B) {n : Int} (hn : (Int8.ofInt n).toInt32 = Int32.ofInt n) (hd : decode cc pc = .ok (.bipush n, 2)) (kk : PW p l e R s m args below meth c D cy B nL cells slots Q (pc + 2) lv (iN n :: st) μ) : PW p l e R s m args below meth c D cy B nL cells slots Q pc lv st μ := by
  intro hR H locs ls hP hS hl
  exact lv_bipush C.1 C.2.1 hd hn (kk hR H locs ls hP hS hl)
theorem q_sipush (C : Cx p l s m args meth c cc nL own Ts D cy B) {n : Int} (hn : (Int16.ofInt n).toInt32 = Int32.ofInt n) (hd : decode cc pc = .ok (.sipush n, 3)) (kk : PW p l e R s m args below meth c D cy B nL cells slots Q (pc + 3) lv (iN n :: st) μ) : PW p l e R s m args below meth c D cy B nL cells slots Q pc lv st μ := by
  intro hR H locs ls hP hS hl
  exact lv_sipush C.1 C.2.1 hd hn (kk hR H locs ls hP hS hl)
theorem q_lconst (C : Cx p l s m args meth c cc nL own Ts D cy B) {n : Fin 2} {k : Int} (hk : Int64.ofNat (n : Nat) = Int64.ofInt k) (hd : decode cc pc = .ok (.lconst n, 1)) (kk : PW p l e R s m args below meth c D cy B nL cells slots Q (pc + 1) lv (jN k :: st) μ) : PW p l e R s m args below meth c D cy B nL cells slots Q pc lv st μ := by
  intro hR H locs ls hP hS hl
  exact lv_lconst C.1 C.2.1 hd hk (kk hR H locs ls hP hS hl)
theorem q_ldc (C : Cx p l s m args meth c cc nL own Ts D cy B) {n : Int} {x : Int32} {index : Nat} (hn : x = Int32.ofInt n) (hw : Cond.constant own index x ∈ Ts) (hd : decode cc pc = .ok (.ldc index, 2)) (kk : PW p l e R s m args below meth c D cy B nL cells slots Q (pc + 2) lv (iN n :: st) μ) : PW p l e R s m args below meth c D cy B nL cells slots Q pc lv st μ := by
  intro hR H locs ls hP hS hl
  subst hn
  exact lv_ldc C.1 C.2.1 C.2.2.2.1 (C.2.2.2.2.1 _ hw) hd (kk hR H locs ls hP hS hl)
theorem q_iload_n (C : Cx p l s m args meth c cc nL own Ts D cy B) {k : Fin 4} {i : Nat} {x : Int} (hd : decode cc pc = .ok (.iload_n k, 1)) (hi : (k : Nat) = i) (hv : lv[i]? = some (some (iN x))) (kk : PW p l e R s m args below meth c D cy B nL cells slots Q (pc + 1) lv (iN x :: st) μ) : PW p l e R s m args below meth c D cy B nL cells slots Q pc lv st μ := by
  intro hR H locs ls hP hS hl
  exact lv_iload_n C.1 C.2.1 hd hi (hl.at hv) (kk hR H locs ls hP hS hl)
theorem q_iload (C : Cx p l s m args meth c cc nL own Ts D cy B) {i : Nat} {x : Int} (hd : decode cc pc = .ok (.iload i, 2)) (hv : lv[i]? = some (some (iN x))) (kk : PW p l e R s m args below meth c D cy B nL cells slots Q (pc + 2) lv (iN x :: st) μ) : PW p l e R s m args below meth c D cy B nL cells slots Q pc lv st μ := by
  intro hR H locs ls hP hS hl
  exact lv_iload C.1 C.2.1 hd (hl.at hv) (kk hR H locs ls hP hS hl)
theorem q_istore_n (C : Cx p l s m args meth c cc nL own Ts D cy B) {k : Fin 4} {i : Nat} {x : Int} {lv2 : List (Option Value)} (hd : decode cc pc = .ok (.istore_n k, 1)) (hi : (k : Nat) = i) (hn : i < nL) (h2 : lv.set i (some (iN x)) = lv2) (kk : PW p l e R s m args below meth c D cy B nL cells slots Q (pc + 1) lv2 st μ) : PW p l e R s m args below meth c D cy B nL cells slots Q pc lv (iN x :: st) μ := by
  intro hR H locs ls hP hS hl
  subst h2
  exact lv_istore_n C.1 C.2.1 hd hi hl.2.1 hn rfl (fun ls2 hl2 => kk hR H locs ls2 hP hS (hl.set rfl hl2))
theorem q_istore (C : Cx p l s m args meth c cc nL own Ts D cy B) {i : Nat} {x : Int} {lv2 : List (Option Value)} (hd : decode cc pc = .ok (.istore i, 2)) (hn : i < nL) (h2 : lv.set i (some (iN x)) = lv2) (kk : PW p l e R s m args below meth c D cy B nL cells slots Q (pc + 2) lv2 st μ) : PW p l e R s m args below meth c D cy B nL cells slots Q pc lv (iN x :: st) μ := by
  intro hR H locs ls hP hS hl
  subst h2
  exact lv_istore C.1 C.2.1 hd hl.2.1 hn rfl (fun ls2 hl2 => kk hR H locs ls2 hP hS (hl.set rfl hl2))
theorem q_aload_n (C : Cx p l s m args meth c cc nL own Ts D cy B) {k : Fin 4} {i : Nat} {x : Nat} (hd : decode cc pc = .ok (.aload_n k, 1)) (hi : (k : Nat) = i) (hv : lv[i]? = some (some (.ref x))) (kk : PW p l e R s m args below meth c D cy B nL cells slots Q (pc + 1) lv (.ref x :: st) μ) : PW p l e R s m args below meth c D cy B nL cells slots Q pc lv st μ := by
  intro hR H locs ls hP hS hl
  exact lv_aload_n C.1 C.2.1 hd hi (hl.at hv) (kk hR H locs ls hP hS hl)
theorem q_aload (C : Cx p l s m args meth c cc nL own Ts D cy B) {i : Nat} {x : Nat} (hd : decode cc pc = .ok (.aload i, 2)) (hv : lv[i]? = some (some (.ref x))) (kk : PW p l e R s m args below meth c D cy B nL cells slots Q (pc + 2) lv (.ref x :: st) μ) : PW p l e R s m args below meth c D cy B nL cells slots Q pc lv st μ := by
  intro hR H locs ls hP hS hl
  exact lv_aload C.1 C.2.1 hd (hl.at hv) (kk hR H locs ls hP hS hl)
theorem q_astore_n (C : Cx p l s m args meth c cc nL own Ts D cy B) {k : Fin 4} {i : Nat} {x : Nat} {lv2 : List (Option Value)} (hd : decode cc pc = .ok (.astore_n k, 1)) (hi : (k : Nat) = i) (hn : i < nL) (h2 : lv.set i (some (.ref x)) = lv2) (kk : PW p l e R s m args below meth c D cy B nL cells slots Q (pc + 1) lv2 st μ) : PW p l e R s m args below meth c D cy B nL cells slots Q pc lv (.ref x :: st) μ := by
  intro hR H locs ls hP hS hl
  subst h2
  exact lv_astore_n C.1 C.2.1 hd hi hl.2.1 hn rfl (fun ls2 hl2 => kk hR H locs ls2 hP hS (hl.set rfl hl2))
theorem q_astore (C : Cx p l s m args meth c cc nL own Ts D cy B) {i : Nat} {x : Nat} {lv2 : List (Option Value)} (hd : decode cc pc = .ok (.astore i, 2)) (hn : i < nL) (h2 : lv.set i (some (.ref x)) = lv2) (kk : PW p l e R s m args below meth c D cy B nL cells slots Q (pc + 2) lv2 st μ) : PW p l e R s m args below meth c D cy B nL cells slots Q pc lv (.ref x :: st) μ := by
  intro hR H locs ls hP hS hl
  subst h2
  exact lv_astore C.1 C.2.1 hd hl.2.1 hn rfl (fun ls2 hl2 => kk hR H locs ls2 hP hS (hl.set rfl hl2))
theorem q_iinc (C : Cx p l s m args meth c cc nL own Ts D cy B) {i : Nat} {n x : Int} {lv2 : List (Option Value)} (hd : decode cc pc = .ok (.iinc i n, 3)) (hn : i < nL) (hv : lv[i]? = some (some (iN x))) (h2 : lv.set i (some (iN (x + n))) = lv2) (kk : PW p l e R s m args below meth c D cy B nL cells slots Q (pc + 3) lv2 st μ) : PW p l e R s m args below meth c D cy B nL cells slots Q pc lv st μ := by
  intro hR H locs ls hP hS hl
  subst h2
  refine lv_iinc (k := 0) (x := Int32.ofInt x) (v := Int32.ofInt (x + n)) (lv := (i, iN x) :: al 0 lv) C.1 C.2.1 hd ⟨hl.2.1.1, hl.2.1.2.1, fun q hq => ?_⟩ rfl (Int32.ofInt_add x n).symm hn rfl (fun ls2 hl2 => kk hR H locs ls2 hP hS (hl.set rfl ⟨hl2.1, hl2.2.1, fun q hq => ?_⟩))
  · rcases List.mem_cons.mp hq with h | h
    · subst h
      exact hl.at hv
    · exact hl.2.1.2.2 q h
  · refine hl2.2.2 q ?_
    rcases List.mem_cons.mp hq with h | h
    · subst h
      exact List.mem_cons_self
    · refine List.mem_cons_of_mem _ ?_
      obtain ⟨h1, h2⟩ := List.mem_filter.mp h
      exact List.mem_filter.mpr ⟨List.mem_cons_of_mem _ h1, h2⟩
theorem q_iadd (C : Cx p l s m args meth c cc nL own Ts D cy B) {x y : Int} (hd : decode cc pc = .ok (.iadd, 1)) (kk : PW p l e R s m args below meth c D cy B nL cells slots Q (pc + 1) lv (iN (x + y) :: st) μ) : PW p l e R s m args below meth c D cy B nL cells slots Q pc lv (iN y :: iN x :: st) μ := by
  intro hR H locs ls hP hS hl
  refine lv_iadd C.1 C.2.1 hd ?_
  rw [← Int32.ofInt_add]
  exact kk hR H locs ls hP hS hl
theorem q_isub (C : Cx p l s m args meth c cc nL own Ts D cy B) {x y : Int} (hd : decode cc pc = .ok (.isub, 1)) (kk : PW p l e R s m args below meth c D cy B nL cells slots Q (pc + 1) lv (iN (x - y) :: st) μ) : PW p l e R s m args below meth c D cy B nL cells slots Q pc lv (iN y :: iN x :: st) μ := by
  intro hR H locs ls hP hS hl
  refine lv_isub C.1 C.2.1 hd ?_
  rw [← Int32.ofInt_sub]
  exact kk hR H locs ls hP hS hl
theorem q_imul (C : Cx p l s m args meth c cc nL own Ts D cy B) {x y : Int} (hd : decode cc pc = .ok (.imul, 1)) (kk : PW p l e R s m args below meth c D cy B nL cells slots Q (pc + 1) lv (iN (x * y) :: st) μ) : PW p l e R s m args below meth c D cy B nL cells slots Q pc lv (iN y :: iN x :: st) μ := by
  intro hR H locs ls hP hS hl
  refine lv_imul C.1 C.2.1 hd ?_
  rw [← Int32.ofInt_mul]
  exact kk hR H locs ls hP hS hl
theorem q_iand (C : Cx p l s m args meth c cc nL own Ts D cy B) {x y z : Int} (hz : Int32.ofInt x &&& Int32.ofInt y = Int32.ofInt z) (hd : decode cc pc = .ok (.iand, 1)) (kk : PW p l e R s m args below meth c D cy B nL cells slots Q (pc + 1) lv (iN z :: st) μ) : PW p l e R s m args below meth c D cy B nL cells slots Q pc lv (iN y :: iN x :: st) μ := by
  intro hR H locs ls hP hS hl
  refine lv_iand C.1 C.2.1 hd ?_
  rw [hz]
  exact kk hR H locs ls hP hS hl
theorem q_ior (C : Cx p l s m args meth c cc nL own Ts D cy B) {x y z : Int} (hz : Int32.ofInt x ||| Int32.ofInt y = Int32.ofInt z) (hd : decode cc pc = .ok (.ior, 1)) (kk : PW p l e R s m args below meth c D cy B nL cells slots Q (pc + 1) lv (iN z :: st) μ) : PW p l e R s m args below meth c D cy B nL cells slots Q pc lv (iN y :: iN x :: st) μ := by
  intro hR H locs ls hP hS hl
  refine lv_ior C.1 C.2.1 hd ?_
  rw [hz]
  exact kk hR H locs ls hP hS hl
theorem q_ishl (C : Cx p l s m args meth c cc nL own Ts D cy B) {x y z : Int} (hz : Int32.ofInt x <<< (Int32.ofInt y &&& 31) = Int32.ofInt z) (hd : decode cc pc = .ok (.ishl, 1)) (kk : PW p l e R s m args below meth c D cy B nL cells slots Q (pc + 1) lv (iN z :: st) μ) : PW p l e R s m args below meth c D cy B nL cells slots Q pc lv (iN y :: iN x :: st) μ := by
  intro hR H locs ls hP hS hl
  refine lv_ishl C.1 C.2.1 hd ?_
  rw [hz]
  exact kk hR H locs ls hP hS hl
theorem q_i2l (C : Cx p l s m args meth c cc nL own Ts D cy B) {x : Int} (hx : InR x) (hd : decode cc pc = .ok (.i2l, 1)) (kk : PW p l e R s m args below meth c D cy B nL cells slots Q (pc + 1) lv (jN x :: st) μ) : PW p l e R s m args below meth c D cy B nL cells slots Q pc lv (iN x :: st) μ := by
  intro hR H locs ls hP hS hl
  refine lv_i2l C.1 C.2.1 hd (Int32.toInt64_ofInt ?_ ?_) (kk hR H locs ls hP hS hl)
  · have h : Int32.minValue.toInt = -2147483648 := by decide +kernel
    have := hx.1
    omega
  · have h : Int32.maxValue.toInt = 2147483647 := by decide +kernel
    have := hx.2
    omega
theorem q_dup (C : Cx p l s m args meth c cc nL own Ts D cy B) {v : Value} (hv : v.category = 1) (hd : decode cc pc = .ok (.dup, 1)) (kk : PW p l e R s m args below meth c D cy B nL cells slots Q (pc + 1) lv (v :: v :: st) μ) : PW p l e R s m args below meth c D cy B nL cells slots Q pc lv (v :: st) μ := by
  intro hR H locs ls hP hS hl
  exact lv_dup C.1 C.2.1 hd hv (kk hR H locs ls hP hS hl)
theorem q_pop (C : Cx p l s m args meth c cc nL own Ts D cy B) {v : Value} (hv : v.category = 1) (hd : decode cc pc = .ok (.pop, 1)) (kk : PW p l e R s m args below meth c D cy B nL cells slots Q (pc + 1) lv st μ) : PW p l e R s m args below meth c D cy B nL cells slots Q pc lv (v :: st) μ := by
  intro hR H locs ls hP hS hl
  exact lv_pop C.1 C.2.1 hd hv (kk hR H locs ls hP hS hl)
theorem q_goto (C : Cx p l s m args meth c cc nL own Ts D cy B) {off : Int} {tgt : Nat} (hd : decode cc pc = .ok (.goto off, 3)) (ht : (pc : Int) + off = (tgt : Int)) (kk : PW p l e R s m args below meth c D cy B nL cells slots Q tgt lv st μ) : PW p l e R s m args below meth c D cy B nL cells slots Q pc lv st μ := by
  intro hR H locs ls hP hS hl
  exact lv_goto C.1 C.2.1 hd ht (kk hR H locs ls hP hS hl)
theorem q_if_eq (C : Cx p l s m args meth c cc nL own Ts D cy B) {x off : Int} {tgt : Nat} (hx : InR x) (hd : decode cc pc = .ok (.ifCond .eq off, 3)) (ht : (pc : Int) + off = (tgt : Int)) (kt : x = 0 → PW p l e R s m args below meth c D cy B nL cells slots Q tgt lv st μ) (kf : ¬ (x = 0) → PW p l e R s m args below meth c D cy B nL cells slots Q (pc + 3) lv st μ) : PW p l e R s m args below meth c D cy B nL cells slots Q pc lv (iN x :: st) μ := by
  intro hR H locs ls hP hS hl
  refine lv_if_eq C.1 C.2.1 hd ht (fun h => ?_) (fun h => ?_)
  · rw [x_0] at h
    exact kt ((x_inj hx r_0).mp h) hR H locs ls hP hS hl
  · rw [x_0] at h
    exact kf (fun z => h ((x_inj hx r_0).mpr z)) hR H locs ls hP hS hl
theorem q_icmp_eq (C : Cx p l s m args meth c cc nL own Ts D cy B) {x y off : Int} {tgt : Nat} (hx : InR x) (hy : InR y) (hd : decode cc pc = .ok (.if_icmp .eq off, 3)) (ht : (pc : Int) + off = (tgt : Int)) (kt : x = y → PW p l e R s m args below meth c D cy B nL cells slots Q tgt lv st μ) (kf : ¬ (x = y) → PW p l e R s m args below meth c D cy B nL cells slots Q (pc + 3) lv st μ) : PW p l e R s m args below meth c D cy B nL cells slots Q pc lv (iN y :: iN x :: st) μ := by
  intro hR H locs ls hP hS hl
  refine lv_icmp_eq C.1 C.2.1 hd ht (fun h => ?_) (fun h => ?_)
  · exact kt ((x_inj hx hy).mp h) hR H locs ls hP hS hl
  · exact kf (fun z => h ((x_inj hx hy).mpr z)) hR H locs ls hP hS hl
theorem q_if_ne (C : Cx p l s m args meth c cc nL own Ts D cy B) {x off : Int} {tgt : Nat} (hx : InR x) (hd : decode cc pc = .ok (.ifCond .ne off, 3)) (ht : (pc : Int) + off = (tgt : Int)) (kt : ¬ x = 0 → PW p l e R s m args below meth c D cy B nL cells slots Q tgt lv st μ) (kf : x = 0 → PW p l e R s m args below meth c D cy B nL cells slots Q (pc + 3) lv st μ) : PW p l e R s m args below meth c D cy B nL cells slots Q pc lv (iN x :: st) μ := by
  intro hR H locs ls hP hS hl
  refine lv_if_ne C.1 C.2.1 hd ht (fun h => ?_) (fun h => ?_)
  · skip
    rw [x_0] at h
    exact kt (fun z => h ((x_inj hx r_0).mpr z)) hR H locs ls hP hS hl
  · skip
    rw [x_0] at h
    exact kf ((x_inj hx r_0).mp h) hR H locs ls hP hS hl
theorem q_icmp_ne (C : Cx p l s m args meth c cc nL own Ts D cy B) {x y off : Int} {tgt : Nat} (hx : InR x) (hy : InR y) (hd : decode cc pc = .ok (.if_icmp .ne off, 3)) (ht : (pc : Int) + off = (tgt : Int)) (kt : ¬ x = y → PW p l e R s m args below meth c D cy B nL cells slots Q tgt lv st μ) (kf : x = y → PW p l e R s m args below meth c D cy B nL cells slots Q (pc + 3) lv st μ) : PW p l e R s m args below meth c D cy B nL cells slots Q pc lv (iN y :: iN x :: st) μ := by
  intro hR H locs ls hP hS hl
  refine lv_icmp_ne C.1 C.2.1 hd ht (fun h => ?_) (fun h => ?_)
  · skip
    exact kt (fun z => h ((x_inj hx hy).mpr z)) hR H locs ls hP hS hl
  · skip
    exact kf ((x_inj hx hy).mp h) hR H locs ls hP hS hl
theorem q_if_lt (C : Cx p l s m args meth c cc nL own Ts D cy B) {x off : Int} {tgt : Nat} (hx : InR x) (hd : decode cc pc = .ok (.ifCond .lt off, 3)) (ht : (pc : Int) + off = (tgt : Int)) (kt : x < 0 → PW p l e R s m args below meth c D cy B nL cells slots Q tgt lv st μ) (kf : ¬ (x < 0) → PW p l e R s m args below meth c D cy B nL cells slots Q (pc + 3) lv st μ) : PW p l e R s m args below meth c D cy B nL cells slots Q pc lv (iN x :: st) μ := by
  intro hR H locs ls hP hS hl
  refine lv_if_lt C.1 C.2.1 hd ht (fun h => ?_) (fun h => ?_)
  · rw [x_0] at h
    exact kt ((x_lt hx r_0).mp h) hR H locs ls hP hS hl
  · rw [x_0] at h
    exact kf (fun z => h ((x_lt hx r_0).mpr z)) hR H locs ls hP hS hl
theorem q_icmp_lt (C : Cx p l s m args meth c cc nL own Ts D cy B) {x y off : Int} {tgt : Nat} (hx : InR x) (hy : InR y) (hd : decode cc pc = .ok (.if_icmp .lt off, 3)) (ht : (pc : Int) + off = (tgt : Int)) (kt : x < y → PW p l e R s m args below meth c D cy B nL cells slots Q tgt lv st μ) (kf : ¬ (x < y) → PW p l e R s m args below meth c D cy B nL cells slots Q (pc + 3) lv st μ) : PW p l e R s m args below meth c D cy B nL cells slots Q pc lv (iN y :: iN x :: st) μ := by
  intro hR H locs ls hP hS hl
  refine lv_icmp_lt C.1 C.2.1 hd ht (fun h => ?_) (fun h => ?_)
  · exact kt ((x_lt hx hy).mp h) hR H locs ls hP hS hl
  · exact kf (fun z => h ((x_lt hx hy).mpr z)) hR H locs ls hP hS hl
theorem q_if_ge (C : Cx p l s m args meth c cc nL own Ts D cy B) {x off : Int} {tgt : Nat} (hx : InR x) (hd : decode cc pc = .ok (.ifCond .ge off, 3)) (ht : (pc : Int) + off = (tgt : Int)) (kt : 0 ≤ x → PW p l e R s m args below meth c D cy B nL cells slots Q tgt lv st μ) (kf : ¬ (0 ≤ x) → PW p l e R s m args below meth c D cy B nL cells slots Q (pc + 3) lv st μ) : PW p l e R s m args below meth c D cy B nL cells slots Q pc lv (iN x :: st) μ := by
  intro hR H locs ls hP hS hl
  refine lv_if_ge C.1 C.2.1 hd ht (fun h => ?_) (fun h => ?_)
  · rw [x_0] at h
    exact kt ((x_le r_0 hx).mp h) hR H locs ls hP hS hl
  · rw [x_0] at h
    exact kf (fun z => h ((x_le r_0 hx).mpr z)) hR H locs ls hP hS hl
theorem q_icmp_ge (C : Cx p l s m args meth c cc nL own Ts D cy B) {x y off : Int} {tgt : Nat} (hx : InR x) (hy : InR y) (hd : decode cc pc = .ok (.if_icmp .ge off, 3)) (ht : (pc : Int) + off = (tgt : Int)) (kt : y ≤ x → PW p l e R s m args below meth c D cy B nL cells slots Q tgt lv st μ) (kf : ¬ (y ≤ x) → PW p l e R s m args below meth c D cy B nL cells slots Q (pc + 3) lv st μ) : PW p l e R s m args below meth c D cy B nL cells slots Q pc lv (iN y :: iN x :: st) μ := by
  intro hR H locs ls hP hS hl
  refine lv_icmp_ge C.1 C.2.1 hd ht (fun h => ?_) (fun h => ?_)
  · exact kt ((x_le hy hx).mp h) hR H locs ls hP hS hl
  · exact kf (fun z => h ((x_le hy hx).mpr z)) hR H locs ls hP hS hl
theorem q_if_gt (C : Cx p l s m args meth c cc nL own Ts D cy B) {x off : Int} {tgt : Nat} (hx : InR x) (hd : decode cc pc = .ok (.ifCond .gt off, 3)) (ht : (pc : Int) + off = (tgt : Int)) (kt : 0 < x → PW p l e R s m args below meth c D cy B nL cells slots Q tgt lv st μ) (kf : ¬ (0 < x) → PW p l e R s m args below meth c D cy B nL cells slots Q (pc + 3) lv st μ) : PW p l e R s m args below meth c D cy B nL cells slots Q pc lv (iN x :: st) μ := by
  intro hR H locs ls hP hS hl
  refine lv_if_gt C.1 C.2.1 hd ht (fun h => ?_) (fun h => ?_)
  · rw [x_0] at h
    exact kt ((x_lt r_0 hx).mp h) hR H locs ls hP hS hl
  · rw [x_0] at h
    exact kf (fun z => h ((x_lt r_0 hx).mpr z)) hR H locs ls hP hS hl
theorem q_icmp_gt (C : Cx p l s m args meth c cc nL own Ts D cy B) {x y off : Int} {tgt : Nat} (hx : InR x) (hy : InR y) (hd : decode cc pc = .ok (.if_icmp .gt off, 3)) (ht : (pc : Int) + off = (tgt : Int)) (kt : y < x → PW p l e R s m args below meth c D cy B nL cells slots Q tgt lv st μ) (kf : ¬ (y < x) → PW p l e R s m args below meth c D cy B nL cells slots Q (pc + 3) lv st μ) : PW p l e R s m args below meth c D cy B nL cells slots Q pc lv (iN y :: iN x :: st) μ := by
  intro hR H locs ls hP hS hl
  refine lv_icmp_gt C.1 C.2.1 hd ht (fun h => ?_) (fun h => ?_)
  · exact kt ((x_lt hy hx).mp h) hR H locs ls hP hS hl
  · exact kf (fun z => h ((x_lt hy hx).mpr z)) hR H locs ls hP hS hl
theorem q_if_le (C : Cx p l s m args meth c cc nL own Ts D cy B) {x off : Int} {tgt : Nat} (hx : InR x) (hd : decode cc pc = .ok (.ifCond .le off, 3)) (ht : (pc : Int) + off = (tgt : Int)) (kt : x ≤ 0 → PW p l e R s m args below meth c D cy B nL cells slots Q tgt lv st μ) (kf : ¬ (x ≤ 0) → PW p l e R s m args below meth c D cy B nL cells slots Q (pc + 3) lv st μ) : PW p l e R s m args below meth c D cy B nL cells slots Q pc lv (iN x :: st) μ := by
  intro hR H locs ls hP hS hl
  refine lv_if_le C.1 C.2.1 hd ht (fun h => ?_) (fun h => ?_)
  · rw [x_0] at h
    exact kt ((x_le hx r_0).mp h) hR H locs ls hP hS hl
  · rw [x_0] at h
    exact kf (fun z => h ((x_le hx r_0).mpr z)) hR H locs ls hP hS hl
theorem q_icmp_le (C : Cx p l s m args meth c cc nL own Ts D cy B) {x y off : Int} {tgt : Nat} (hx : InR x) (hy : InR y) (hd : decode cc pc = .ok (.if_icmp .le off, 3)) (ht : (pc : Int) + off = (tgt : Int)) (kt : x ≤ y → PW p l e R s m args below meth c D cy B nL cells slots Q tgt lv st μ) (kf : ¬ (x ≤ y) → PW p l e R s m args below meth c D cy B nL cells slots Q (pc + 3) lv st μ) : PW p l e R s m args below meth c D cy B nL cells slots Q pc lv (iN y :: iN x :: st) μ := by
  intro hR H locs ls hP hS hl
  refine lv_icmp_le C.1 C.2.1 hd ht (fun h => ?_) (fun h => ?_)
  · exact kt ((x_le hx hy).mp h) hR H locs ls hP hS hl
  · exact kf (fun z => h ((x_le hx hy).mpr z)) hR H locs ls hP hS hl
theorem q_lcmp (C : Cx p l s m args meth c cc nL own Ts D cy B) {x y z : Int} (hz : lg_cmp (Int64.ofInt x) (Int64.ofInt y) = Int32.ofInt z) (hd : decode cc pc = .ok (.lcmp, 1)) (kk : PW p l e R s m args below meth c D cy B nL cells slots Q (pc + 1) lv (iN z :: st) μ) : PW p l e R s m args below meth c D cy B nL cells slots Q pc lv (jN y :: jN x :: st) μ := by
  intro hR H locs ls hP hS hl
  refine W.lcmp C.1 C.2.1 hd ?_
  rw [hz]
  exact kk hR H locs ls hP hS hl
theorem q_getI (C : Cx p l s m args meth c cc nL own Ts D cy B) {a ci k index : Nat} {ki : Int} {CN : String} {T : u_T} {N : Nat} (hc : vwCl[ci]? = some (CN, T, N)) (hki : (k : Int) = ki) (hin : ∀ w ∈ u_ws CN T N, w ∈ Ts) (hk : k < N) (hkd : kd a = ci) (h5 : ci < 5) (hN : nf ci = N) (ha : a < 233) (hw : Cond.fieldLink own index CN (T k).2.1 (T k).2.2.1 ∈ Ts) (ho : (T k).1 = CN) (hr : rfo a k = none) (hd : decode cc pc = .ok (.getfield index, 3)) (kk : PW p l e R s m args below meth c D cy B nL cells slots Q (pc + 3) lv (iN (μ a ki) :: st) μ) : PW p l e R s m args below meth c D cy B nL cells slots Q pc lv (.ref (B + a) :: st) μ := by
  intro hR H locs ls hP hS hl
  subst hki
  exact va_get C.1 C.2.1 C.2.2.2.2.1 hin C.2.2.2.1 C.2.2.2.2.2.1.1 hP a (by have h9 := WL_get (B := B) (cy := cy) (μ := μ) ha; rw [ent_obj hkd h5, hN] at h9; exact h9) hc k hk (C.2.2.2.2.1 _ hw) (fun _ h9 => by rw [ho] at h9; exact h9) (entO_int hk hr) hd (kk hR H locs ls hP hS hl)
theorem q_getR (C : Cx p l s m args meth c cc nL own Ts D cy B) {a ci k index : Nat} {CN : String} {T : u_T} {N : Nat} {r : Nat} (hc : vwCl[ci]? = some (CN, T, N)) (hin : ∀ w ∈ u_ws CN T N, w ∈ Ts) (hk : k < N) (hkd : kd a = ci) (h5 : ci < 5) (hN : nf ci = N) (ha : a < 233) (hw : Cond.fieldLink own index CN (T k).2.1 (T k).2.2.1 ∈ Ts) (ho : (T k).1 = CN) (hr : rfo a k = some r) (hd : decode cc pc = .ok (.getfield index, 3)) (kk : PW p l e R s m args below meth c D cy B nL cells slots Q (pc + 3) lv (.ref (B + r) :: st) μ) : PW p l e R s m args below meth c D cy B nL cells slots Q pc lv (.ref (B + a) :: st) μ := by
  intro hR H locs ls hP hS hl
  exact va_get C.1 C.2.1 C.2.2.2.2.1 hin C.2.2.2.1 C.2.2.2.2.2.1.1 hP a (by have h9 := WL_get (B := B) (cy := cy) (μ := μ) ha; rw [ent_obj hkd h5, hN] at h9; exact h9) hc k hk (C.2.2.2.2.1 _ hw) (fun _ h9 => by rw [ho] at h9; exact h9) (entO_ref hk hr) hd (kk hR H locs ls hP hS hl)
theorem q_getIN (C : Cx p l s m args meth c cc nL own Ts D cy B) {a ci k index : Nat} {ki : Int} {CN : String} {T : u_T} {N : Nat} (hc : vwCl[ci]? = some (CN, T, N)) (hki : (k : Int) = ki) (hin : ∀ w ∈ u_ws CN T N, w ∈ Ts) (hk : k < N) (hkd : kd a = ci) (h5 : ci < 5) (hN : nf ci = N) (ha : a < 233) (hw : (own, index, CN, (T k).2.1, (T k).2.2.1) ∈ NWF) (ho : (T k).1 = CN) (hr : rfo a k = none) (hd : decode cc pc = .ok (.getfield index, 3)) (kk : PW p l e R s m args below meth c D cy B nL cells slots Q (pc + 3) lv (iN (μ a ki) :: st) μ) : PW p l e R s m args below meth c D cy B nL cells slots Q pc lv (.ref (B + a) :: st) μ := by
  intro hR H locs ls hP hS hl
  subst hki
  exact va_getN C.1 C.2.1 C.2.2.2.2.1 hin C.2.2.2.1 C.2.2.2.2.2.1.1 hP a (by have h9 := WL_get (B := B) (cy := cy) (μ := μ) ha; rw [ent_obj hkd h5, hN] at h9; exact h9) hc k hk (va_Nw.use rfl (C.2.2.2.2.2.1.2.1 _ hw)) (fun _ h9 => by rw [ho] at h9; exact h9) (entO_int hk hr) hd (kk hR H locs ls hP hS hl)
theorem q_getRN (C : Cx p l s m args meth c cc nL own Ts D cy B) {a ci k index : Nat} {CN : String} {T : u_T} {N : Nat} {r : Nat} (hc : vwCl[ci]? = some (CN, T, N)) (hin : ∀ w ∈ u_ws CN T N, w ∈ Ts) (hk : k < N) (hkd : kd a = ci) (h5 : ci < 5) (hN : nf ci = N) (ha : a < 233) (hw : (own, index, CN, (T k).2.1, (T k).2.2.1) ∈ NWF) (ho : (T k).1 = CN) (hr : rfo a k = some r) (hd : decode cc pc = .ok (.getfield index, 3)) (kk : PW p l e R s m args below meth c D cy B nL cells slots Q (pc + 3) lv (.ref (B + r) :: st) μ) : PW p l e R s m args below meth c D cy B nL cells slots Q pc lv (.ref (B + a) :: st) μ := by
  intro hR H locs ls hP hS hl
  exact va_getN C.1 C.2.1 C.2.2.2.2.1 hin C.2.2.2.1 C.2.2.2.2.2.1.1 hP a (by have h9 := WL_get (B := B) (cy := cy) (μ := μ) ha; rw [ent_obj hkd h5, hN] at h9; exact h9) hc k hk (va_Nw.use rfl (C.2.2.2.2.2.1.2.1 _ hw)) (fun _ h9 => by rw [ho] at h9; exact h9) (entO_ref hk hr) hd (kk hR H locs ls hP hS hl)
theorem q_put (C : Cx p l s m args meth c cc nL own Ts D cy B) {a ci k index : Nat} {ki : Int} {CN : String} {T : u_T} {N : Nat} {v : Int} {ty0 : Nat → FieldType} (hc : vwCl[ci]? = some (CN, T, N)) (hki : (k : Int) = ki) (hin : ∀ w ∈ u_ws CN T N, w ∈ Ts) (hk : k < N) (hkd : kd a = ci) (h5 : ci < 5) (hN : nf ci = N) (ha : a < 233) (hw : Cond.fieldLink own index CN (T k).2.1 (T k).2.2.1 ∈ Ts) (ho : (T k).1 = CN) (hty : ∀ k, k < N → parseFieldDescriptor (T k).2.2.1 = some (ty0 k)) (hnm : ∀ a, a < N → ∀ b, b < N → a ≠ b → (T a).2.1 ≠ (T b).2.1) (hfin : (T k).2.2.2 = false) (hdi : parseFieldDescriptor (T k).2.2.1 = some .int) (hr : rfo a k = none) (hv : InR v) (hd : decode cc pc = .ok (.putfield index, 3)) (kk : PW p l e R s m args below meth c D cy B nL cells slots Q (pc + 3) lv st (updS μ a ki v)) : PW p l e R s m args below meth c D cy B nL cells slots Q pc lv (iN v :: .ref (B + a) :: st) μ := by
  intro hR H locs ls hP hS hl
  subst hki
  refine va_put C.1 C.2.1 C.2.2.2.2.1 hin ty0 hty hnm C.2.2.2.1 C.2.2.2.2.2.1.1 hP (WL_D (B := B)) hS a (by have h9 := WL_get (B := B) (cy := cy) (μ := μ) ha; rw [ent_obj hkd h5, hN] at h9; exact h9) hc k hk (C.2.2.2.2.1 _ hw) (fun _ h9 => by rw [ho] at h9; exact h9) hfin hdi rfl rfl (by simp [entO, hk]) hd (fun H1 locs1 hP1 hD1 hS1 => ?_)
  rw [entO_set hk hr, WL_set (μ' := updS μ a k v) (by rw [ent_obj hkd h5, hN]) (fun b hb j => (updS_ne μ k v j hb).symm)] at hP1
  exact kk (hR.upd hv) H1 locs1 ls hP1 hS1 hl
theorem q_putN (C : Cx p l s m args meth c cc nL own Ts D cy B) {a ci k index : Nat} {ki : Int} {CN : String} {T : u_T} {N : Nat} {v : Int} {ty0 : Nat → FieldType} (hc : vwCl[ci]? = some (CN, T, N)) (hki : (k : Int) = ki) (hin : ∀ w ∈ u_ws CN T N, w ∈ Ts) (hk : k < N) (hkd : kd a = ci) (h5 : ci < 5) (hN : nf ci = N) (ha : a < 233) (hw : (own, index, CN, (T k).2.1, (T k).2.2.1) ∈ NWF) (ho : (T k).1 = CN) (hty : ∀ k, k < N → parseFieldDescriptor (T k).2.2.1 = some (ty0 k)) (hnm : ∀ a, a < N → ∀ b, b < N → a ≠ b → (T a).2.1 ≠ (T b).2.1) (hfin : (T k).2.2.2 = false) (hdi : parseFieldDescriptor (T k).2.2.1 = some .int) (hr : rfo a k = none) (hv : InR v) (hd : decode cc pc = .ok (.putfield index, 3)) (kk : PW p l e R s m args below meth c D cy B nL cells slots Q (pc + 3) lv st (updS μ a ki v)) : PW p l e R s m args below meth c D cy B nL cells slots Q pc lv (iN v :: .ref (B + a) :: st) μ := by
  intro hR H locs ls hP hS hl
  subst hki
  refine va_putN C.1 C.2.1 C.2.2.2.2.1 hin ty0 hty hnm C.2.2.2.1 C.2.2.2.2.2.1.1 hP (WL_D (B := B)) hS a (by have h9 := WL_get (B := B) (cy := cy) (μ := μ) ha; rw [ent_obj hkd h5, hN] at h9; exact h9) hc k hk (va_Nw.use rfl (C.2.2.2.2.2.1.2.1 _ hw)) (fun _ h9 => by rw [ho] at h9; exact h9) hfin hdi rfl rfl (by simp [entO, hk]) hd (fun H1 locs1 hP1 hD1 hS1 => ?_)
  rw [entO_set hk hr, WL_set (μ' := updS μ a k v) (by rw [ent_obj hkd h5, hN]) (fun b hb j => (updS_ne μ k v j hb).symm)] at hP1
  exact kk (hR.upd hv) H1 locs1 ls hP1 hS1 hl
theorem q_iaload (C : Cx p l s m args meth c cc nL own Ts D cy B) {a n : Nat} {i : Int} (hk : kd a = 5) (hn : ln a = n) (hn5 : n ≤ 100000) (ha : a < 233) (h0 : 0 ≤ i) (h1 : i < n) (hd : decode cc pc = .ok (.iaload, 1)) (kk : PW p l e R s m args below meth c D cy B nL cells slots Q (pc + 1) lv (iN (μ a i) :: st) μ) : PW p l e R s m args below meth c D cy B nL cells slots Q pc lv (iN i :: .ref (B + a) :: st) μ := by
  intro hR H locs ls hP hS hl
  have h2 : i < 2147483648 := by omega
  have hc := x_clamp h0 h2
  have hi : ((i.toNat : Nat) : Int) = i := Int.toNat_of_nonneg h0
  refine va_iald C.1 C.2.1 C.2.2.2.2.2.1.1 hP a 0 (by have h9 := WL_get (B := B) (cy := cy) (μ := μ) ha; rw [ent_int hk hn] at h9; exact h9) rfl (x_in h0 h1 hn5) hd ?_
  rw [hc, hi]
  exact kk hR H locs ls hP hS hl
theorem q_baload (C : Cx p l s m args meth c cc nL own Ts D cy B) {a n : Nat} {i : Int} (hk : kd a = 6) (hn : ln a = n) (hn5 : n ≤ 100000) (ha : a < 233) (h0 : 0 ≤ i) (h1 : i < n) (hd : decode cc pc = .ok (.baload, 1)) (kk : PW p l e R s m args below meth c D cy B nL cells slots Q (pc + 1) lv (iN (μ a i) :: st) μ) : PW p l e R s m args below meth c D cy B nL cells slots Q pc lv (iN i :: .ref (B + a) :: st) μ := by
  intro hR H locs ls hP hS hl
  have h2 : i < 2147483648 := by omega
  have hc := x_clamp h0 h2
  have hi : ((i.toNat : Nat) : Int) = i := Int.toNat_of_nonneg h0
  refine va_zald C.1 C.2.1 C.2.2.2.2.2.1.1 hP a 1 (by have h9 := WL_get (B := B) (cy := cy) (μ := μ) ha; rw [ent_bool hk hn] at h9; exact h9) rfl (x_in h0 h1 hn5) hd ?_
  rw [hc, hi]
  exact kk hR H locs ls hP hS hl
theorem q_laload (C : Cx p l s m args meth c cc nL own Ts D cy B) {a n : Nat} {i : Int} (hk : kd a = 8) (hn : ln a = n) (hn5 : n ≤ 100000) (ha : a < 233) (h0 : 0 ≤ i) (h1 : i < n) (hd : decode cc pc = .ok (.laload, 1)) (kk : PW p l e R s m args below meth c D cy B nL cells slots Q (pc + 1) lv (jN (μ a i) :: st) μ) : PW p l e R s m args below meth c D cy B nL cells slots Q pc lv (iN i :: .ref (B + a) :: st) μ := by
  intro hR H locs ls hP hS hl
  have h2 : i < 2147483648 := by omega
  have hc := x_clamp h0 h2
  have hi : ((i.toNat : Nat) : Int) = i := Int.toNat_of_nonneg h0
  refine va_lald C.1 C.2.1 C.2.2.2.2.2.1.1 hP a 3 (by have h9 := WL_get (B := B) (cy := cy) (μ := μ) ha; rw [ent_long hk hn] at h9; exact h9) rfl (x_in h0 h1 hn5) hd ?_
  rw [hc, hi]
  exact kk hR H locs ls hP hS hl
theorem q_aaload (C : Cx p l s m args meth c cc nL own Ts D cy B) {a n r : Nat} {i : Int} (hk : kd a = 7) (hn : ln a = n) (hn5 : n ≤ 100000) (ha : a < 233) (h0 : 0 ≤ i) (h1 : i < n) (hr : rfo a i.toNat = some r) (hd : decode cc pc = .ok (.aaload, 1)) (kk : PW p l e R s m args below meth c D cy B nL cells slots Q (pc + 1) lv (.ref (B + r) :: st) μ) : PW p l e R s m args below meth c D cy B nL cells slots Q pc lv (iN i :: .ref (B + a) :: st) μ := by
  intro hR H locs ls hP hS hl
  have h2 : i < 2147483648 := by omega
  have hc := x_clamp h0 h2
  have hi : ((i.toNat : Nat) : Int) = i := Int.toNat_of_nonneg h0
  have hin := x_in h0 h1 hn5
  have h9 := WL_get (B := B) (cy := cy) (μ := μ) ha
  rw [ent_refs hk hn] at h9
  have hlt : (Int32.ofInt i).toNatClampNeg < n := Nat.not_le.mp fun q => hin (Or.inr q)
  refine W.aald (v := .ref (B + r)) (ty := .array .int) C.1 C.2.1 (hP a _ h9) ((C.2.2.2.2.2.1.1.2 2 _ rfl).1 n (fun j => va_rf ((rfo a j).map (fun r => B + r)))) rfl (fun q => by cases q) (by show ¬ (_ ∨ (arrV _ _ _).slots.size ≤ _); rw [arrV_size]; exact hin) ?_ rfl rfl hd (kk hR H locs ls hP hS hl)
  show (arrV _ _ _).slots[_]? = _
  rw [arrV_read _ _ hlt, hc]
  show some (va_rf ((rfo a i.toNat).map (fun r => B + r))) = _
  rw [hr]
  rfl
theorem q_aaloadN (C : Cx p l s m args meth c cc nL own Ts D cy B) {a n r i : Nat} (hk : kd a = 7) (hn : ln a = n) (hn5 : n ≤ 100000) (ha : a < 233) (h1 : i < n) (hr : rfo a i = some r) (hd : decode cc pc = .ok (.aaload, 1)) (kk : PW p l e R s m args below meth c D cy B nL cells slots Q (pc + 1) lv (.ref (B + r) :: st) μ) : PW p l e R s m args below meth c D cy B nL cells slots Q pc lv (iN (i : Int) :: .ref (B + a) :: st) μ := by
  intro hR H locs ls hP hS hl
  exact q_aaload (i := (i : Int)) C hk hn hn5 ha (by omega) (by omega) (by rw [Int.toNat_natCast]; exact hr) hd kk hR H locs ls hP hS hl
theorem q_iastore (C : Cx p l s m args meth c cc nL own Ts D cy B) {a n : Nat} {i v : Int} (hk : kd a = 5) (hn : ln a = n) (hn5 : n ≤ 100000) (ha : a < 233) (h0 : 0 ≤ i) (h1 : i < n) (hv : InR v) (hd : decode cc pc = .ok (.iastore, 1)) (kk : PW p l e R s m args below meth c D cy B nL cells slots Q (pc + 1) lv st (updS μ a i v)) : PW p l e R s m args below meth c D cy B nL cells slots Q pc lv (iN v :: iN i :: .ref (B + a) :: st) μ := by
  intro hR H locs ls hP hS hl
  have h2 : i < 2147483648 := by omega
  have hc := x_clamp h0 h2
  have hi : ((i.toNat : Nat) : Int) = i := Int.toNat_of_nonneg h0
  refine va_iast C.1 C.2.1 C.2.2.2.2.2.1.1 hP (WL_D (B := B)) hS a 0 (by have h9 := WL_get (B := B) (cy := cy) (μ := μ) ha; rw [ent_int hk hn] at h9; exact h9) rfl (x_in h0 h1 hn5) hd (fun H1 locs1 hP1 hD1 hS1 => ?_)
  rw [hc, fun_set μ a i v h0 _ rfl, WL_set (μ' := updS μ a i v) (by rw [ent_int hk hn]) (fun b hb j => (updS_ne μ i v j hb).symm)] at hP1
  exact kk (hR.upd hv) H1 locs1 ls hP1 hS1 hl
theorem q_bastore (C : Cx p l s m args meth c cc nL own Ts D cy B) {a n : Nat} {i v : Int} (hk : kd a = 6) (hn : ln a = n) (hn5 : n ≤ 100000) (ha : a < 233) (h0 : 0 ≤ i) (h1 : i < n) (hv : InR v) (hb : v = 0 ∨ v = 1) (hd : decode cc pc = .ok (.bastore, 1)) (kk : PW p l e R s m args below meth c D cy B nL cells slots Q (pc + 1) lv st (updS μ a i v)) : PW p l e R s m args below meth c D cy B nL cells slots Q pc lv (iN v :: iN i :: .ref (B + a) :: st) μ := by
  intro hR H locs ls hP hS hl
  have h2 : i < 2147483648 := by omega
  have hc := x_clamp h0 h2
  have hi : ((i.toNat : Nat) : Int) = i := Int.toNat_of_nonneg h0
  refine va_zast C.1 C.2.1 C.2.2.2.2.2.1.1 hP (WL_D (B := B)) hS a 1 (by have h9 := WL_get (B := B) (cy := cy) (μ := μ) ha; rw [ent_bool hk hn] at h9; exact h9) rfl (x_in h0 h1 hn5) hd (fun H1 locs1 hP1 hD1 hS1 => ?_)
  have hnar : vp_nar .boolean (Int32.ofInt v) = Int32.ofInt v := by rcases hb with rfl | rfl <;> decide +kernel
  rw [hnar] at hP1
  rw [hc, fun_set μ a i v h0 _ rfl, WL_set (μ' := updS μ a i v) (by rw [ent_bool hk hn]) (fun b hb j => (updS_ne μ i v j hb).symm)] at hP1
  exact kk (hR.upd hv) H1 locs1 ls hP1 hS1 hl
theorem q_lastore (C : Cx p l s m args meth c cc nL own Ts D cy B) {a n : Nat} {i v : Int} (hk : kd a = 8) (hn : ln a = n) (hn5 : n ≤ 100000) (ha : a < 233) (h0 : 0 ≤ i) (h1 : i < n) (hv : InR v) (hd : decode cc pc = .ok (.lastore, 1)) (kk : PW p l e R s m args below meth c D cy B nL cells slots Q (pc + 1) lv st (updS μ a i v)) : PW p l e R s m args below meth c D cy B nL cells slots Q pc lv (jN v :: iN i :: .ref (B + a) :: st) μ := by
  intro hR H locs ls hP hS hl
  have h2 : i < 2147483648 := by omega
  have hc := x_clamp h0 h2
  have hi : ((i.toNat : Nat) : Int) = i := Int.toNat_of_nonneg h0
  refine va_last C.1 C.2.1 C.2.2.2.2.2.1.1 hP (WL_D (B := B)) hS a 3 (by have h9 := WL_get (B := B) (cy := cy) (μ := μ) ha; rw [ent_long hk hn] at h9; exact h9) rfl (x_in h0 h1 hn5) hd (fun H1 locs1 hP1 hD1 hS1 => ?_)
  have hf : vp_updL (fun j : Nat => Int64.ofInt (μ a j)) i.toNat (Int64.ofInt v) = fun j : Nat => Int64.ofInt (updS μ a i v a j) := by
    funext j
    unfold vp_updL updS
    by_cases h : j = i.toNat
    · have : (j : Int) = i := by omega
      simp [h, this, hi]
    · have : ¬ (j : Int) = i := by omega
      simp [h, this]
  rw [hc, hf, WL_set (μ' := updS μ a i v) (by rw [ent_long hk hn]) (fun b hb j => (updS_ne μ i v j hb).symm)] at hP1
  exact kk (hR.upd hv) H1 locs1 ls hP1 hS1 hl
end
