section
def Qp (D : va_G) (cy : Nat → ClassId) (B : Nat) (post : Option Value → St → Prop) : Array Value → State → Outcome → State → Prop := fun _ st o t => (∃ (v : Option Value) (μ' : St), o = .returned v ∧ post v μ' ∧ InRg μ' ∧ va_P D vwCl (WL B cy μ') t.heap) ∧ va_F (fun q => B ≤ q) st t
def Xp (D : va_G) (cy : Nat → ClassId) (B : Nat) (px : String → St → Prop) : String → State → State → Prop := fun E st t => (∃ μ' : St, px E μ' ∧ InRg μ' ∧ va_P D vwCl (WL B cy μ') t.heap) ∧ va_F (fun q => B ≤ q) st t
def Pre (D : va_G) (cy : Nat → ClassId) (B : Nat) (as : List Value) (μ : St) : Array Value → State → Prop := fun a s => a = as.toArray ∧ EF D cy B s ∧ InRg μ ∧ va_P D vwCl (WL B cy μ) s.heap
def PC (l : Launch) (D : va_G) (cy : Nat → ClassId) (B : Nat) (y : MethodName) (ws : List Cond) (rm : Room) (as : List Value) (μ : St) (post : Option Value → St → Prop) (px : String → St → Prop) : Prop :=
  vx_Met l y ws rm (Pre D cy B as μ) (Qp D cy B post) (Xp D cy B px) rm.cells rm.slots (fun q => B ≤ q)
theorem Pre.blind {D : va_G} {cy : Nat → ClassId} {B : Nat} {as : List Value} {μ : St} : FrameBlind (Pre D cy B as μ) := fun a U g mk h => ⟨h.1, h.2.1.calling g mk a, h.2.2.1, h.2.2.2⟩
def noX : String → St → Prop := fun _ _ => False
def ret1 (v : Int) (μ : St) : Option Value → St → Prop := fun r μ' => r = some (iN v) ∧ μ' = μ
def ret0 (μ : St) : Option Value → St → Prop := fun r μ' => r = none ∧ μ' = μ
theorem PC.mono {l : Launch} {D : va_G} {cy : Nat → ClassId} {B : Nat} {y : MethodName} {ws : List Cond} {rm : Room} {as : List Value} {μ : St} {post post' : Option Value → St → Prop} {px px' : String → St → Prop} (h : PC l D cy B y ws rm as μ post px) (h1 : ∀ v μ', InRg μ → InRg μ' → post v μ' → post' v μ') (h2 : ∀ E μ', px E μ' → px' E μ') : PC l D cy B y ws rm as μ post' px' := by
  intro p e ha hc hk s m args below hf happ hpre hK
  obtain ⟨k, o, a1, a2, a3, hq⟩ := h p e ha hc hk s m args below hf happ hpre hK
  refine ⟨k, o, a1, a2, a3, ?_⟩
  rcases hq with ⟨⟨⟨v, μ', e1, e2, e3, e4⟩, e5⟩, e6⟩ | ⟨q, e0, E, ce, L, ⟨⟨μ', e1, e2, e3⟩, e4⟩, e5⟩
  · exact Or.inl ⟨⟨⟨v, μ', e1, h1 v μ' hpre.2.2.1 e3 e2, e3, e4⟩, e5⟩, e6⟩
  · exact Or.inr ⟨q, e0, E, ce, L, ⟨⟨μ', h2 E μ' e1, e2, e3⟩, e4⟩, e5⟩
theorem PC.pre {l : Launch} {D : va_G} {cy : Nat → ClassId} {B : Nat} {y : MethodName} {ws : List Cond} {rm : Room} {as : List Value} {μ : St} {post : Option Value → St → Prop} {px : String → St → Prop} (h : InRg μ → PC l D cy B y ws rm as μ post px) : PC l D cy B y ws rm as μ post px := by
  intro p e ha hc hk s m args below hf happ hpre hK
  exact h hpre.2.2.1 p e ha hc hk s m args below hf happ hpre hK

variable {p : Program} {l : Launch} {e : Env} {R : Room} {s : State} {m : MethodId} {args : Array Value} {below : List Frame} {meth : Method} {c : Code} {D : va_G} {cy : Nat → ClassId} {B nL cells slots : Nat} {Q : State → Prop}
variable {cc : ByteArray} {own : String} {Ts : List Cond} {pc : Nat} {lv : List (Option Value)} {st : List Value} {μ : St}

variable {post : Option Value → St → Prop} {px : String → St → Prop} {mc ms : Nat}
theorem q_after {H : Heap} {locs : List Loc} {ls : Array Slot} {st0 rest : List Value} {rm : Room} {As : Array Value} (hr : vx_Run p l e R s m args below meth c H locs cells slots rm.cells rm.slots (F0 m pc ls st0) rest (Qp D cy B post As) (Xp D cy B px) (fun q => B ≤ q)) (hS : va_S (fun q => B ≤ q) s.heap H locs) (hl : lh ls nL lv) (kx : ∀ (E : String) (μ2 : St), px E μ2 → PX p l e R s m args below meth c D cy B nL (cells + rm.cells) (slots + rm.slots) Q pc lv rest μ2 E) (kk : ∀ (v : Option Value) (μ2 : St), post v μ2 → PW p l e R s m args below meth c D cy B nL (cells + rm.cells) (slots + rm.slots) Q (pc + 3) lv (v.toList ++ rest) μ2) : W p l e R s m args below meth c H locs cells slots Q (F0 m pc ls st0) := by
  intro T hT X
  rcases hr T hT X with ⟨v, st₀, t, T', L, h0, X', hL, e1, e2, ⟨⟨v', μ2, hv, hp, hr2, hP2⟩, hF⟩, st⟩ | ⟨q, st₀, t, T', L, E, ce, h0, X', hL, e1, e2, ⟨⟨μ2, hp, hr2, hP2⟩, hF⟩, hce, hcv, hcl, st⟩
  · cases hv
    obtain ⟨k1, k2, k3⟩ := vx_keep h0 e1 hS (fun q _ h => h) (fun q h => h) hL hF
    obtain ⟨t2, a1, b1⟩ := kk v μ2 hp hr2 T'.heap (locs ++ L) ls (by rw [e1]; exact hP2) k3 hl T' rfl X'
    exact ⟨t2, st t2 a1, b1⟩
  · obtain ⟨k1, k2, k3⟩ := vx_keep h0 e1 hS (fun q _ h => h) (fun q h => h) hL hF
    obtain ⟨t2, a1, b1⟩ := kx E μ2 hp hr2 T'.heap (locs ++ L) ls q ce (by rw [e1]; exact hP2) k3 hl (by rw [e1]; exact hce) hcv hcl T' rfl X'
    exact ⟨t2, st.trans a1, b1⟩
theorem q_callV (C : Cx p l s m args meth c cc nL own Ts D cy B) {y : MethodName} {ws : List Cond} {rm : Room} {n index maxL : Nat} {bytes : ByteArray} {ret : Option FieldType} {As rest st0 : List Value} {b ci : Nat} {CN : String} {T : u_T} {N : Nat} (hM : PC l D cy B y ws rm (.ref (B + b) :: As) μ post px) (cw : CallW R s args own CN index y bytes maxL ret ws rm rm.cells rm.slots n) (hc : vwCl[ci]? = some (CN, T, N)) (hkd : kd b = ci) (h5 : ci < 5) (hb : b < 233) (hn : As.length = n) (hst : st0 = As.reverse ++ .ref (B + b) :: rest) (hW : (rest.map fun v => v.category).sum ≤ 8) (hd : decode cc pc = .ok (.invokevirtual index, 3)) (hf : cells + rm.cells ≤ R.cells ∧ slots + rm.slots ≤ R.slots) (kx : ∀ (E : String) (μ2 : St), px E μ2 → PX p l e R s m args below meth c D cy B nL (cells + rm.cells) (slots + rm.slots) Q pc lv rest μ2 E) (kk : ∀ (v : Option Value) (μ2 : St), post v μ2 → PW p l e R s m args below meth c D cy B nL (cells + rm.cells) (slots + rm.slots) Q (pc + 3) lv (v.toList ++ rest) μ2) : PW p l e R s m args below meth c D cy B nL cells slots Q pc lv st0 μ := by
  intro hR H locs ls hP hS hl
  have h9 := WL_get (B := B) (cy := cy) (μ := μ) hb
  rw [ent_obj hkd h5] at h9
  exact q_after (vx_runV (As := As) (rest := rest) ⟨C.1, C.2.1, C.2.2.1, C.2.2.2.1, C.2.2.2.2.1⟩ hM cw ⟨Pre.blind, va_recv C.2.2.2.2.2.1.1 hP hc h9, fun U hU hW9 => ⟨rfl, C.2.2.2.2.2.1.step hS hW9 hU, hR, by rw [hU]; exact hP⟩⟩ rfl hn hl.size hst (lv_room hW) hd hf) hS hl kx kk
theorem q_callS (C : Cx p l s m args meth c cc nL own Ts D cy B) {y : MethodName} {ws : List Cond} {rm : Room} {n index maxL : Nat} {bytes : ByteArray} {ret : Option FieldType} {As rest st0 : List Value} (hM : PC l D cy B y ws rm As μ post px) (cw : CallB R s args own index y bytes maxL ret ws rm rm.cells rm.slots n ∧ (Cond.static y).before args s = true) (hn : As.length = n) (hst : st0 = As.reverse ++ rest) (hW : (rest.map fun v => v.category).sum ≤ 8) (hd : decode cc pc = .ok (.invokestatic index, 3)) (hf : cells + rm.cells ≤ R.cells ∧ slots + rm.slots ≤ R.slots) (kx : ∀ (E : String) (μ2 : St), px E μ2 → PX p l e R s m args below meth c D cy B nL (cells + rm.cells) (slots + rm.slots) Q pc lv rest μ2 E) (kk : ∀ (v : Option Value) (μ2 : St), post v μ2 → PW p l e R s m args below meth c D cy B nL (cells + rm.cells) (slots + rm.slots) Q (pc + 3) lv (v.toList ++ rest) μ2) : PW p l e R s m args below meth c D cy B nL cells slots Q pc lv st0 μ := by
  intro hR H locs ls hP hS hl
  exact q_after (vx_runS (As := As) (rest := rest) ⟨C.1, C.2.1, C.2.2.1, C.2.2.2.1, C.2.2.2.2.1⟩ hM cw ⟨Pre.blind, fun U hU hW9 => ⟨rfl, C.2.2.2.2.2.1.step hS hW9 hU, hR, by rw [hU]; exact hP⟩⟩ rfl hn hl.size hst (lv_room hW) hd hf) hS hl kx kk
theorem q_callSN (C : Cx p l s m args meth c cc nL own Ts D cy B) {y : MethodName} {ws : List Cond} {rm : Room} {n index maxL : Nat} {bytes : ByteArray} {ret : Option FieldType} {As rest st0 : List Value} (hM : PC l D cy B y ws rm As μ post px) (cw : va_CN R s args own index y "CoverTrees" bytes maxL ret ws rm rm.cells rm.slots n ∧ (Cond.static y).before args s = true ∧ True) (hn : As.length = n) (hst : st0 = As.reverse ++ rest) (hW : (rest.map fun v => v.category).sum ≤ 8) (hd : decode cc pc = .ok (.invokestatic index, 3)) (hf : cells + rm.cells ≤ R.cells ∧ slots + rm.slots ≤ R.slots) (kx : ∀ (E : String) (μ2 : St), px E μ2 → PX p l e R s m args below meth c D cy B nL (cells + rm.cells) (slots + rm.slots) Q pc lv rest μ2 E) (kk : ∀ (v : Option Value) (μ2 : St), post v μ2 → PW p l e R s m args below meth c D cy B nL (cells + rm.cells) (slots + rm.slots) Q (pc + 3) lv (v.toList ++ rest) μ2) : PW p l e R s m args below meth c D cy B nL cells slots Q pc lv st0 μ := by
  intro hR H locs ls hP hS hl
  exact q_after (vx_runSN (As := As) (rest := rest) ⟨C.1, C.2.1, C.2.2.1, C.2.2.2.1, C.2.2.2.2.1⟩ hM cw ⟨Pre.blind, fun U hU hW9 => ⟨rfl, C.2.2.2.2.2.1.step hS hW9 hU, hR, by rw [hU]; exact hP⟩⟩ rfl hn hl.size hst (lv_room hW) hd hf) hS hl kx kk
theorem q_callSX (C : Cx p l s m args meth c cc nL own Ts D cy B) {y : MethodName} {ws : List Cond} {rm : Room} {n index maxL : Nat} {bytes : ByteArray} {ret : Option FieldType} {As rest st0 : List Value} {hh : List (Nat × Nat × Nat × Nat)} (hM : PC l D cy B y ws rm As μ post px) (cw : vx_CSW R s args own index y bytes maxL ret hh ws rm rm.cells rm.slots n) (hn : As.length = n) (hst : st0 = As.reverse ++ rest) (hW : (rest.map fun v => v.category).sum ≤ 8) (hd : decode cc pc = .ok (.invokestatic index, 3)) (hf : cells + rm.cells ≤ R.cells ∧ slots + rm.slots ≤ R.slots) (kx : ∀ (E : String) (μ2 : St), px E μ2 → PX p l e R s m args below meth c D cy B nL (cells + rm.cells) (slots + rm.slots) Q pc lv rest μ2 E) (kk : ∀ (v : Option Value) (μ2 : St), post v μ2 → PW p l e R s m args below meth c D cy B nL (cells + rm.cells) (slots + rm.slots) Q (pc + 3) lv (v.toList ++ rest) μ2) : PW p l e R s m args below meth c D cy B nL cells slots Q pc lv st0 μ := by
  intro hR H locs ls hP hS hl
  exact q_after (vx_runSX (hh := hh) (As := As) (rest := rest) ⟨C.1, C.2.1, C.2.2.1, C.2.2.2.1, C.2.2.2.2.1⟩ hM cw ⟨Pre.blind, fun U hU hW9 => ⟨rfl, C.2.2.2.2.2.1.step hS hW9 hU, hR, by rw [hU]; exact hP⟩⟩ rfl hn hl.size hst (lv_room hW) hd hf) hS hl kx kk
theorem q_iret (C : Cx p l s m args meth c cc nL own Ts D cy B) {v : Int} (hret : meth.sig.returnType = some .int) (hp : post (some (iN v)) μ) (hc : cells ≤ mc) (hs : slots ≤ ms) (hd : decode cc pc = .ok (.ireturn, 1)) : PW p l e R s m args below meth c D cy B nL cells slots (vx_MQ below (Qp D cy B post) (Xp D cy B px) args s mc ms (fun q => B ≤ q)) pc lv [iN v] μ := by
  intro hR H locs ls hP hS hl
  have hlk : meth.locks = false := C.2.2.2.2.2.2.1
  exact vx_ret (W.widen hc hs (W.iret (v := Int32.ofInt v) C.1 C.2.1 hret (fun t ht hW => ⟨⟨_, μ, rfl, hp, hR, by rw [ht]; exact hP⟩, hS.F ht⟩) hS.2.2 hd hlk))
theorem q_zret (C : Cx p l s m args meth c cc nL own Ts D cy B) {v : Int} (hret : meth.sig.returnType = some .boolean) (hz : v = 0 ∨ v = 1) (hp : post (some (iN v)) μ) (hc : cells ≤ mc) (hs : slots ≤ ms) (hd : decode cc pc = .ok (.ireturn, 1)) : PW p l e R s m args below meth c D cy B nL cells slots (vx_MQ below (Qp D cy B post) (Xp D cy B px) args s mc ms (fun q => B ≤ q)) pc lv [iN v] μ := by
  intro hR H locs ls hP hS hl
  have hlk : meth.locks = false := C.2.2.2.2.2.2.1
  exact vx_ret (W.widen hc hs (W.zret (v := Int32.ofInt v) C.1 C.2.1 hret (by rcases hz with rfl | rfl <;> decide +kernel) (fun t ht hW => ⟨⟨_, μ, rfl, hp, hR, by rw [ht]; exact hP⟩, hS.F ht⟩) hS.2.2 hd hlk))
theorem q_vret (C : Cx p l s m args meth c cc nL own Ts D cy B) (hret : meth.sig.returnType = none) (hp : post none μ) (hc : cells ≤ mc) (hs : slots ≤ ms) (hd : decode cc pc = .ok (.return_, 1)) : PW p l e R s m args below meth c D cy B nL cells slots (vx_MQ below (Qp D cy B post) (Xp D cy B px) args s mc ms (fun q => B ≤ q)) pc lv [] μ := by
  intro hR H locs ls hP hS hl
  have hlk : meth.locks = false := C.2.2.2.2.2.2.1
  exact vx_ret (W.widen hc hs (W.vret C.1 C.2.1 hret (fun t ht hW => ⟨⟨_, μ, rfl, hp, hR, by rw [ht]; exact hP⟩, hS.F ht⟩) hS.2.2 hd hlk))
theorem q_throw (C : Cx p l s m args meth c cc nL own Ts D cy B) {ik is ic : Nat} {cls text : String} {names : List String} (hcls : Bundle.fit cls = true) (hnames : ∀ n ∈ names, Bundle.fit n = true) (hk : Cond.classLink own ik cls ∈ Ts) (hini : Cond.initialized cls ∈ Ts) (hstr : (own, is, text) ∈ SLs) (hat0 : ∀ w ∈ (vx_atS own ic cls names).filter goodWord, w ∈ Ts) (hat1 : ∀ w ∈ (vx_atS own ic cls names).filter (fun w => !goodWord w), w ∈ NDs.map Cond.declares ++ NEs.map (fun q => Cond.castable q q)) (hgood : ∀ w ∈ Cond.classLink own ik cls :: Cond.initialized cls :: vx_atS own ic cls names, vx_ot w = true)
    (d0 : decode cc pc = .ok (.new ik, 3)) (d3 : decode cc (pc + 3) = .ok (.dup, 1)) (d4 : decode cc (pc + 4) = .ok (.ldc is, 2)) (d6 : decode cc (pc + 6) = .ok (.invokespecial ic, 3)) (d9 : decode cc (pc + 9) = .ok (.athrow, 1)) (hno : ∀ x ∈ c.exceptionTable.toList, False)
    (hRf : names.length + 3 < R.frames) (hRl : 13 * (names.length + 1) + 43 ≤ R.locals) (hRc : cells + 1 ≤ R.cells) (hRs : slots + 6 ≤ R.slots) (hp : px cls μ) (hc : cells + 1 ≤ mc) (hs : slots + 6 ≤ ms) : PW p l e R s m args below meth c D cy B nL cells slots (vx_MQ below (Qp D cy B post) (Xp D cy B px) args s mc ms (fun q => B ≤ q)) pc lv [] μ := by
  intro hR H locs ls hP hS hl
  obtain ⟨-, -, -, hU, hN, hst, -, hDc, hEc⟩ := C.2.2.2.2.2.1
  obtain ⟨sa, hsa⟩ := hst _ hstr
  have hat : ∀ w ∈ vx_atS own ic cls names, w.before args s = true := vx_hat (fun w hw => C.2.2.2.2.1 w (hat0 w hw)) hat1 (fun w hw => by
    rcases List.mem_append.mp hw with h | h
    · obtain ⟨q, hq, rfl⟩ := List.mem_map.mp h
      exact va_Nw.use rfl (hDc q hq)
    · obtain ⟨q, hq, rfl⟩ := List.mem_map.mp h
      exact va_Nw.use rfl (hEc q hq))
  refine vx_throwS C.1 C.2.1 C.2.2.2.2.2.2.2.2 C.2.2.2.1 hcls hnames (C.2.2.2.2.1 _ hk) (C.2.2.2.2.1 _ hini) hsa hat hgood hU hN hS (by rw [C.2.2.1]; exact hl.size) d0 d3 d4 d6 d9 (fun x hx => (hno x hx).elim) hRf (by simpa using hRl) hRc hRs C.2.2.2.2.2.2.1 (fun t hv hz hk9 => ⟨⟨μ, hp, hR, hP.kept (fun k q hk2 => hk9 q.1 ((hP k q hk2).lt))⟩, ?_⟩) hS.2.2 hc hs
  exact ⟨Nat.le_trans hS.1 hz, fun q h1 h2 => (hk9 q (Nat.lt_of_lt_of_le h1 hS.1)).trans (hS.2.1 q h1 h2)⟩
theorem q_out (C : Cx p l s m args meth c cc nL own Ts D cy B) {E : String} (hno : ∀ x ∈ c.exceptionTable.toList, False) (hp : px E μ) (hc : cells ≤ mc) (hs : slots ≤ ms) : PX p l e R s m args below meth c D cy B nL cells slots (vx_MQ below (Qp D cy B post) (Xp D cy B px) args s mc ms (fun q => B ≤ q)) pc lv st μ E := by
  intro hR H locs ls q ce hP hS hl hce hcv hcl
  exact vx_out (fun x hx => (hno x hx).elim) C.2.2.2.2.2.2.1 hce hcv hcl (fun t ht hv => ⟨⟨μ, hp, hR, by rw [ht]; exact hP⟩, hS.F ht⟩) hS.2.2 hc hs
theorem q_catch (C : Cx p l s m args meth c cc nL own Ts D cy B) {E name : String} (pre : List ExceptionTableEntry) (x : ExceptionTableEntry) (suf : List ExceptionTableEntry) (hsplit : c.exceptionTable.toList = pre ++ x :: suf)
    (hpass : ∀ z ∈ pre, covers z pc = false ∨ (z.catchType ≠ 0 ∧ ∃ nm : String, Cond.classLink own z.catchType nm ∈ Ts ∧ (E, nm) ∈ NCs)) (hx : covers x pc = true) (h0 : x.catchType ≠ 0) (hlink : Cond.classLink own x.catchType name ∈ Ts) (hen : E = name) (hce9 : E ∈ NEs)
    (kk : ∀ q : Nat, PW p l e R s m args below meth c D cy B nL cells slots Q x.handlerPc lv [.ref q] μ) : PX p l e R s m args below meth c D cy B nL cells slots Q pc lv st μ E := by
  intro hR H locs ls q ce hP hS hl hce hcv hcl
  exact vx_catch C.2.2.2.1 pre x suf hsplit (fun z hz => by
    rcases hpass z hz with h | ⟨h1, nm, h2, h3⟩
    · exact Or.inl h
    · exact Or.inr ⟨h1, nm, C.2.2.2.2.1 _ h2, C.2.2.2.2.2.1.2.2.2.2.2.2.1 _ h3⟩) hx h0 (C.2.2.2.2.1 _ hlink) (by subst hen; exact va_Nw.use rfl (C.2.2.2.2.2.1.2.2.2.2.2.2.2.2 _ hce9)) hce hcv hcl (kk q hR H locs ls hP hS hl)
def cpS (μ : St) (a b : Nat) : St := fun x k => if x = a ∧ 0 ≤ k ∧ k < 6 then μ b k else μ x k
theorem q_copy (C : Cx p l s m args meth c cc nL own Ts D cy B) {a b index : Nat} (ka : kd a = 5) (kb : kd b = 5) (na : ln a = 6) (nb : ln b = 6) (ha : a < 233) (hb : b < 233) (hw1 : Cond.methodLink own index arraycopyName ∈ Ts) (hw2 : Cond.native arraycopyName ∈ Ts) (hw3 : Cond.static arraycopyName ∈ Ts) (hw4 : Cond.initialized "java/lang/System" ∈ Ts) (hRf : 1 ≤ R.frames) (hRl : (st.map fun v => v.category).sum + (nativeFrameWords "java/lang/System" "arraycopy" 5 + 11) ≤ R.locals) (hd : decode cc pc = .ok (.invokestatic index, 3))
    (kk : PW p l e R s m args below meth c D cy B nL cells slots Q (pc + 3) lv st (cpS μ a b)) : PW p l e R s m args below meth c D cy B nL cells slots Q pc lv (iN 6 :: iN 0 :: .ref (B + a) :: iN 0 :: .ref (B + b) :: st) μ := by
  intro hR H locs ls hP hS hl
  have h9a := WL_get (B := B) (cy := cy) (μ := μ) ha
  rw [ent_int ka na] at h9a
  have h9b := WL_get (B := B) (cy := cy) (μ := μ) hb
  rw [ent_int kb nb] at h9b
  have e6 : (Int32.ofInt 6).toNatClampNeg = 6 := by decide +kernel
  have e0 : (Int32.ofInt 0).toNatClampNeg = 0 := by decide +kernel
  refine va_copyi C.1 C.2.1 (by rw [C.2.2.1]; exact hl.size.symm) C.2.2.2.1 (C.2.2.2.2.1 _ hw1) (C.2.2.2.2.1 _ hw2) (C.2.2.2.2.1 _ hw3) (C.2.2.2.2.1 _ hw4) C.2.2.2.2.2.1.1 hP (WL_D (B := B)) hS b a 0 0 h9b h9a rfl rfl rfl (by decide +kernel) (by decide +kernel) (by decide +kernel) (by rw [e0, e6]; decide) (by rw [e0, e6]; decide) (fun i hi => rfl) hRf hRl hd (fun H1 locs1 hP1 hD1 hS1 => ?_)
  have hf : va_cpy (fun j : Nat => Int32.ofInt (μ b j)) (fun j : Nat => Int32.ofInt (μ a j)) 0 0 6 = fun j : Nat => Int32.ofInt (cpS μ a b a j) := by
    funext j
    unfold va_cpy cpS
    by_cases h : j < 6
    · have : (j : Int) < 6 := by omega
      simp [h, this]
    · have : ¬ (j : Int) < 6 := by omega
      simp [h, this]
  rw [e0, e6, hf, WL_set (μ' := cpS μ a b) (by rw [ent_int ka na]) (fun x hx k => by simp [cpS, hx])] at hP1
  refine kk (fun x k => ?_) H1 locs1 ls hP1 hS1 hl
  unfold cpS
  split
  · exact hR b k
  · exact hR x k
theorem q_mmax (C : Cx p l s m args meth c cc nL own Ts D cy B) {x y : Int} {index : Nat} (hx : InR x) (hy : InR y) (hw1 : Cond.methodLink own index Lib.Math.max.name ∈ Ts) (hw2 : Cond.static Lib.Math.max.name ∈ Ts) (hw3 : Cond.initialized "java/lang/Math" ∈ Ts) (hw4 : Cond.code Lib.Math.max.name Lib.Math.max.code 2 (some .int) ∈ Ts) (hRf : 1 ≤ R.frames) (hRl : (st.map fun v => v.category).sum + 13 ≤ R.locals) (hc : cells ≤ R.cells) (hs : slots ≤ R.slots) (hd : decode cc pc = .ok (.invokestatic index, 3))
    (kk : PW p l e R s m args below meth c D cy B nL cells slots Q (pc + 3) lv (iN (if x < y then y else x) :: st) μ) : PW p l e R s m args below meth c D cy B nL cells slots Q pc lv (iN y :: iN x :: st) μ := by
  intro hR H locs ls hP hS hl
  refine va_mmax C.1 C.2.1 (by rw [C.2.2.1]; exact hl.size.symm) C.2.2.2.1 (C.2.2.2.2.1 _ hw1) (C.2.2.2.2.1 _ hw2) (C.2.2.2.2.1 _ hw3) (C.2.2.2.2.1 _ hw4) hRf hRl hc hs hd ?_
  have he : (if Int32.ofInt x < Int32.ofInt y then Int32.ofInt y else Int32.ofInt x) = Int32.ofInt (if x < y then y else x) := by
    by_cases h : x < y
    · rw [if_pos h, if_pos ((x_lt hx hy).mpr h)]
    · rw [if_neg h, if_neg (fun z => h ((x_lt hx hy).mp z))]
  rw [he]
  exact kk hR H locs ls hP hS hl
end
theorem q_start {l : Launch} {D : va_G} {cy : Nat → ClassId} {B : Nat} {y : MethodName} {ws ws' : List Cond} {rm : Room} {as : List Value} {μ : St} {post : Option Value → St → Prop} {px : String → St → Prop} {cc : ByteArray} {maxL : Nat} {ret : Option FieldType} (hl : l.stackTraces = false) (hy : plainName y.cls = true) (hw : ws = Cond.code y cc maxL ret :: ws') (hcat : ∀ v ∈ as, v.category = 1) (hlen : as.length ≤ maxL)
    (body : ∀ (p : Program) (e : Env) (s : State) (m : MethodId) (args : Array Value) (below : List Frame) (meth : Method) (c : Code), Cx p l s m args meth c cc maxL y.cls ws D cy B → meth.sig.returnType = ret → (∀ x ∈ c.exceptionTable.toList, False) →
      PW p l e rm s m args below meth c D cy B maxL 0 0 (vx_MQ below (Qp D cy B post) (Xp D cy B px) args s rm.cells rm.slots (fun q => B ≤ q)) 0 (as.map some ++ List.replicate (maxL - as.length) none) [] μ) : PC l D cy B y ws rm as μ post px := by
  refine vx_ofW hy hw ?_
  intro p e s m args below meth c s₁ Bd hml ht hp
  obtain ⟨rfl, hE, hR, hP⟩ := hp
  have hBs : B ≤ s.heap.size := by
    have := (hP 0 _ (WL_get (by decide))).lt
    omega
  rw [lg_entry_eq]
  exact body p e s m _ below meth c ⟨Bd.exec, Bd.bytes, hml, findClass_of_methodNamed Bd.named, atoms_spec (ws := ws) Bd.pre, hE, Bd.notSynchronized, hBs, hl⟩ Bd.returns ht hR s.heap [] _ hP va_S.rf (lh_entry hcat hlen)
theorem q_startH {l : Launch} {D : va_G} {cy : Nat → ClassId} {B : Nat} {y : MethodName} {ws ws' : List Cond} {rm : Room} {as : List Value} {μ : St} {post : Option Value → St → Prop} {px : String → St → Prop} {cc : ByteArray} {maxL : Nat} {ret : Option FieldType} {hh : List (Nat × Nat × Nat × Nat)} (hl : l.stackTraces = false) (hy : plainName y.cls = true) (hw : ws = Cond.codeWith y cc maxL ret hh :: ws') (hcat : ∀ v ∈ as, v.category = 1) (hlen : as.length ≤ maxL)
    (body : ∀ (p : Program) (e : Env) (s : State) (m : MethodId) (args : Array Value) (below : List Frame) (meth : Method) (c : Code), Cx p l s m args meth c cc maxL y.cls ws D cy B → meth.sig.returnType = ret → c.exceptionTable.toList = tableOf hh →
      PW p l e rm s m args below meth c D cy B maxL 0 0 (vx_MQ below (Qp D cy B post) (Xp D cy B px) args s rm.cells rm.slots (fun q => B ≤ q)) 0 (as.map some ++ List.replicate (maxL - as.length) none) [] μ) : PC l D cy B y ws rm as μ post px := by
  refine vx_ofWH hy hw ?_
  intro p e s m args below meth c s₁ Bd hml hp
  obtain ⟨rfl, hE, hR, hP⟩ := hp
  have hBs : B ≤ s.heap.size := by
    have := (hP 0 _ (WL_get (by decide))).lt
    omega
  have hts := atoms_spec (ws := ws) Bd.pre
  rw [lg_entry_eq]
  exact body p e s m _ below meth c ⟨Bd.exec, Bd.bytes, hml, findClass_of_methodNamed Bd.named, hts, hE, Bd.notSynchronized, hBs, hl⟩ Bd.returns (vx_table (x := y) Bd (hts _ (by rw [hw]; exact List.mem_cons_self))) hR s.heap [] _ hP va_S.rf (lh_entry hcat hlen)
