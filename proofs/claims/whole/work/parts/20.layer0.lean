section
def InR (x : Int) : Prop := -2147483648 ≤ x ∧ x < 2147483648
abbrev iN (x : Int) : Value := .int (Int32.ofInt x)
abbrev jN (x : Int) : Value := .long (Int64.ofInt x)
abbrev St : Type := Nat → Int → Int
def updS (μ : St) (a : Nat) (k v : Int) : St := fun b j => if b = a ∧ j = k then v else μ b j
def InRg (μ : St) : Prop := ∀ a k, InR (μ a k)
theorem InRg.upd {μ : St} (h : InRg μ) {a : Nat} {k v : Int} (hv : InR v) : InRg (updS μ a k v) := by
  intro b j
  unfold updS
  split
  · exact hv
  · exact h b j
theorem updS_self (μ : St) (a : Nat) (k v : Int) : updS μ a k v a k = v := by simp [updS]
theorem updS_ne (μ : St) {a b : Nat} (k v j : Int) (h : b ≠ a) : updS μ a k v b j = μ b j := by simp [updS, h]
theorem updS_nk (μ : St) (a b : Nat) {k j : Int} (v : Int) (h : j ≠ k) : updS μ a k v b j = μ b j := by simp [updS, h]
theorem x_toInt {x : Int} (h : InR x) : (Int32.ofInt x).toInt = x := Int32.toInt_ofInt_of_le (by have := h.1; omega) (by have := h.2; omega)
theorem x_inj {x y : Int} (hx : InR x) (hy : InR y) : Int32.ofInt x = Int32.ofInt y ↔ x = y :=
  ⟨fun h => by rw [← x_toInt hx, ← x_toInt hy, h], fun h => by rw [h]⟩
theorem x_0 : (0 : Int32) = Int32.ofInt 0 := by decide +kernel
theorem r_0 : InR 0 := ⟨by decide, by decide⟩
theorem x_lt {x y : Int} (hx : InR x) (hy : InR y) : Int32.ofInt x < Int32.ofInt y ↔ x < y := by
  rw [Int32.lt_iff_toInt_lt, x_toInt hx, x_toInt hy]
theorem x_le {x y : Int} (hx : InR x) (hy : InR y) : Int32.ofInt x ≤ Int32.ofInt y ↔ x ≤ y := by
  rw [Int32.le_iff_toInt_le, x_toInt hx, x_toInt hy]
theorem x_clamp {x : Int} (h0 : 0 ≤ x) (h1 : x < 2147483648) : (Int32.ofInt x).toNatClampNeg = x.toNat :=
  Int32.toNatClampNeg_ofInt_of_le (by omega) (by omega)
theorem x_in {x : Int} {n : Nat} (h0 : 0 ≤ x) (h1 : x < n) (hn : n ≤ 100000) : vp_in (Int32.ofInt x) n := by
  have h2 : x < 2147483648 := by omega
  rintro (h | h)
  · rw [x_0, x_lt ⟨by omega, h2⟩ r_0] at h
    omega
  · rw [x_clamp h0 h2] at h
    omega
theorem x_bmod (x : Int) : Int32.ofInt x = Int32.ofInt ((Int32.ofInt x).toInt) := by rw [Int32.ofInt_toInt]
theorem r_of (x : Int32) : InR x.toInt := by
  have h1 := x.minValue_le_toInt
  have h2 := x.toInt_le
  have h3 : Int32.maxValue.toInt = 2147483647 := by decide +kernel
  have h4 : Int32.minValue.toInt = -2147483648 := by decide +kernel
  exact ⟨by omega, by omega⟩
end

section
def kd (a : Nat) : Nat := if a = 0 then 3 else if a = 1 then 1 else if a = 22 then 2 else if a = 128 then 0 else if a = 216 then 4 else if a = 3 ∨ a = 12 ∨ a = 23 ∨ a = 129 ∨ a = 170 then 7 else if a = 127 ∨ a = 225 ∨ a = 230 then 6 else if a = 232 then 8 else 5
def ln (a : Nat) : Nat := if a = 3 ∨ a = 12 then 8 else if a ≤ 21 then 6 else if a = 23 then 100 else if a ≤ 123 then 6 else if a ≤ 127 then 100 else if a = 129 then 40 else if a ≤ 169 then 6 else if a = 170 then 40 else if a ≤ 210 then 8 else if a ≤ 214 then 40 else if a ≤ 218 then 6 else if a ≤ 220 then 48 else if a = 221 then 600 else if a ≤ 225 then 100 else if a = 226 then 240 else if a = 227 then 320 else if a ≤ 230 then 40 else if a = 231 then 6 else 1
def rfo (a k : Nat) : Option Nat := if a = 0 then (if k = 0 then some 1 else if k = 1 then some 21 else if k = 2 then some 22 else if k = 3 then some 128 else none) else if a = 1 then (if k = 2 then some 2 else if k = 3 then some 3 else if k = 4 then some 12 else none) else if a = 22 then (if k = 0 then some 1 else if k = 4 then some 23 else if k = 5 then some 124 else if k = 6 then some 125 else if k = 7 then some 126 else if k = 8 then some 127 else none) else if a = 128 then (if k = 0 then some 1 else if k = 2 then some 129 else if k = 3 then some 170 else if k = 4 then some 211 else if k = 5 then some 212 else if k = 6 then some 213 else if k = 7 then some 214 else if k = 8 then some 215 else none) else if a = 216 then (if k = 3 then some 217 else if k = 4 then some 218 else if k = 5 then some 219 else if k = 6 then some 220 else if k = 8 then some 221 else if k = 9 then some 222 else if k = 10 then some 223 else if k = 11 then some 224 else if k = 12 then some 225 else if k = 16 then some 226 else if k = 17 then some 227 else if k = 18 then some 228 else if k = 19 then some 229 else if k = 20 then some 230 else if k = 21 then some 231 else none) else if a = 3 then some (4 + k) else if a = 12 then some (13 + k) else if a = 23 then some (24 + k) else if a = 129 then some (130 + k) else if a = 170 then some (171 + k) else none
def nf (c : Nat) : Nat := if c = 0 then 9 else if c = 1 then 5 else if c = 2 then 9 else if c = 3 then 4 else 22
def entO (B : Nat) (μ : St) (a n : Nat) : List Value := (List.range n).map (fun k => match rfo a k with | some r => Value.ref (B + r) | none => iN (μ a k))
def ent (B : Nat) (cy : Nat → ClassId) (μ : St) (a : Nat) : va_E :=
  if kd a < 5 then .inr (kd a, entO B μ a (nf (kd a)))
  else if kd a = 7 then .inl (cy 7, ln a, .inr (.inr (.inr (.inr (fun j => (rfo a j).map (fun r => B + r))))))
  else if kd a = 8 then .inl (cy 8, ln a, .inr (.inl (fun j => Int64.ofInt (μ a j))))
  else .inl (cy (kd a), ln a, .inl (fun j => Int32.ofInt (μ a j)))
def WL (B : Nat) (cy : Nat → ClassId) (μ : St) : va_W := (List.range 233).map (fun a => (B + a, ent B cy μ a))
theorem WL_get {B : Nat} {cy : Nat → ClassId} {μ : St} {a : Nat} (h : a < 233) : (WL B cy μ)[a]? = some (B + a, ent B cy μ a) := by
  simp [WL, h]
theorem WL_at {B : Nat} {cy : Nat → ClassId} {μ : St} {k : Nat} {q : Nat × va_E} (h : (WL B cy μ)[k]? = some q) : k < 233 ∧ q = (B + k, ent B cy μ k) := by
  have hk : k < 233 := by
    have := (List.getElem?_eq_some_iff.mp h).1
    simpa [WL] using this
  rw [WL_get hk] at h
  exact ⟨hk, (Option.some.inj h).symm⟩
theorem WL_D {B : Nat} {cy : Nat → ClassId} {μ : St} : va_D (fun q : Nat => B ≤ q) (WL B cy μ) := by
  refine ⟨fun i j p q hi hj e => ?_, fun k q h => ?_⟩
  · obtain ⟨-, rfl⟩ := WL_at hi
    obtain ⟨-, rfl⟩ := WL_at hj
    have e2 : B + i = B + j := e
    omega
  · obtain ⟨-, rfl⟩ := WL_at h
    exact Nat.le_add_right _ _
theorem ent_congr {B : Nat} {cy : Nat → ClassId} {μ μ' : St} {a : Nat} (h : ∀ k, μ a k = μ' a k) : ent B cy μ a = ent B cy μ' a := by
  have e : μ a = μ' a := funext h
  simp [ent, entO, e]
theorem WL_set {B : Nat} {cy : Nat → ClassId} {μ μ' : St} {a : Nat} {x : va_E} (hx : ent B cy μ' a = x) (ho : ∀ b, b ≠ a → ∀ k, μ b k = μ' b k) : (WL B cy μ).set a (B + a, x) = WL B cy μ' := by
  apply List.ext_getElem?
  intro i
  rw [List.getElem?_set]
  by_cases hi : a = i
  · subst hi
    by_cases hl : a < 233
    · rw [if_pos rfl, if_pos (by simp [WL, hl]), WL_get hl, hx]
    · simp [WL, hl]
  · rw [if_neg hi]
    by_cases hl : i < 233
    · rw [WL_get hl, WL_get hl, ent_congr (ho i (Ne.symm hi))]
    · simp [WL, hl]
theorem ent_obj {B : Nat} {cy : Nat → ClassId} {μ : St} {a ci : Nat} (hk : kd a = ci) (h5 : ci < 5) : ent B cy μ a = .inr (ci, entO B μ a (nf ci)) := by
  subst hk
  simp [ent, h5]
theorem ent_int {B : Nat} {cy : Nat → ClassId} {μ : St} {a n : Nat} (hk : kd a = 5) (hn : ln a = n) : ent B cy μ a = .inl (cy 5, n, .inl (fun j => Int32.ofInt (μ a j))) := by
  subst hn
  simp [ent, hk]
theorem ent_bool {B : Nat} {cy : Nat → ClassId} {μ : St} {a n : Nat} (hk : kd a = 6) (hn : ln a = n) : ent B cy μ a = .inl (cy 6, n, .inl (fun j => Int32.ofInt (μ a j))) := by
  subst hn
  simp [ent, hk]
theorem ent_refs {B : Nat} {cy : Nat → ClassId} {μ : St} {a n : Nat} (hk : kd a = 7) (hn : ln a = n) : ent B cy μ a = .inl (cy 7, n, .inr (.inr (.inr (.inr (fun j => (rfo a j).map (fun r => B + r)))))) := by
  subst hn
  simp [ent, hk]
theorem ent_long {B : Nat} {cy : Nat → ClassId} {μ : St} {a n : Nat} (hk : kd a = 8) (hn : ln a = n) : ent B cy μ a = .inl (cy 8, n, .inr (.inl (fun j => Int64.ofInt (μ a j)))) := by
  subst hn
  simp [ent, hk]
theorem entO_int {B : Nat} {μ : St} {a n k : Nat} (hk : k < n) (hr : rfo a k = none) : (entO B μ a n)[k]? = some (iN (μ a k)) := by
  simp [entO, hk, hr]
theorem entO_ref {B : Nat} {μ : St} {a n k r : Nat} (hk : k < n) (hr : rfo a k = some r) : (entO B μ a n)[k]? = some (.ref (B + r)) := by
  simp [entO, hk, hr]
theorem entO_set {B : Nat} {μ : St} {a n k : Nat} (hk : k < n) (hr : rfo a k = none) (v : Int) : (entO B μ a n).set k (iN v) = entO B (updS μ a k v) a n := by
  apply List.ext_getElem?
  intro i
  rw [List.getElem?_set]
  by_cases hi : k = i
  · subst hi
    simp [entO, hk, hr, updS]
  · rw [if_neg hi]
    by_cases hl : i < n
    · have : (i : Int) ≠ (k : Int) := by omega
      simp [entO, hl, updS, this]
    · simp [entO, hl]
theorem fun_set (μ : St) (a : Nat) (i v : Int) (h0 : 0 ≤ i) (n : Nat) (hn : i.toNat = n) : upd (fun j : Nat => Int32.ofInt (μ a j)) n (Int32.ofInt v) = fun j : Nat => Int32.ofInt (updS μ a i v a j) := by
  subst hn
  have hi : ((i.toNat : Nat) : Int) = i := Int.toNat_of_nonneg h0
  funext j
  unfold upd updS
  by_cases h : j = i.toNat
  · subst h
    rw [if_pos rfl, hi, if_pos ⟨rfl, rfl⟩]
  · have : ¬ (j : Int) = i := by omega
    rw [if_neg h, if_neg (fun z => this z.2)]
end

section
def NWF : List (String × Nat × String × String × String) := [("CoverTrees", 106, "CoverTrees$Tree", "parents", "[I"), ("CoverTrees", 109, "CoverTrees$Tree", "cameBy", "[I"), ("CoverTrees", 112, "CoverTrees$Tree", "copies", "[Z"), ("CoverTrees", 135, "CoverTrees$Tree", "depthOfRepeat", "I"), ("CoverTrees", 148, "CoverTrees$Graph", "size", "I"), ("CoverTrees", 159, "CoverTrees$Graph", "distances", "[I"), ("CoverTrees", 162, "CoverTrees$Graph", "cameFrom", "[I"), ("CoverTrees", 165, "CoverTrees$Graph", "cameBy", "[I"), ("CoverTrees", 40, "CoverTrees$Net", "places", "I"), ("CoverTrees", 58, "CoverTrees$Net", "transitions", "I"), ("CoverTrees", 78, "CoverTrees$Net", "first", "[I"), ("CoverTrees", 90, "CoverTrees$Tree", "size", "I"), ("CoverTrees", 99, "CoverTrees$Tree", "markings", "[[I"), ("CoverTrees$Graph", 39, "CoverTrees$Net", "first", "[I"), ("CoverTrees$Graph", 63, "CoverTrees$Net", "transitions", "I"), ("CoverTrees$Tree", 37, "CoverTrees$Net", "transitions", "I"), ("CoverTrees$Tree", 54, "CoverTrees$Net", "first", "[I"), ("CoverTrees$Tree", 99, "CoverTrees$Net", "takes", "[[I")]
def NWM : List (String × Nat × MethodName) := [("CoverTrees", 9, ⟨"CoverTrees$Net", "<init>", "()V"⟩), ("CoverTrees$Graph", 44, ⟨"CoverTrees", "copyInto", "([I[I)V"⟩), ("CoverTrees$Graph", 85, ⟨"CoverTrees", "same", "([I[I)Z"⟩), ("CoverTrees$Net", 30, ⟨"CoverTrees", "covers", "([I[I)Z"⟩), ("CoverTrees$Tree", 57, ⟨"CoverTrees", "copyInto", "([I[I)V"⟩), ("CoverTrees$Tree", 76, ⟨"CoverTrees", "covers", "([I[I)Z"⟩), ("CoverTrees$Tree", 80, ⟨"CoverTrees", "same", "([I[I)Z"⟩)]
def SLs : List (String × Nat × String) := [("CoverTrees", 129, "what is less than -1"), ("CoverTrees", 141, "a place is endless"), ("CoverTrees", 146, "the graph has too many states"), ("CoverTrees", 172, "a number is out of its range"), ("CoverTrees", 176, "no such place"), ("CoverTrees", 179, "no such transition"), ("CoverTrees", 181, "there is no tree"), ("CoverTrees", 183, "no such node"), ("CoverTrees", 185, "there is no graph"), ("CoverTrees", 187, "no such state"), ("CoverTrees", 46, "there are all places already"), ("CoverTrees", 61, "there are all transitions already"), ("CoverTrees", 87, "the tree has too many nodes")]
def NCs : List (String × String) := [("CoverTrees", "java/lang/IllegalArgumentException"), ("CoverTrees", "java/lang/IllegalStateException"), ("CoverTrees", "java/lang/IndexOutOfBoundsException"), ("CoverTrees", "java/lang/UnsupportedOperationException"), ("CoverTrees$Graph", "java/lang/IllegalArgumentException"), ("CoverTrees$Graph", "java/lang/IllegalStateException"), ("CoverTrees$Graph", "java/lang/IndexOutOfBoundsException"), ("CoverTrees$Graph", "java/lang/UnsupportedOperationException"), ("CoverTrees$Net", "java/lang/IllegalArgumentException"), ("CoverTrees$Net", "java/lang/IllegalStateException"), ("CoverTrees$Net", "java/lang/IndexOutOfBoundsException"), ("CoverTrees$Net", "java/lang/UnsupportedOperationException"), ("CoverTrees$Tree", "java/lang/IllegalArgumentException"), ("CoverTrees$Tree", "java/lang/IllegalStateException"), ("CoverTrees$Tree", "java/lang/IndexOutOfBoundsException"), ("CoverTrees$Tree", "java/lang/UnsupportedOperationException"), ("CoverTreesModel", "java/lang/IllegalArgumentException"), ("CoverTreesModel", "java/lang/IllegalStateException"), ("CoverTreesModel", "java/lang/IndexOutOfBoundsException"), ("CoverTreesModel", "java/lang/UnsupportedOperationException"), ("java/lang/IllegalArgumentException", "java/lang/IllegalStateException"), ("java/lang/IllegalArgumentException", "java/lang/IndexOutOfBoundsException"), ("java/lang/IllegalArgumentException", "java/lang/UnsupportedOperationException"), ("java/lang/IllegalStateException", "java/lang/IllegalArgumentException"), ("java/lang/IllegalStateException", "java/lang/IndexOutOfBoundsException"), ("java/lang/IllegalStateException", "java/lang/UnsupportedOperationException"), ("java/lang/IndexOutOfBoundsException", "java/lang/IllegalArgumentException"), ("java/lang/IndexOutOfBoundsException", "java/lang/IllegalStateException"), ("java/lang/IndexOutOfBoundsException", "java/lang/UnsupportedOperationException"), ("java/lang/UnsupportedOperationException", "java/lang/IllegalArgumentException"), ("java/lang/UnsupportedOperationException", "java/lang/IllegalStateException"), ("java/lang/UnsupportedOperationException", "java/lang/IndexOutOfBoundsException")]
def NDs : List MethodName := [⟨"java/lang/RuntimeException", "<init>", "(Ljava/lang/String;)V"⟩, ⟨"java/lang/Exception", "<init>", "(Ljava/lang/String;)V"⟩, ⟨"java/lang/Throwable", "<init>", "(Ljava/lang/String;)V"⟩]
def NEs : List String := ["java/lang/IllegalArgumentException", "java/lang/IllegalStateException", "java/lang/IndexOutOfBoundsException", "java/lang/UnsupportedOperationException"]
def tysL (cy : Nat → ClassId) : List (ClassId × FieldType) := [(cy 5, .int), (cy 6, .boolean), (cy 7, .array .int), (cy 8, .long)]
def EF (D : va_G) (cy : Nat → ClassId) (B : Nat) (U : State) : Prop :=
  va_K D vwCl (tysL cy) U ∧ (∀ q ∈ NWF, va_Nw (.fieldLinkNest q.1 q.2.1 q.2.2.1 q.2.2.2.1 q.2.2.2.2 "CoverTrees") U) ∧ (∀ q ∈ NWM, va_Nw (.methodLinkNest q.1 q.2.1 q.2.2 "CoverTrees") U) ∧
  vx_Zq Bundle.tN "UNASSIGNED_STACK" Bundle.steD (fun q => B ≤ q) U U.heap ∧ vx_Zq Bundle.tN "SUPPRESSED_SENTINEL" Bundle.listD (fun q => B ≤ q) U U.heap ∧
  (∀ q ∈ SLs, ∃ sa, vk_R q.1 q.2.1 q.2.2 sa U) ∧ (∀ q ∈ NCs, va_Nc q.1 q.2 U) ∧ (∀ q ∈ NDs, va_Nw (.declares q) U) ∧ (∀ q ∈ NEs, va_Nw (.castable q q) U)
theorem EF.step {D : va_G} {cy : Nat → ClassId} {B : Nat} {s U : State} {H : Heap} {locs : List Loc} (h : EF D cy B s) (hS : va_S (fun q => B ≤ q) s.heap H locs) (hW : s.WarmedH U.vm) (hU : U.heap = H) : EF D cy B U := by
  obtain ⟨h1, h2, h3, h4, h5, h6, h7, h8, h9⟩ := h
  refine ⟨va_K.moved hW.alike h1, fun q hq => va_Nw.warmF hW (h2 q hq), fun q hq => va_Nw.warmM hW (h3 q hq), ?_, ?_, fun q hq => ?_, fun q hq => va_Nc.moved hW.alike (h7 q hq), fun q hq => va_Nw.warmD hW (h8 q hq), fun q hq => va_Nw.warmC hW (h9 q hq)⟩
  · rw [hU]; exact vx_Zq.moved hW.alike (h4.kept hS.2.1)
  · rw [hU]; exact vx_Zq.moved hW.alike (h5.kept hS.2.1)
  · obtain ⟨sa, z⟩ := h6 q hq
    exact ⟨sa, vk_R.warm hW z⟩
theorem EF.calling {D : va_G} {cy : Nat → ClassId} {B : Nat} {U : State} (h : EF D cy B U) (g : JFrame) (mk : MethodId) (a : Array Value) : EF D cy B (U.calling g mk a) := by
  obtain ⟨h1, h2, h3, h4, h5, h6, h7, h8, h9⟩ := h
  have hvm : (U.calling g mk a).vm = U.vm := rfl
  refine ⟨va_K.moved (u := U) (U := U.calling g mk a) (Vm.Alike.refl U.vm) h1, fun q hq => va_Nw.same rfl (u := U) (U := U.calling g mk a) hvm.symm (h2 q hq), fun q hq => va_Nw.same rfl (u := U) (U := U.calling g mk a) hvm.symm (h3 q hq), ?_, ?_, fun q hq => ?_, fun q hq => va_Nc.moved (u := U) (U := U.calling g mk a) (Vm.Alike.refl U.vm) (h7 q hq), fun q hq => va_Nw.same rfl (u := U) (U := U.calling g mk a) hvm.symm (h8 q hq), fun q hq => va_Nw.same rfl (u := U) (U := U.calling g mk a) hvm.symm (h9 q hq)⟩
  · exact vx_Zq.moved (u := U) (U := U.calling g mk a) (Vm.Alike.refl U.vm) h4
  · exact vx_Zq.moved (u := U) (U := U.calling g mk a) (Vm.Alike.refl U.vm) h5
  · obtain ⟨sa, z⟩ := h6 q hq
    exact ⟨sa, vk_R.same (u := U) (U := U.calling g mk a) hvm z⟩
/- the locals as a list -/
def al : Nat → List (Option Value) → List (Nat × Value)
  | _, [] => []
  | i, none :: t => al (i + 1) t
  | i, some v :: t => (i, v) :: al (i + 1) t
theorem al_mem : ∀ (t : List (Option Value)) (i j : Nat) (v : Value), (j, v) ∈ al i t ↔ i ≤ j ∧ t[j - i]? = some (some v)
  | [], i, j, v => by simp [al]
  | none :: t, i, j, v => by
    rw [al, al_mem t (i + 1) j v]
    constructor
    · rintro ⟨h1, h2⟩
      refine ⟨by omega, ?_⟩
      rw [show j - i = (j - (i + 1)) + 1 by omega]
      simpa using h2
    · rintro ⟨h1, h2⟩
      by_cases e : j = i
      · subst e
        simp at h2
      · refine ⟨by omega, ?_⟩
        rw [show j - i = (j - (i + 1)) + 1 by omega] at h2
        simpa using h2
  | some w :: t, i, j, v => by
    rw [al, List.mem_cons, al_mem t (i + 1) j v]
    constructor
    · rintro (h | ⟨h1, h2⟩)
      · cases h
        simp
      · refine ⟨by omega, ?_⟩
        rw [show j - i = (j - (i + 1)) + 1 by omega]
        simpa using h2
    · rintro ⟨h1, h2⟩
      by_cases e : j = i
      · subst e
        simp at h2
        exact Or.inl (by rw [h2])
      · refine Or.inr ⟨by omega, ?_⟩
        rw [show j - i = (j - (i + 1)) + 1 by omega] at h2
        simpa using h2
def lh (ls : Array Slot) (nL : Nat) (lv : List (Option Value)) : Prop := lv.length = nL ∧ lv_has ls nL (al 0 lv) ∧ ∀ v, some v ∈ lv → v.category = 1
theorem lh.at {ls : Array Slot} {nL : Nat} {lv : List (Option Value)} (h : lh ls nL lv) {i : Nat} {v : Value} (hi : lv[i]? = some (some v)) : ls[i]? = some (.val v) :=
  h.2.1.2.2 (i, v) ((al_mem lv 0 i v).mpr ⟨Nat.zero_le _, hi⟩)
theorem lh.size {ls : Array Slot} {nL : Nat} {lv : List (Option Value)} (h : lh ls nL lv) : ls.size = nL := h.2.1.1
theorem lh.set {ls ls' : Array Slot} {nL : Nat} {lv : List (Option Value)} (h : lh ls nL lv) {i : Nat} {v : Value} (hv : v.category = 1)
    (h' : lv_has ls' nL ((i, v) :: (al 0 lv).filter (fun q => !(q.1 == i) && !(q.1 + 1 == i && q.2.category == 2)))) : lh ls' nL (lv.set i (some v)) := by
  refine ⟨by rw [List.length_set]; exact h.1, ⟨h'.1, h'.2.1, fun q hq => ?_⟩, fun w hw => ?_⟩
  · obtain ⟨j, w⟩ := q
    have hw := ((al_mem _ 0 j w).mp hq).2
    rw [Nat.sub_zero, List.getElem?_set] at hw
    by_cases e : i = j
    · subst e
      rw [if_pos rfl] at hw
      split at hw
      · cases hw
        exact h'.2.2 _ List.mem_cons_self
      · cases hw
    · rw [if_neg e] at hw
      refine h'.2.2 _ (List.mem_cons_of_mem _ (List.mem_filter.mpr ⟨(al_mem lv 0 j w).mpr ⟨Nat.zero_le _, hw⟩, ?_⟩))
      have hc := h.2.2 w (List.mem_of_getElem? hw)
      simp [hc, Ne.symm e]
  · rcases List.mem_or_eq_of_mem_set hw with h1 | h1
    · exact h.2.2 w h1
    · cases h1
      exact hv
theorem lh.sub {ls : Array Slot} {nL : Nat} {lv : List (Option Value)} (h : lh ls nL lv) (lv' : List (Option Value)) (hn : lv'.length = nL) (hs : ∀ (i : Nat) (v : Value), lv'[i]? = some (some v) → lv[i]? = some (some v)) : lh ls nL lv' :=
  ⟨hn, ⟨h.2.1.1, h.2.1.2.1, fun q hq => h.at (hs q.1 q.2 (by simpa using ((al_mem lv' 0 q.1 q.2).mp hq).2))⟩, fun v hv => by
    obtain ⟨i, hi⟩ := List.getElem?_of_mem hv
    exact h.2.2 v (List.mem_of_getElem? (hs i v hi))⟩
theorem lh_entry {as : List Value} {n : Nat} (hc : ∀ v ∈ as, v.category = 1) (hn : as.length ≤ n) : lh ((lg_sl as ++ List.replicate (n - (lg_sl as).length) Slot.unset).toArray) n (as.map some ++ List.replicate (n - as.length) none) := by
  have hlen : (lg_sl as).length = as.length := by
    clear hn
    induction as with
    | nil => rfl
    | cons v t ih =>
      have h1 := hc v List.mem_cons_self
      simp only [lg_sl, List.flatMap_cons, h1] at ih ⊢
      simp only [List.length_append, List.length_cons, List.length_nil]
      have := ih (fun w hw => hc w (List.mem_cons_of_mem _ hw))
      simp at this ⊢
      omega
  have h := lv_entry as (n := n) (by omega)
  refine ⟨by simp; omega, ⟨h.1, h.2.1, fun q hq => ?_⟩, fun v hv => ?_⟩
  · obtain ⟨j, w⟩ := q
    have hw := ((al_mem _ 0 j w).mp hq).2
    refine h.2.2 (j, w) ?_
    have hj : as[j]? = some w := by
      rw [Nat.sub_zero] at hw
      by_cases hl : j < as.length
      · rw [List.getElem?_append_left (by simpa using hl)] at hw
        simpa using hw
      · rw [List.getElem?_append_right (by simpa using hl)] at hw
        have := List.mem_of_getElem? hw
        simp at this
    have gen : ∀ (as : List Value) (i j : Nat) (w : Value), (∀ v ∈ as, v.category = 1) → as[j]? = some w → (i + j, w) ∈ lv_args i as := by
      intro as
      induction as with
      | nil => intro i j w _ h; simp at h
      | cons v t ih =>
        intro i j w hc h
        have h1 := hc v List.mem_cons_self
        unfold lv_args
        rw [h1]
        simp only [Nat.reduceEqDiff, if_false]
        cases j with
        | zero => simp at h; subst h; exact List.mem_cons_self
        | succ j =>
          have := ih (i + 1) j w (fun z hz => hc z (List.mem_cons_of_mem _ hz)) (by simpa using h)
          rw [show i + (j + 1) = i + 1 + j by omega]
          exact List.mem_cons_of_mem _ this
    have := gen as 0 j w hc hj
    simpa using this
  · rcases List.mem_append.mp hv with h1 | h1
    · obtain ⟨w, hw, e⟩ := List.mem_map.mp h1
      have e2 : w = v := by simpa using e
      subst e2
      exact hc _ hw
    · have := (List.mem_replicate.mp h1).2
      cases this
end
