section
def lw_okq (q : MethodName × Nat) : Prop := (q.1.cls ≠ "java/lang/invoke/MethodHandle" ∧ q.1.cls ≠ "java/lang/invoke/VarHandle") ∧ Cond.instantiable q.1.cls q.2 ∈ tables_1 ∧ Cond.privateMethod q.1 ∈ tables_1 ∧ Cond.instanceMethod q.1 ∈ tables_1
theorem lw_p0 : lw_okq (⟨"java/lang/Throwable", "fillInStackTrace", "(I)Ljava/lang/Throwable;"⟩, 6) := ⟨⟨by decide +kernel, by decide +kernel⟩, List.mem_of_getElem? (i := 202) (by decide +kernel), List.mem_of_getElem? (i := 200) (by decide +kernel), List.mem_of_getElem? (i := 201) (by decide +kernel)⟩
theorem lw_p1 : lw_okq (⟨"CoverTrees", "discard", "()V"⟩, 4) := ⟨⟨by decide +kernel, by decide +kernel⟩, List.mem_of_getElem? (i := 16) (by decide +kernel), List.mem_of_getElem? (i := 248) (by decide +kernel), List.mem_of_getElem? (i := 249) (by decide +kernel)⟩
theorem lw_p2 : lw_okq (⟨"CoverTrees", "needPlace", "(I)V"⟩, 4) := ⟨⟨by decide +kernel, by decide +kernel⟩, List.mem_of_getElem? (i := 16) (by decide +kernel), List.mem_of_getElem? (i := 276) (by decide +kernel), List.mem_of_getElem? (i := 277) (by decide +kernel)⟩
theorem lw_p3 : lw_okq (⟨"CoverTrees", "needTransition", "(I)V"⟩, 4) := ⟨⟨by decide +kernel, by decide +kernel⟩, List.mem_of_getElem? (i := 16) (by decide +kernel), List.mem_of_getElem? (i := 296) (by decide +kernel), List.mem_of_getElem? (i := 297) (by decide +kernel)⟩
theorem lw_p4 : lw_okq (⟨"CoverTrees$Tree", "addRoot", "()V"⟩, 9) := ⟨⟨by decide +kernel, by decide +kernel⟩, List.mem_of_getElem? (i := 57) (by decide +kernel), List.mem_of_getElem? (i := 324) (by decide +kernel), List.mem_of_getElem? (i := 325) (by decide +kernel)⟩
theorem lw_p5 : lw_okq (⟨"CoverTrees$Tree", "addChild", "(II)I"⟩, 9) := ⟨⟨by decide +kernel, by decide +kernel⟩, List.mem_of_getElem? (i := 57) (by decide +kernel), List.mem_of_getElem? (i := 341) (by decide +kernel), List.mem_of_getElem? (i := 342) (by decide +kernel)⟩
theorem lw_p6 : lw_okq (⟨"CoverTrees$Tree", "makeEndlessWhatRepeats", "(I)V"⟩, 9) := ⟨⟨by decide +kernel, by decide +kernel⟩, List.mem_of_getElem? (i := 57) (by decide +kernel), List.mem_of_getElem? (i := 350) (by decide +kernel), List.mem_of_getElem? (i := 351) (by decide +kernel)⟩
theorem lw_p7 : lw_okq (⟨"CoverTrees$Tree", "makeEndlessWhereMore", "([I[I)V"⟩, 9) := ⟨⟨by decide +kernel, by decide +kernel⟩, List.mem_of_getElem? (i := 57) (by decide +kernel), List.mem_of_getElem? (i := 358) (by decide +kernel), List.mem_of_getElem? (i := 359) (by decide +kernel)⟩
theorem lw_p8 : lw_okq (⟨"CoverTrees$Tree", "noteFirstEndless", "(II)V"⟩, 9) := ⟨⟨by decide +kernel, by decide +kernel⟩, List.mem_of_getElem? (i := 57) (by decide +kernel), List.mem_of_getElem? (i := 363) (by decide +kernel), List.mem_of_getElem? (i := 364) (by decide +kernel)⟩
theorem lw_p9 : lw_okq (⟨"CoverTrees$Tree", "isAmongEarlier", "(I)Z"⟩, 9) := ⟨⟨by decide +kernel, by decide +kernel⟩, List.mem_of_getElem? (i := 57) (by decide +kernel), List.mem_of_getElem? (i := 367) (by decide +kernel), List.mem_of_getElem? (i := 368) (by decide +kernel)⟩
theorem lw_p10 : lw_okq (⟨"CoverTrees", "needTree", "()V"⟩, 4) := ⟨⟨by decide +kernel, by decide +kernel⟩, List.mem_of_getElem? (i := 16) (by decide +kernel), List.mem_of_getElem? (i := 394) (by decide +kernel), List.mem_of_getElem? (i := 395) (by decide +kernel)⟩
theorem lw_p11 : lw_okq (⟨"CoverTrees", "needNode", "(I)V"⟩, 4) := ⟨⟨by decide +kernel, by decide +kernel⟩, List.mem_of_getElem? (i := 16) (by decide +kernel), List.mem_of_getElem? (i := 399) (by decide +kernel), List.mem_of_getElem? (i := 400) (by decide +kernel)⟩
theorem lw_p12 : lw_okq (⟨"CoverTrees$Graph", "addState", "(III)I"⟩, 9) := ⟨⟨by decide +kernel, by decide +kernel⟩, List.mem_of_getElem? (i := 99) (by decide +kernel), List.mem_of_getElem? (i := 488) (by decide +kernel), List.mem_of_getElem? (i := 489) (by decide +kernel)⟩
theorem lw_p13 : lw_okq (⟨"CoverTrees$Graph", "follow", "(I)Z"⟩, 9) := ⟨⟨by decide +kernel, by decide +kernel⟩, List.mem_of_getElem? (i := 99) (by decide +kernel), List.mem_of_getElem? (i := 492) (by decide +kernel), List.mem_of_getElem? (i := 493) (by decide +kernel)⟩
theorem lw_p14 : lw_okq (⟨"CoverTrees$Graph", "lookAhead", "()V"⟩, 9) := ⟨⟨by decide +kernel, by decide +kernel⟩, List.mem_of_getElem? (i := 99) (by decide +kernel), List.mem_of_getElem? (i := 503) (by decide +kernel), List.mem_of_getElem? (i := 504) (by decide +kernel)⟩
theorem lw_p15 : lw_okq (⟨"CoverTrees$Graph", "enabledIn", "(I)I"⟩, 9) := ⟨⟨by decide +kernel, by decide +kernel⟩, List.mem_of_getElem? (i := 99) (by decide +kernel), List.mem_of_getElem? (i := 507) (by decide +kernel), List.mem_of_getElem? (i := 508) (by decide +kernel)⟩
def lw_privs_1 : List (MethodName × Nat) := [(⟨"java/lang/Throwable", "fillInStackTrace", "(I)Ljava/lang/Throwable;"⟩, 6), (⟨"CoverTrees", "discard", "()V"⟩, 4), (⟨"CoverTrees", "needPlace", "(I)V"⟩, 4), (⟨"CoverTrees", "needTransition", "(I)V"⟩, 4), (⟨"CoverTrees$Tree", "addRoot", "()V"⟩, 9), (⟨"CoverTrees$Tree", "addChild", "(II)I"⟩, 9), (⟨"CoverTrees$Tree", "makeEndlessWhatRepeats", "(I)V"⟩, 9), (⟨"CoverTrees$Tree", "makeEndlessWhereMore", "([I[I)V"⟩, 9), (⟨"CoverTrees$Tree", "noteFirstEndless", "(II)V"⟩, 9), (⟨"CoverTrees$Tree", "isAmongEarlier", "(I)Z"⟩, 9), (⟨"CoverTrees", "needTree", "()V"⟩, 4), (⟨"CoverTrees", "needNode", "(I)V"⟩, 4), (⟨"CoverTrees$Graph", "addState", "(III)I"⟩, 9), (⟨"CoverTrees$Graph", "follow", "(I)Z"⟩, 9), (⟨"CoverTrees$Graph", "lookAhead", "()V"⟩, 9), (⟨"CoverTrees$Graph", "enabledIn", "(I)I"⟩, 9)]
theorem lw_r1 : ∀ q ∈ lw_privs_1, lw_okq q := List.forall_mem_cons.mpr ⟨lw_p0, List.forall_mem_cons.mpr ⟨lw_p1, List.forall_mem_cons.mpr ⟨lw_p2, List.forall_mem_cons.mpr ⟨lw_p3, List.forall_mem_cons.mpr ⟨lw_p4, List.forall_mem_cons.mpr ⟨lw_p5, List.forall_mem_cons.mpr ⟨lw_p6, List.forall_mem_cons.mpr ⟨lw_p7, List.forall_mem_cons.mpr ⟨lw_p8, List.forall_mem_cons.mpr ⟨lw_p9, List.forall_mem_cons.mpr ⟨lw_p10, List.forall_mem_cons.mpr ⟨lw_p11, List.forall_mem_cons.mpr ⟨lw_p12, List.forall_mem_cons.mpr ⟨lw_p13, List.forall_mem_cons.mpr ⟨lw_p14, List.forall_mem_cons.mpr ⟨lw_p15, fun _ h => absurd h List.not_mem_nil⟩⟩⟩⟩⟩⟩⟩⟩⟩⟩⟩⟩⟩⟩⟩⟩
theorem lw_p16 : lw_okq (⟨"CoverTrees$Graph", "aheadOfNext", "(I)I"⟩, 9) := ⟨⟨by decide +kernel, by decide +kernel⟩, List.mem_of_getElem? (i := 99) (by decide +kernel), List.mem_of_getElem? (i := 511) (by decide +kernel), List.mem_of_getElem? (i := 512) (by decide +kernel)⟩
theorem lw_p17 : lw_okq (⟨"CoverTrees", "needGraph", "()V"⟩, 4) := ⟨⟨by decide +kernel, by decide +kernel⟩, List.mem_of_getElem? (i := 16) (by decide +kernel), List.mem_of_getElem? (i := 523) (by decide +kernel), List.mem_of_getElem? (i := 524) (by decide +kernel)⟩
theorem lw_p18 : lw_okq (⟨"CoverTrees", "needState", "(I)V"⟩, 4) := ⟨⟨by decide +kernel, by decide +kernel⟩, List.mem_of_getElem? (i := 16) (by decide +kernel), List.mem_of_getElem? (i := 536) (by decide +kernel), List.mem_of_getElem? (i := 537) (by decide +kernel)⟩
theorem lw_p19 : lw_okq (⟨"CoverTreesModel", "discard", "()V"⟩, 22) := ⟨⟨by decide +kernel, by decide +kernel⟩, List.mem_of_getElem? (i := 570) (by decide +kernel), List.mem_of_getElem? (i := 651) (by decide +kernel), List.mem_of_getElem? (i := 652) (by decide +kernel)⟩
theorem lw_p20 : lw_okq (⟨"CoverTreesModel", "noPlace", "(I)Z"⟩, 22) := ⟨⟨by decide +kernel, by decide +kernel⟩, List.mem_of_getElem? (i := 570) (by decide +kernel), List.mem_of_getElem? (i := 663) (by decide +kernel), List.mem_of_getElem? (i := 664) (by decide +kernel)⟩
theorem lw_p21 : lw_okq (⟨"CoverTreesModel", "noTransition", "(I)Z"⟩, 22) := ⟨⟨by decide +kernel, by decide +kernel⟩, List.mem_of_getElem? (i := 570) (by decide +kernel), List.mem_of_getElem? (i := 667) (by decide +kernel), List.mem_of_getElem? (i := 668) (by decide +kernel)⟩
theorem lw_p22 : lw_okq (⟨"CoverTreesModel", "addNode", "(II)V"⟩, 22) := ⟨⟨by decide +kernel, by decide +kernel⟩, List.mem_of_getElem? (i := 570) (by decide +kernel), List.mem_of_getElem? (i := 679) (by decide +kernel), List.mem_of_getElem? (i := 680) (by decide +kernel)⟩
theorem lw_p23 : lw_okq (⟨"CoverTreesModel", "sameAs", "(I)Z"⟩, 22) := ⟨⟨by decide +kernel, by decide +kernel⟩, List.mem_of_getElem? (i := 570) (by decide +kernel), List.mem_of_getElem? (i := 683) (by decide +kernel), List.mem_of_getElem? (i := 684) (by decide +kernel)⟩
theorem lw_p24 : lw_okq (⟨"CoverTreesModel", "enabledAt", "(II)Z"⟩, 22) := ⟨⟨by decide +kernel, by decide +kernel⟩, List.mem_of_getElem? (i := 570) (by decide +kernel), List.mem_of_getElem? (i := 687) (by decide +kernel), List.mem_of_getElem? (i := 688) (by decide +kernel)⟩
theorem lw_p25 : lw_okq (⟨"CoverTreesModel", "fire", "(II)V"⟩, 22) := ⟨⟨by decide +kernel, by decide +kernel⟩, List.mem_of_getElem? (i := 570) (by decide +kernel), List.mem_of_getElem? (i := 691) (by decide +kernel), List.mem_of_getElem? (i := 692) (by decide +kernel)⟩
theorem lw_p26 : lw_okq (⟨"CoverTreesModel", "below", "(I)Z"⟩, 22) := ⟨⟨by decide +kernel, by decide +kernel⟩, List.mem_of_getElem? (i := 570) (by decide +kernel), List.mem_of_getElem? (i := 696) (by decide +kernel), List.mem_of_getElem? (i := 697) (by decide +kernel)⟩
theorem lw_p27 : lw_okq (⟨"CoverTreesModel", "greatest", "(I)I"⟩, 22) := ⟨⟨by decide +kernel, by decide +kernel⟩, List.mem_of_getElem? (i := 570) (by decide +kernel), List.mem_of_getElem? (i := 715) (by decide +kernel), List.mem_of_getElem? (i := 716) (by decide +kernel)⟩
theorem lw_p28 : lw_okq (⟨"CoverTreesModel", "depth", "(I)I"⟩, 22) := ⟨⟨by decide +kernel, by decide +kernel⟩, List.mem_of_getElem? (i := 570) (by decide +kernel), List.mem_of_getElem? (i := 735) (by decide +kernel), List.mem_of_getElem? (i := 736) (by decide +kernel)⟩
theorem lw_p29 : lw_okq (⟨"CoverTreesModel", "anyEndless", "()Z"⟩, 22) := ⟨⟨by decide +kernel, by decide +kernel⟩, List.mem_of_getElem? (i := 570) (by decide +kernel), List.mem_of_getElem? (i := 743) (by decide +kernel), List.mem_of_getElem? (i := 744) (by decide +kernel)⟩
theorem lw_p30 : lw_okq (⟨"CoverTreesModel", "addState", "(II)V"⟩, 22) := ⟨⟨by decide +kernel, by decide +kernel⟩, List.mem_of_getElem? (i := 570) (by decide +kernel), List.mem_of_getElem? (i := 747) (by decide +kernel), List.mem_of_getElem? (i := 748) (by decide +kernel)⟩
theorem lw_p31 : lw_okq (⟨"CoverTreesModel", "enabledIn", "(II)Z"⟩, 22) := ⟨⟨by decide +kernel, by decide +kernel⟩, List.mem_of_getElem? (i := 570) (by decide +kernel), List.mem_of_getElem? (i := 751) (by decide +kernel), List.mem_of_getElem? (i := 752) (by decide +kernel)⟩
def lw_privs_2 : List (MethodName × Nat) := [(⟨"CoverTrees$Graph", "aheadOfNext", "(I)I"⟩, 9), (⟨"CoverTrees", "needGraph", "()V"⟩, 4), (⟨"CoverTrees", "needState", "(I)V"⟩, 4), (⟨"CoverTreesModel", "discard", "()V"⟩, 22), (⟨"CoverTreesModel", "noPlace", "(I)Z"⟩, 22), (⟨"CoverTreesModel", "noTransition", "(I)Z"⟩, 22), (⟨"CoverTreesModel", "addNode", "(II)V"⟩, 22), (⟨"CoverTreesModel", "sameAs", "(I)Z"⟩, 22), (⟨"CoverTreesModel", "enabledAt", "(II)Z"⟩, 22), (⟨"CoverTreesModel", "fire", "(II)V"⟩, 22), (⟨"CoverTreesModel", "below", "(I)Z"⟩, 22), (⟨"CoverTreesModel", "greatest", "(I)I"⟩, 22), (⟨"CoverTreesModel", "depth", "(I)I"⟩, 22), (⟨"CoverTreesModel", "anyEndless", "()Z"⟩, 22), (⟨"CoverTreesModel", "addState", "(II)V"⟩, 22), (⟨"CoverTreesModel", "enabledIn", "(II)Z"⟩, 22)]
theorem lw_r2 : ∀ q ∈ lw_privs_2, lw_okq q := List.forall_mem_cons.mpr ⟨lw_p16, List.forall_mem_cons.mpr ⟨lw_p17, List.forall_mem_cons.mpr ⟨lw_p18, List.forall_mem_cons.mpr ⟨lw_p19, List.forall_mem_cons.mpr ⟨lw_p20, List.forall_mem_cons.mpr ⟨lw_p21, List.forall_mem_cons.mpr ⟨lw_p22, List.forall_mem_cons.mpr ⟨lw_p23, List.forall_mem_cons.mpr ⟨lw_p24, List.forall_mem_cons.mpr ⟨lw_p25, List.forall_mem_cons.mpr ⟨lw_p26, List.forall_mem_cons.mpr ⟨lw_p27, List.forall_mem_cons.mpr ⟨lw_p28, List.forall_mem_cons.mpr ⟨lw_p29, List.forall_mem_cons.mpr ⟨lw_p30, List.forall_mem_cons.mpr ⟨lw_p31, fun _ h => absurd h List.not_mem_nil⟩⟩⟩⟩⟩⟩⟩⟩⟩⟩⟩⟩⟩⟩⟩⟩
theorem lw_p32 : lw_okq (⟨"CoverTreesModel", "find", "()I"⟩, 22) := ⟨⟨by decide +kernel, by decide +kernel⟩, List.mem_of_getElem? (i := 570) (by decide +kernel), List.mem_of_getElem? (i := 755) (by decide +kernel), List.mem_of_getElem? (i := 756) (by decide +kernel)⟩
theorem lw_p33 : lw_okq (⟨"CoverTreesModel", "noState", "(I)Z"⟩, 22) := ⟨⟨by decide +kernel, by decide +kernel⟩, List.mem_of_getElem? (i := 570) (by decide +kernel), List.mem_of_getElem? (i := 767) (by decide +kernel), List.mem_of_getElem? (i := 768) (by decide +kernel)⟩
def lw_privs_3 : List (MethodName × Nat) := [(⟨"CoverTreesModel", "find", "()I"⟩, 22), (⟨"CoverTreesModel", "noState", "(I)Z"⟩, 22)]
theorem lw_r3 : ∀ q ∈ lw_privs_3, lw_okq q := List.forall_mem_cons.mpr ⟨lw_p32, List.forall_mem_cons.mpr ⟨lw_p33, fun _ h => absurd h List.not_mem_nil⟩⟩
def lw_privs : List (MethodName × Nat) := lw_privs_1 ++ (lw_privs_2 ++ (lw_privs_3))
def lw_tbl : List Cond := k2_sels lw_privs ++ tables_1
theorem lw_privs_ok : ∀ q ∈ lw_privs, lw_okq q := by
  show ∀ q ∈ lw_privs_1 ++ (lw_privs_2 ++ (lw_privs_3)), lw_okq q
  exact List.forall_mem_append.mpr ⟨lw_r1, List.forall_mem_append.mpr ⟨lw_r2, lw_r3⟩⟩
end
section
theorem goodIn_r {big : List Cond} (ws : List Cond) (ps : List Nat) (hp : ws = ps.filterMap (fun i => big[i]?)) (h : ws.all goodWord = true) : GoodIn big ws := by
  intro w hw
  have h1 := List.all_eq_true.mp h w hw
  rw [hp] at hw
  obtain ⟨i, -, hi⟩ := List.mem_filterMap.mp hw
  have hm : w ∈ big := by first | exact List.mem_of_getElem? hi | exact List.getElem?_mem hi
  exact ⟨hm, good_of_word h1⟩
theorem goodIn_app {big a b : List Cond} (ha : GoodIn big a) (hb : GoodIn big b) : GoodIn big (a ++ b) := fun w h => (List.mem_append.mp h).elim (ha w) (hb w)
theorem goodIn_ca {big a b : List Cond} {c : Cond} (ha : GoodIn big (c :: a)) (hb : GoodIn big b) : GoodIn big (c :: (a ++ b)) := fun w h => (List.mem_cons.mp h).elim (fun e => ha w (List.mem_cons.mpr (Or.inl e))) (fun h => (List.mem_append.mp h).elim (fun h => ha w (List.mem_cons.mpr (Or.inr h))) (hb w))
theorem goodIn_sub {big ws : List Cond} (hm : ∀ w ∈ ws, w ∈ big) (h : ws.all goodWord = true) : GoodIn big ws := fun w hw => ⟨hm w hw, good_of_word (List.all_eq_true.mp h w hw)⟩
def vr_up {α : Type} (f : Nat → α) (l : List Nat) (v : α) : Nat → α := fun a => if a ∈ l then v else f a
theorem vr_up_in {α : Type} {f : Nat → α} {l : List Nat} {v : α} {a : Nat} (h : a ∈ l) : vr_up f l v a = v := if_pos h
theorem vr_up_ne {α : Type} {f : Nat → α} {l : List Nat} {v : α} {a : Nat} (h : a ∉ l) : vr_up f l v a = f a := if_neg h
theorem vr_rows {L l : List Nat} {f : Nat → va_E} {e : va_E} (h : ∀ a, a ∈ l → a ∉ L) : va_pl L f ++ l.map (fun a => (a, e)) = va_pl (L ++ l) (vr_up f l e) := by
  unfold va_pl
  rw [List.map_append]
  congr 1
  · apply List.map_congr_left
    intro a ha
    rw [vr_up_ne (fun q => h a q ha)]
  · apply List.map_congr_left
    intro a ha
    rw [vr_up_in ha]
theorem vr_lay {X rows : va_W} {x : Nat × va_E} {pl : va_W} {D : va_G} {cl : List vw_C} {H : Heap} (hP : va_P D cl (((X ++ pl) ++ [x]) ++ rows) H) : va_P D cl ((X ++ [x]) ++ (pl ++ rows)) H := by
  rw [List.append_assoc (X ++ pl)] at hP
  have h := va_P.swap hP
  rw [← List.append_assoc X] at h
  have h2 := va_P.swap h
  rw [List.append_assoc (X ++ [x])] at h2
  exact h2
theorem vr_layD {X rows : va_W} {x : Nat × va_E} {pl : va_W} {A : Nat → Prop} (hD : va_D A (((X ++ pl) ++ [x]) ++ rows)) : va_D A ((X ++ [x]) ++ (pl ++ rows)) := by
  rw [List.append_assoc (X ++ pl)] at hD
  have h := va_D.swap hD
  rw [← List.append_assoc X] at h
  have h2 := va_D.swap h
  rw [List.append_assoc (X ++ [x])] at h2
  exact h2
theorem vr_outer (c : ClassId) (N h0 : Nat) : ∀ i : Nat, Jvm.Free.Multi.outerC c N h0 i = arrV c N (fun j => va_rf (if j < i then some (h0 + 1 + j) else none))
  | 0 => by
    show ({ cls := c, slots := Array.replicate N .null, vm := .none } : Cell) = _
    rw [arrV_new]
    refine congrArg (arrV c N) (funext fun j => ?_)
    simp [va_rf]
  | i + 1 => by
    show (Jvm.Free.Multi.outerC c N h0 i).setSlot i (.ref (h0 + 1 + i)) = _
    rw [vr_outer c N h0 i, arrV_store]
    refine congrArg (arrV c N) (funext fun j => ?_)
    by_cases e : j = i
    · subst e
      simp [updV, va_rf]
    · by_cases h : j < i
      · simp [updV, e, h, Nat.lt_succ_of_lt h]
      · simp [updV, e, h, show ¬ j < i + 1 by omega]
section VXA
def vx_T (XC : String → State → State → Prop) (st : State) (q : Addr) (t : State) (mc ms : Nat) (free : Addr → Prop) : Prop :=
  ∃ (E : String) (ce : Cell) (L : List Loc), XC E st t ∧ t.heap[q]? = some ce ∧ ce.vm = .none ∧ st.vm.findClass E = some ce.cls ∧ st.WarmedH t.vm ∧ st.sameButNew ({ t with vm := st.vm } : State) L mc ms ∧ ∀ z ∈ L, free z.base
def vx_Q (Qc : Array Value → State → Outcome → State → Prop) (XC : String → State → State → Prop) (mc ms : Nat) (free : Addr → Prop) : Array Value → State → Outcome → State → Prop := fun a st o t =>
  (Qc a st o t ∧ ∃ L, FrameEnd st o t L mc ms ∧ ∀ q ∈ L, free q.base) ∨ ∃ q, o = .threw q ∧ vx_T XC st q t mc ms free
def vx_Met (l : Launch) (y : MethodName) (ws : List Cond) (rm : Room) (Pc : Array Value → State → Prop) (Qc : Array Value → State → Outcome → State → Prop) (XC : String → State → State → Prop) (mc ms : Nat) (free : Addr → Prop) : Prop :=
  MetFree l y (headSpec ws rm) Pc (fun _ _ _ _ _ => True) (vx_Q Qc XC mc ms free)
def vx_Post (XC : String → State → State → Prop) (mc ms : Nat) (free : Addr → Prop) : Pt → Array Value → Addr → Pt → Prop := fun A a q B =>
  ∃ (g : JFrame) (mk : MethodId) (t : State) (L : List Loc) (E : String) (ce : Cell), B.U.heap = t.heap ∧ B.U.vm = t.vm ∧ XC E (A.U.calling g mk a) t ∧ t.heap[q]? = some ce ∧ ce.vm = .none ∧ A.U.vm.findClass E = some ce.cls ∧ B.locs = A.locs ++ L ∧ (∀ z ∈ L, free z.base) ∧ B.cells = A.cells + mc ∧ B.slots = A.slots + ms
def vx_Back (l : Launch) (R : Room) (p : Program) (e : Env) (below : List Frame) (s : State) (sargs : Array Value) (y : MethodName) (len W9 : Nat)
    (Pre : Pt → Array Value → Prop) (Post : Pt → Array Value → Option Value → Pt → Prop) (PostX : Pt → Array Value → Addr → Pt → Prop) : Prop :=
  ∀ (m : MethodId) (meth : Method) (c : Code) (A : Pt) (g : JFrame) (ig : Instr) (mk : MethodId) (a : Array Value),
    Stand p l e R s m sargs below meth c A.U A.locs A.cells A.slots → g.method = m → g.locals.size = c.maxLocals → decode c.code g.pc = .ok (ig, len) →
    2 * g.monitorRoom + (g.stack.map fun v => v.category).sum ≤ W9 → A.U.methodNamed? y = some mk → Pre A a →
    (∃ (v : Option Value) (B : Pt), Stand p l e R s m sargs below meth c B.U B.locs B.cells B.slots ∧ Post A a v B ∧
      Steps p.tables e below (doInvoke e (A.U.setTop g) [] mk a).1 (B.U.setTop { g with pc := g.pc + len, stack := v.toList ++ g.stack })) ∨
    (∃ (q : Addr) (B : Pt), Stand p l e R s m sargs below meth c B.U B.locs B.cells B.slots ∧ PostX A a q B ∧
      Steps p.tables e below (doInvoke e (A.U.setTop g) [] mk a).1 ((B.U.setTop g).pushFrame (.throwing q)))
section Payer
variable {l : Launch} {R : Room} {p : Program} {e : Env} {below : List Frame} {s : State} {sargs : Array Value} {y : MethodName} {len W9 : Nat}
theorem vx_back {ws : List Cond} {rm : Room} {Pc : Array Value → State → Prop} {Qc : Array Value → State → Outcome → State → Prop} {XC : String → State → State → Prop} {mc ms : Nat} {free : Addr → Prop} {bytes : ByteArray} {maxL : Nat} {ret : Option FieldType}
    (hM : vx_Met l y ws rm Pc Qc XC mc ms free) (hblind : FrameBlind Pc) (hrc : rm.cells = mc) (hrs : rm.slots = ms)
    (hframes : rm.frames + 1 ≤ R.frames) (hlocals : W9 + (maxL + 11) + rm.locals ≤ R.locals)
    (hws : ∀ w ∈ ws, ∀ a' U, s.WarmedH U.vm → w.before a' U = true) (hcode : Cond.code y bytes maxL ret ∈ ws) (hinit : ∀ a' U, s.WarmedH U.vm → (Cond.initialized y.cls).before a' U = true) :
    vx_Back l R p e below s sargs y len W9 (PreOf R mc ms Pc) (PostOf Qc mc ms free) (vx_Post XC mc ms free) := by
  intro m meth c A g ig mk a X hg hsize hdg hW hn hp
  have h1 : (headSpec ws rm).pre.before a A.U = true := atoms_intro fun w hw => hws w hw _ _ X.warmed
  have h2 : (Cond.code y bytes maxL ret).before a A.U = true := hws _ hcode _ _ X.warmed
  have h3 : (Cond.initialized y.cls).before a A.U = true := hinit _ _ X.warmed
  have h4 : A.cells + (headSpec ws rm).room.cells ≤ R.cells := by rw [show (headSpec ws rm).room.cells = mc from hrc]; exact hp.1
  have h5 : A.slots + (headSpec ws rm).room.slots ≤ R.slots := by rw [show (headSpec ws rm).room.slots = ms from hrs]; exact hp.2.1
  have hPc : Pc a (A.U.calling g mk a) := hblind _ _ _ _ hp.2.2
  obtain ⟨U, Ls, c0, s0⟩ := A
  dsimp only [Pt.U, Pt.locs, Pt.cells, Pt.slots] at h1 h2 h3 h4 h5 X hn hPc ⊢
  obtain ⟨methY, cY, hmY, hcY, -, hlY, -, -, -, -⟩ := Cond.code_spec hn h2
  obtain ⟨kY, hkY, -⟩ := className_of_methodNamed hn
  have hinitY : kY.init = .initialized := Cond.initialized_spec (findClass_of_methodNamed hn) hkY h3
  have h : At U g.method c below := by rw [hg]; exact X.here
  have hlocals9 : W9 + (maxL + 11) + (headSpec ws rm).room.locals ≤ R.locals := hlocals
  have happ : (headSpec ws rm).appliesLoose y e.platform (U.calling g mk a) = true :=
    Spec.appliesLoose_calling (g := g) h hdg hn hkY hinitY
      (X.room_calling (g := g) (R' := (headSpec ws rm).room) hsize hmY hcY hframes (by rw [hlY]; omega) h4 h5) h1
  obtain ⟨mid, hmid⟩ := h.above
  have hfr : (U.setTop g).frames = (.java g :: mid) ++ below := by rw [State.frames_setTop' g h.top, hmid]; rfl
  obtain ⟨o, s₂, hsteps, -, hend, hq⟩ := Steps.callFree hM p X.admits X.cas X.clock (acts := []) hfr happ hPc trivial
  have hq' : vx_Q Qc XC mc ms free a (U.calling g mk a) o s₂ := hq
  rw [State.frames_setTop' g h.top] at hend
  obtain ⟨g₀, hg0⟩ := Option.isSome_iff_exists.mp h.top
  obtain ⟨r, hr⟩ := State.topJava?_eq_some.mp hg0
  have hr' : (({ U with heap := s₂.heap, slotsUsed := s₂.slotsUsed } : State).setVm s₂.vm).frames = .java g₀ :: r := hr
  rcases hq' with ⟨hqc, L, hfe, hL⟩ | ⟨q, rfl, E, ce, L, hx, hce, hcv, hcl, hW₂, hsm, hL⟩
  · obtain ⟨⟨v, rfl⟩, hW₂, e2, q2, q3, q4, q5, q6⟩ := id hfe
    have e3 : s₂ = ({ (U.calling g mk a).setFrames s₂.frames with heap := s₂.heap, slotsUsed := s₂.slotsUsed } : State).setVm s₂.vm := by
      have : s₂ = ({ s₂ with vm := (U.calling g mk a).vm } : State).setVm s₂.vm := rfl
      rw [e2] at this
      exact this
    obtain ⟨c₂, i₂, len₂, hc₂, hd₂, hf₂⟩ := hend
    have hW' : U.WarmedH s₂.vm := hW₂
    have hcc : c₂ = c := by
      have h1 : s₂.code? g.method = U.code? g.method := by
        rw [State.code?_eq, State.code?_eq, hW'.alike.method?]
      exact Option.some.inj (hc₂.symm.trans (h1.trans h.code))
    subst hcc
    have hlen : len₂ = len := by rw [hdg] at hd₂; cases hd₂; rfl
    subst hlen
    have hs₂ : s₂ = (({ U with heap := s₂.heap, slotsUsed := s₂.slotsUsed } : State).setVm s₂.vm).setTop { g with pc := g.pc + len₂, stack := v.toList ++ g.stack } := by
      refine e3.trans ?_
      rw [hf₂, State.calling_eq h.top, State.setFrames_setFrames, State.setTop_of_frames _ hr', hr]
      rfl
    have hsame : U.sameButNew ({ U with heap := s₂.heap, slotsUsed := s₂.slotsUsed } : State) L mc ms := by
      refine ⟨?_, q2, q3, q4, q5, q6⟩
      obtain ⟨t, ht, -⟩ := State.frames_cons hr
      show ({ U with heap := s₂.heap, slotsUsed := s₂.slotsUsed } : State) = { U.setFrames U.frames with heap := s₂.heap, slotsUsed := s₂.slotsUsed }
      rw [State.setFrames_self ht]
    subst hg
    refine Or.inl ⟨v, ⟨(({ U with heap := s₂.heap, slotsUsed := s₂.slotsUsed } : State).setVm s₂.vm), Ls ++ L, c0 + mc, s0 + ms⟩,
      ⟨X.admits, X.cas, X.clock, X.frames, X.room, X.hears, X.method, X.code, (X.here.setHeapUsed s₂.heap s₂.slotsUsed).setVm hW'.alike, X.tail, State.WarmedH.trans X.warmed hW', X.limits, X.bytes, X.same.trans (hsame.setVm s.vm)⟩,
      ⟨g, mk, s₂, L, rfl, rfl, hqc, rfl, hL, rfl, rfl⟩, ?_⟩
    show Steps p.tables e below _ ((({ U with heap := s₂.heap, slotsUsed := s₂.slotsUsed } : State).setVm s₂.vm).setTop { g with pc := g.pc + len₂, stack := v.toList ++ g.stack })
    rw [← hs₂]
    exact hsteps
  · obtain ⟨e2, q2, q3, q4, q5, q6⟩ := id hsm
    have e3 : s₂ = ({ (U.calling g mk a).setFrames s₂.frames with heap := s₂.heap, slotsUsed := s₂.slotsUsed } : State).setVm s₂.vm := by
      have : s₂ = ({ s₂ with vm := (U.calling g mk a).vm } : State).setVm s₂.vm := rfl
      rw [e2] at this
      exact this
    have hf₂ : s₂.frames = .throwing q :: .java g :: U.frames.tail := hend
    have hW' : U.WarmedH s₂.vm := hW₂
    have hs₂ : s₂ = ((({ U with heap := s₂.heap, slotsUsed := s₂.slotsUsed } : State).setVm s₂.vm).setTop g).pushFrame (.throwing q) := by
      refine e3.trans ?_
      rw [hf₂, State.calling_eq h.top, State.setFrames_setFrames, State.pushFrame, State.frames_setTop _ hr', State.setTop_of_frames _ hr', State.setFrames_setFrames, hr]
      rfl
    have hsame : U.sameButNew ({ U with heap := s₂.heap, slotsUsed := s₂.slotsUsed } : State) L mc ms := by
      refine ⟨?_, q2, q3, q4, q5, q6⟩
      obtain ⟨t, ht, -⟩ := State.frames_cons hr
      show ({ U with heap := s₂.heap, slotsUsed := s₂.slotsUsed } : State) = { U.setFrames U.frames with heap := s₂.heap, slotsUsed := s₂.slotsUsed }
      rw [State.setFrames_self ht]
    subst hg
    refine Or.inr ⟨q, ⟨(({ U with heap := s₂.heap, slotsUsed := s₂.slotsUsed } : State).setVm s₂.vm), Ls ++ L, c0 + mc, s0 + ms⟩,
      ⟨X.admits, X.cas, X.clock, X.frames, X.room, X.hears, X.method, X.code, (X.here.setHeapUsed s₂.heap s₂.slotsUsed).setVm hW'.alike, X.tail, State.WarmedH.trans X.warmed hW', X.limits, X.bytes, X.same.trans (hsame.setVm s.vm)⟩,
      ⟨g, mk, s₂, L, E, ce, rfl, rfl, hx, hce, hcv, hcl, rfl, hL, rfl, rfl⟩, ?_⟩
    show Steps p.tables e below _ (((({ U with heap := s₂.heap, slotsUsed := s₂.slotsUsed } : State).setVm s₂.vm).setTop g).pushFrame (.throwing q))
    rw [← hs₂]
    exact hsteps
end Payer
section Calls
variable {p : Program} {l : Launch} {e : Env} {R : Room} {s : State} {m : MethodId} {args : Array Value} {below : List Frame} {meth : Method} {c : Code} {T : State} {locs : List Loc} {cells slots : Nat}
theorem vx_callV (X : Stand p l e R s m args below meth c T locs cells slots) (hexec : p.tables.exec = Jvm.exec) {own C : String} {index : Nat} {y : MethodName} {bytes : ByteArray} {maxL : Nat} {ret : Option FieldType}
    (hown : s.vm.findClass own = some m.cls) (hlink : (Cond.methodLink own index y).before args s = true) (hinst : (Cond.instanceMethod y).before args s = true) (hsel : (Cond.selects C y y).before args s = true)
    (hcode : (Cond.code y bytes maxL ret).before args s = true) (hy : y.cls ≠ "java/lang/invoke/MethodHandle" ∧ y.cls ≠ "java/lang/invoke/VarHandle")
    {W9 : Nat} {Pre : Pt → Array Value → Prop} {Post : Pt → Array Value → Option Value → Pt → Prop} {PostX : Pt → Array Value → Addr → Pt → Prop} (hK : vx_Back l R p e below s args y 3 W9 Pre Post PostX)
    {b : Addr} {cellB : Cell} (hcell : T.heap[b]? = some cellB) (hobj : cellB.vm.isStatics = false) (hcls : s.vm.findClass C = some cellB.cls)
    {g : JFrame} (hg : g.method = m) (hsize : g.locals.size = c.maxLocals) {argsL rest : List Value} (hlen : ∀ sig, parseMethodDescriptor y.desc = some sig → argsL.length = sig.parameters.length)
    (hstack : g.stack = argsL.reverse ++ .ref b :: rest) (hW : 2 * g.monitorRoom + (rest.map fun v => v.category).sum ≤ W9) (hdg : decode c.code g.pc = .ok (.invokevirtual index, 3))
    (hpre : ∀ vm₁, s.WarmedH vm₁ → Pre ⟨T.setVm vm₁, locs, cells, slots⟩ (Value.ref b :: argsL).toArray) :
    (∃ (v : Option Value) (vm₁ : Vm) (B : Pt), s.WarmedH vm₁ ∧ Stand p l e R s m args below meth c B.U B.locs B.cells B.slots ∧ Post ⟨T.setVm vm₁, locs, cells, slots⟩ (Value.ref b :: argsL).toArray v B ∧
      ∀ target, Steps p.tables e below (B.U.setTop { g with pc := g.pc + 3, stack := v.toList ++ rest }) target → Steps p.tables e below (T.setTop g) target) ∨
    (∃ (q : Addr) (vm₁ : Vm) (B : Pt), s.WarmedH vm₁ ∧ Stand p l e R s m args below meth c B.U B.locs B.cells B.slots ∧ PostX ⟨T.setVm vm₁, locs, cells, slots⟩ (Value.ref b :: argsL).toArray q B ∧
      Steps p.tables e below (T.setTop g) ((B.U.setTop { g with stack := rest }).pushFrame (.throwing q))) := by
  obtain ⟨mk, methM, hnamed, hmethM, hstM, habM⟩ := Cond.instanceMethod_spec hinst
  obtain ⟨methM', cM, hmethM', -, -, -, -, -, -, hsigM⟩ := Cond.code_spec hnamed hcode
  cases hmethM.symm.trans hmethM'
  obtain ⟨c2, r2, m2, q1, q2, q3, q4, kP, hkP, hkPi⟩ := Cond.selects_spec hsel
  cases hcls.symm.trans q1
  cases (State.methodFound?_of_named hnamed hy).symm.trans q2
  cases hnamed.symm.trans q3
  have hselP : selectMethod e.platform s.vm cellB.cls mk = .method mk := by rw [Launch.admits_selectMethod X.admits]; exact q4
  obtain ⟨vm₁, X₁, hstep₁⟩ := X.invokevirtual hexec hown hlink hnamed hmethM hstM hkP hkPi hy (a := b) (cell := cellB) hcell
    (fun z h => by rw [h] at hobj; cases hobj) hselP hmethM habM hkP hkPi (g := g) hg (argsL := argsL) (rest := rest) (hlen _ hsigM) hstack hdg
  rcases hK m meth c ⟨T.setVm vm₁, locs, cells, slots⟩ { g with stack := rest } (.invokevirtual index) mk (Value.ref b :: argsL).toArray X₁ hg hsize hdg hW (X₁.named hnamed) (hpre vm₁ X₁.warmed) with ⟨v, B, X', hpost, hsteps⟩ | ⟨q, B, X', hpost, hsteps⟩
  · exact Or.inl ⟨v, vm₁, B, X₁.warmed, X', hpost, fun target h => hstep₁ _ fun acts => by rw [doInvoke_state]; exact hsteps.trans h⟩
  · exact Or.inr ⟨q, vm₁, B, X₁.warmed, X', hpost, hstep₁ _ fun acts => by rw [doInvoke_state]; exact hsteps⟩
theorem vx_callS (X : Stand p l e R s m args below meth c T locs cells slots) (hexec : p.tables.exec = Jvm.exec) {own : String} {index : Nat} {y : MethodName} {bytes : ByteArray} {maxL : Nat} {ret : Option FieldType}
    (hown : s.vm.findClass own = some m.cls) (hlink : (Cond.methodLink own index y).before args s = true) (hstat : (Cond.static y).before args s = true) (hinit : (Cond.initialized y.cls).before args s = true)
    (hcode : (Cond.code y bytes maxL ret).before args s = true) (hy : y.cls ≠ "java/lang/invoke/MethodHandle" ∧ y.cls ≠ "java/lang/invoke/VarHandle")
    {W9 : Nat} {Pre : Pt → Array Value → Prop} {Post : Pt → Array Value → Option Value → Pt → Prop} {PostX : Pt → Array Value → Addr → Pt → Prop} (hK : vx_Back l R p e below s args y 3 W9 Pre Post PostX)
    {g : JFrame} (hg : g.method = m) (hsize : g.locals.size = c.maxLocals) {argsL rest : List Value} (hlen : ∀ sig, parseMethodDescriptor y.desc = some sig → argsL.length = sig.parameters.length)
    (hstack : g.stack = argsL.reverse ++ rest) (hW : 2 * g.monitorRoom + (rest.map fun v => v.category).sum ≤ W9) (hdg : decode c.code g.pc = .ok (.invokestatic index, 3))
    (hpre : ∀ vm₁, s.WarmedH vm₁ → Pre ⟨T.setVm vm₁, locs, cells, slots⟩ argsL.toArray) :
    (∃ (v : Option Value) (vm₁ : Vm) (B : Pt), s.WarmedH vm₁ ∧ Stand p l e R s m args below meth c B.U B.locs B.cells B.slots ∧ Post ⟨T.setVm vm₁, locs, cells, slots⟩ argsL.toArray v B ∧
      ∀ target, Steps p.tables e below (B.U.setTop { g with pc := g.pc + 3, stack := v.toList ++ rest }) target → Steps p.tables e below (T.setTop g) target) ∨
    (∃ (q : Addr) (vm₁ : Vm) (B : Pt), s.WarmedH vm₁ ∧ Stand p l e R s m args below meth c B.U B.locs B.cells B.slots ∧ PostX ⟨T.setVm vm₁, locs, cells, slots⟩ argsL.toArray q B ∧
      Steps p.tables e below (T.setTop g) ((B.U.setTop { g with stack := rest }).pushFrame (.throwing q))) := by
  obtain ⟨mk, hnamed⟩ := Cond.code_named hcode
  obtain ⟨methM, cM, hmethM, -, -, -, -, -, -, hsigM⟩ := Cond.code_spec hnamed hcode
  have hstatic : methM.isStatic = true := Cond.static_spec hnamed hmethM hstat
  obtain ⟨kP, hkP, -⟩ := className_of_methodNamed hnamed
  have hinitP : kP.init = .initialized := Cond.initialized_spec (findClass_of_methodNamed hnamed) hkP hinit
  obtain ⟨vm₁, X₁, hstep₁⟩ := X.invokestatic hexec hown hlink hnamed hmethM hstatic hkP hinitP hy (g := g) hg (argsL := argsL) (rest := rest) (hlen _ hsigM) hstack hdg
  rcases hK m meth c ⟨T.setVm vm₁, locs, cells, slots⟩ { g with stack := rest } (.invokestatic index) mk argsL.toArray X₁ hg hsize hdg hW (X₁.named hnamed) (hpre vm₁ X₁.warmed) with ⟨v, B, X', hpost, hsteps⟩ | ⟨q, B, X', hpost, hsteps⟩
  · exact Or.inl ⟨v, vm₁, B, X₁.warmed, X', hpost, fun target h => hstep₁ _ fun acts => by rw [doInvoke_state]; exact hsteps.trans h⟩
  · exact Or.inr ⟨q, vm₁, B, X₁.warmed, X', hpost, hstep₁ _ fun acts => by rw [doInvoke_state]; exact hsteps⟩
end Calls
theorem vx_cls {s : State} {T : State} {vm₁ : Vm} {E : String} {k : ClassId} (hW : s.WarmedH vm₁) (h : (T.setVm vm₁).vm.findClass E = some k) : s.vm.findClass E = some k := by
  have h1 : vm₁.findClass E = some k := h
  rw [hW.alike.findClass] at h1
  exact h1
def vx_W (p : Program) (l : Launch) (e : Env) (R : Room) (s : State) (m : MethodId) (args : Array Value) (below : List Frame) (meth : Method) (c : Code) (H : Heap) (locs : List Loc) (cells slots : Nat) (Q : State → Prop) (g : JFrame) (q : Addr) : Prop :=
  ∀ T : State, T.heap = H → Stand p l e R s m args below meth c T locs cells slots → ∃ t, Steps p.tables e below ((T.setTop g).pushFrame (.throwing q)) t ∧ Q t
def vx_Run (p : Program) (l : Launch) (e : Env) (R : Room) (s : State) (m : MethodId) (args : Array Value) (below : List Frame) (meth : Method) (c : Code) (H : Heap) (locs : List Loc) (cells slots mc ms : Nat) (g : JFrame) (rest : List Value) (Qa : State → Outcome → State → Prop) (XC : String → State → State → Prop) (free : Addr → Prop) : Prop :=
  ∀ T : State, T.heap = H → Stand p l e R s m args below meth c T locs cells slots →
    (∃ (v : Option Value) (st₀ t T' : State) (L : List Loc), st₀.heap = H ∧ Stand p l e R s m args below meth c T' (locs ++ L) (cells + mc) (slots + ms) ∧ (∀ q ∈ L, free q.base) ∧ T'.heap = t.heap ∧ T'.vm = t.vm ∧ Qa st₀ (.returned v) t ∧
      Goes p e below T g T' { g with pc := g.pc + 3, stack := v.toList ++ rest }) ∨
    (∃ (q : Addr) (st₀ t T' : State) (L : List Loc) (E : String) (ce : Cell), st₀.heap = H ∧ Stand p l e R s m args below meth c T' (locs ++ L) (cells + mc) (slots + ms) ∧ (∀ z ∈ L, free z.base) ∧ T'.heap = t.heap ∧ T'.vm = t.vm ∧ XC E st₀ t ∧ t.heap[q]? = some ce ∧ ce.vm = .none ∧ s.vm.findClass E = some ce.cls ∧
      Steps p.tables e below (T.setTop g) ((T'.setTop { g with stack := rest }).pushFrame (.throwing q)))
def vx_X {S : Type} (px : S → Prop) (B : String → S → State → Prop) (A : Nat → Prop) : String → State → State → Prop := fun E st t => ∃ u : S, px u ∧ B E u t ∧ va_F A st t
section Runs
variable {p : Program} {l : Launch} {e : Env} {R : Room} {s : State} {m : MethodId} {args : Array Value} {below : List Frame} {meth : Method} {c : Code} {H : Heap} {locs : List Loc} {cells slots : Nat}
variable {y : MethodName} {bytes cc : ByteArray} {maxL nL mc ms n index : Nat} {ret : Option FieldType} {ws : List Cond} {rm : Room} {Pc : Array Value → State → Prop} {Qc : Array Value → State → Outcome → State → Prop} {XC : String → State → State → Prop} {free : Addr → Prop} {Ts : List Cond} {own C : String} {b : Addr} {As rest : List Value} {g : JFrame}
theorem vx_callBack (cb : CallB R s args own index y bytes maxL ret ws rm mc ms n) (hM : vx_Met l y ws rm Pc Qc XC mc ms free) (hbl : FrameBlind Pc) : vx_Back l R p e below s args y 3 8 (PreOf R mc ms Pc) (PostOf Qc mc ms free) (vx_Post XC mc ms free) := by
  obtain ⟨hrc, hrs, hfr, hlo, hws, hcw, -, hini, -⟩ := cb
  exact vx_back (bytes := bytes) (maxL := maxL) (ret := ret) hM hbl hrc hrs hfr hlo hws hcw (fun a' U hW => word_at hW (Or.inl (by first | rfl | simp [Cond.onTables, Cond.keeps, Cond.steady])) hini)
theorem vx_runV (S : CallFix p m c cc nL s args Ts own) (hM : vx_Met l y ws rm Pc Qc XC mc ms free) (cw : CallW R s args own C index y bytes maxL ret ws rm mc ms n) (hp : PreV s H C b Pc As)
    (hg : g.method = m) (hn : As.length = n) (hsize : g.locals.size = nL) (hstack : g.stack = As.reverse ++ .ref b :: rest) (hW : 2 * g.monitorRoom + (rest.map fun v => v.category).sum ≤ 8) (hdg : decode cc g.pc = .ok (.invokevirtual index, 3)) (hf : cells + mc ≤ R.cells ∧ slots + ms ≤ R.slots) :
    vx_Run p l e R s m args below meth c H locs cells slots mc ms g rest (Qc (Value.ref b :: As).toArray) XC free := by
  have hK : vx_Back l R p e below s args y 3 8 (PreOf R mc ms Pc) (PostOf Qc mc ms free) (vx_Post XC mc ms free) := vx_callBack cw.1 hM hp.1
  obtain ⟨⟨-, -, -, -, -, -, hcode, -, hy, hlen, hl⟩, hin, hse⟩ := cw
  obtain ⟨hx, hb, hml, ho, -⟩ := S
  obtain ⟨-, ⟨cellB, hcB, hoB, hclB⟩, hPc⟩ := hp
  intro T hT X
  rcases vx_callV X hx (C := C) (bytes := bytes) (maxL := maxL) (ret := ret) ho hl hin hse hcode hy hK (by rw [hT]; exact hcB) hoB hclB hg (hsize.trans hml.symm) (argsL := As) (rest := rest) (fun sig h => hn.trans (hlen sig h)) hstack hW (by rw [hb]; exact hdg)
    (fun vm₁ hW₁ => ⟨hf.1, hf.2, hPc (T.setVm vm₁) hT hW₁⟩) with ⟨v, vm₁, ⟨U', l2, c2, s2⟩, hW₁, X', ⟨g', mk, t, L, e1, e2, hq, h1, hL, h2, h3⟩, st⟩ | ⟨q, vm₁, ⟨U', l2, c2, s2⟩, hW₁, X', ⟨g', mk, t, L, E, ce, e1, e2, hq, hce, hcv, hcl, h1, hL, h2, h3⟩, st⟩
  · dsimp only [Pt.U, Pt.locs, Pt.cells, Pt.slots] at X' e1 e2 h1 h2 h3 st
    subst h1; subst h2; subst h3
    exact Or.inl ⟨v, (T.setVm vm₁).calling g' mk (Value.ref b :: As).toArray, t, U', L, hT, X', hL, e1, e2, hq, st⟩
  · dsimp only [Pt.U, Pt.locs, Pt.cells, Pt.slots] at X' e1 e2 h1 h2 h3 st hcl
    subst h1; subst h2; subst h3
    exact Or.inr ⟨q, (T.setVm vm₁).calling g' mk (Value.ref b :: As).toArray, t, U', L, E, ce, hT, X', hL, e1, e2, hq, hce, hcv, vx_cls hW₁ hcl, st⟩
theorem vx_runS (S : CallFix p m c cc nL s args Ts own) (hM : vx_Met l y ws rm Pc Qc XC mc ms free) (cw : CallB R s args own index y bytes maxL ret ws rm mc ms n ∧ (Cond.static y).before args s = true) (hp : PreS s H Pc As)
    (hg : g.method = m) (hn : As.length = n) (hsize : g.locals.size = nL) (hstack : g.stack = As.reverse ++ rest) (hW : 2 * g.monitorRoom + (rest.map fun v => v.category).sum ≤ 8) (hdg : decode cc g.pc = .ok (.invokestatic index, 3)) (hf : cells + mc ≤ R.cells ∧ slots + ms ≤ R.slots) :
    vx_Run p l e R s m args below meth c H locs cells slots mc ms g rest (Qc As.toArray) XC free := by
  have hK : vx_Back l R p e below s args y 3 8 (PreOf R mc ms Pc) (PostOf Qc mc ms free) (vx_Post XC mc ms free) := vx_callBack cw.1 hM hp.1
  obtain ⟨⟨-, -, -, -, -, -, hcode, hini, hy, hlen, hl⟩, hstt⟩ := cw
  obtain ⟨hx, hb, hml, ho, -⟩ := S
  intro T hT X
  rcases vx_callS X hx (bytes := bytes) (maxL := maxL) (ret := ret) ho hl hstt hini hcode hy hK hg (hsize.trans hml.symm) (argsL := As) (rest := rest) (fun sig h => hn.trans (hlen sig h)) hstack hW (by rw [hb]; exact hdg)
    (fun vm₁ hW₁ => ⟨hf.1, hf.2, hp.2 (T.setVm vm₁) hT hW₁⟩) with ⟨v, vm₁, ⟨U', l2, c2, s2⟩, hW₁, X', ⟨g', mk, t, L, e1, e2, hq, h1, hL, h2, h3⟩, st⟩ | ⟨q, vm₁, ⟨U', l2, c2, s2⟩, hW₁, X', ⟨g', mk, t, L, E, ce, e1, e2, hq, hce, hcv, hcl, h1, hL, h2, h3⟩, st⟩
  · dsimp only [Pt.U, Pt.locs, Pt.cells, Pt.slots] at X' e1 e2 h1 h2 h3 st
    subst h1; subst h2; subst h3
    exact Or.inl ⟨v, (T.setVm vm₁).calling g' mk As.toArray, t, U', L, hT, X', hL, e1, e2, hq, st⟩
  · dsimp only [Pt.U, Pt.locs, Pt.cells, Pt.slots] at X' e1 e2 h1 h2 h3 st hcl
    subst h1; subst h2; subst h3
    exact Or.inr ⟨q, (T.setVm vm₁).calling g' mk As.toArray, t, U', L, E, ce, hT, X', hL, e1, e2, hq, hce, hcv, vx_cls hW₁ hcl, st⟩
end Runs
section Rows
variable {p : Program} {l : Launch} {e : Env} {R : Room} {s : State} {m : MethodId} {args : Array Value} {below : List Frame} {meth : Method} {c : Code} {H : Heap} {locs : List Loc} {cells slots : Nat} {Q : State → Prop}
variable {mc ms : Nat} {free : Addr → Prop} {A0 A1 : Nat → Prop} {H0 : Heap} {a : Array Value} {pc : Nat} {ls : Array Slot} {st0 rest : List Value}
theorem vx_keep {st₀ t T' : State} {L : List Loc} (h0 : st₀.heap = H) (e1 : T'.heap = t.heap) (hS : va_S A0 H0 H locs) (hA : ∀ q, q < H.size → A1 q → A0 q) (hf : ∀ q, free q → A0 q) (hL : ∀ q ∈ L, free q.base) (hF : va_F A1 st₀ t) :
    H.size ≤ T'.heap.size ∧ (∀ q : Nat, q < H.size → ¬ A1 q → T'.heap[q]? = H[q]?) ∧ va_S A0 H0 T'.heap (locs ++ L) := by
  obtain ⟨hz, hk⟩ := hF
  rw [h0] at hz hk
  exact ⟨by rw [e1]; exact hz, fun q h1 h2 => by rw [e1]; exact hk q h1 h2,
    ⟨Nat.le_trans hS.1 (by rw [e1]; exact hz), fun q h1 h2 => by rw [e1, hk q (Nat.lt_of_lt_of_le h1 hS.1) (fun z => h2 (hA q (Nat.lt_of_lt_of_le h1 hS.1) z))]; exact hS.2.1 q h1 h2, fun q hq => by
      rcases List.mem_append.mp hq with h | h
      · exact hS.2.2 q h
      · exact hf _ (hL q h)⟩⟩
theorem vx_calli {S SX : Type} {post : Int32 → S → Prop} {px : SX → Prop} {B : S → State → Prop} {BX : String → SX → State → Prop} {AX : Nat → Prop} (hr : vx_Run p l e R s m args below meth c H locs cells slots mc ms (F0 m pc ls st0) rest (va_Qi post B A1 a) (vx_X px BX AX) free) (hS : va_S A0 H0 H locs) (hA : ∀ q, q < H.size → A1 q → A0 q) (hf : ∀ q, free q → A0 q) (hAX : ∀ q, q < H.size → AX q → A0 q)
    (kx : ∀ (E : String) (ce : Cell) (q9 : Addr) (u : SX) (t : State) (H1 : Heap) (locs1 : List Loc), t.heap = H1 → s.vm.Alike t.vm → px u → BX E u t → H.size ≤ H1.size → (∀ q : Nat, q < H.size → ¬ AX q → H1[q]? = H[q]?) → va_S A0 H0 H1 locs1 → H1[q9]? = some ce → ce.vm = .none → s.vm.findClass E = some ce.cls → vx_W p l e R s m args below meth c H1 locs1 (cells + mc) (slots + ms) Q (F0 m pc ls rest) q9)
    (kk : ∀ (r : Int32) (u : S) (t : State) (H1 : Heap) (locs1 : List Loc), t.heap = H1 → s.vm.Alike t.vm → post r u → B u t → H.size ≤ H1.size → (∀ q : Nat, q < H.size → ¬ A1 q → H1[q]? = H[q]?) → va_S A0 H0 H1 locs1 → W p l e R s m args below meth c H1 locs1 (cells + mc) (slots + ms) Q (F0 m (pc + 3) ls (.int r :: rest))) : W p l e R s m args below meth c H locs cells slots Q (F0 m pc ls st0) := by
  intro T hT X
  rcases hr T hT X with ⟨v, st₀, t, T', L, h0, X', hL, e1, e2, ⟨⟨r, u, hv, hp, hb⟩, hF⟩, st⟩ | ⟨q, st₀, t, T', L, E, ce, h0, X', hL, e1, e2, ⟨u, hp, hb, hF⟩, hce, hcv, hcl, st⟩
  · cases hv
    obtain ⟨k1, k2, k3⟩ := vx_keep h0 e1 hS hA hf hL hF
    obtain ⟨t2, a1, b1⟩ := kk r u t T'.heap (locs ++ L) e1.symm (by rw [← e2]; exact X'.warmed.alike) hp hb k1 k2 k3 T' rfl X'
    exact ⟨t2, st t2 a1, b1⟩
  · obtain ⟨k1, k2, k3⟩ := vx_keep h0 e1 hS hAX hf hL hF
    obtain ⟨t2, a1, b1⟩ := kx E ce q u t T'.heap (locs ++ L) e1.symm (by rw [← e2]; exact X'.warmed.alike) hp hb k1 k2 k3 (by rw [e1]; exact hce) hcv hcl T' rfl X'
    exact ⟨t2, st.trans a1, b1⟩
theorem vx_calll {S SX : Type} {post : Int64 → S → Prop} {px : SX → Prop} {B : S → State → Prop} {BX : String → SX → State → Prop} {AX : Nat → Prop} (hr : vx_Run p l e R s m args below meth c H locs cells slots mc ms (F0 m pc ls st0) rest (va_Ql post B A1 a) (vx_X px BX AX) free) (hS : va_S A0 H0 H locs) (hA : ∀ q, q < H.size → A1 q → A0 q) (hf : ∀ q, free q → A0 q) (hAX : ∀ q, q < H.size → AX q → A0 q)
    (kx : ∀ (E : String) (ce : Cell) (q9 : Addr) (u : SX) (t : State) (H1 : Heap) (locs1 : List Loc), t.heap = H1 → s.vm.Alike t.vm → px u → BX E u t → H.size ≤ H1.size → (∀ q : Nat, q < H.size → ¬ AX q → H1[q]? = H[q]?) → va_S A0 H0 H1 locs1 → H1[q9]? = some ce → ce.vm = .none → s.vm.findClass E = some ce.cls → vx_W p l e R s m args below meth c H1 locs1 (cells + mc) (slots + ms) Q (F0 m pc ls rest) q9)
    (kk : ∀ (r : Int64) (u : S) (t : State) (H1 : Heap) (locs1 : List Loc), t.heap = H1 → s.vm.Alike t.vm → post r u → B u t → H.size ≤ H1.size → (∀ q : Nat, q < H.size → ¬ A1 q → H1[q]? = H[q]?) → va_S A0 H0 H1 locs1 → W p l e R s m args below meth c H1 locs1 (cells + mc) (slots + ms) Q (F0 m (pc + 3) ls (.long r :: rest))) : W p l e R s m args below meth c H locs cells slots Q (F0 m pc ls st0) := by
  intro T hT X
  rcases hr T hT X with ⟨v, st₀, t, T', L, h0, X', hL, e1, e2, ⟨⟨r, u, hv, hp, hb⟩, hF⟩, st⟩ | ⟨q, st₀, t, T', L, E, ce, h0, X', hL, e1, e2, ⟨u, hp, hb, hF⟩, hce, hcv, hcl, st⟩
  · cases hv
    obtain ⟨k1, k2, k3⟩ := vx_keep h0 e1 hS hA hf hL hF
    obtain ⟨t2, a1, b1⟩ := kk r u t T'.heap (locs ++ L) e1.symm (by rw [← e2]; exact X'.warmed.alike) hp hb k1 k2 k3 T' rfl X'
    exact ⟨t2, st t2 a1, b1⟩
  · obtain ⟨k1, k2, k3⟩ := vx_keep h0 e1 hS hAX hf hL hF
    obtain ⟨t2, a1, b1⟩ := kx E ce q u t T'.heap (locs ++ L) e1.symm (by rw [← e2]; exact X'.warmed.alike) hp hb k1 k2 k3 (by rw [e1]; exact hce) hcv hcl T' rfl X'
    exact ⟨t2, st.trans a1, b1⟩
theorem vx_callf {S SX : Type} {post : UInt32 → S → Prop} {px : SX → Prop} {B : S → State → Prop} {BX : String → SX → State → Prop} {AX : Nat → Prop} (hr : vx_Run p l e R s m args below meth c H locs cells slots mc ms (F0 m pc ls st0) rest (va_Qf post B A1 a) (vx_X px BX AX) free) (hS : va_S A0 H0 H locs) (hA : ∀ q, q < H.size → A1 q → A0 q) (hf : ∀ q, free q → A0 q) (hAX : ∀ q, q < H.size → AX q → A0 q)
    (kx : ∀ (E : String) (ce : Cell) (q9 : Addr) (u : SX) (t : State) (H1 : Heap) (locs1 : List Loc), t.heap = H1 → s.vm.Alike t.vm → px u → BX E u t → H.size ≤ H1.size → (∀ q : Nat, q < H.size → ¬ AX q → H1[q]? = H[q]?) → va_S A0 H0 H1 locs1 → H1[q9]? = some ce → ce.vm = .none → s.vm.findClass E = some ce.cls → vx_W p l e R s m args below meth c H1 locs1 (cells + mc) (slots + ms) Q (F0 m pc ls rest) q9)
    (kk : ∀ (r : UInt32) (u : S) (t : State) (H1 : Heap) (locs1 : List Loc), t.heap = H1 → s.vm.Alike t.vm → post r u → B u t → H.size ≤ H1.size → (∀ q : Nat, q < H.size → ¬ A1 q → H1[q]? = H[q]?) → va_S A0 H0 H1 locs1 → W p l e R s m args below meth c H1 locs1 (cells + mc) (slots + ms) Q (F0 m (pc + 3) ls (.float r :: rest))) : W p l e R s m args below meth c H locs cells slots Q (F0 m pc ls st0) := by
  intro T hT X
  rcases hr T hT X with ⟨v, st₀, t, T', L, h0, X', hL, e1, e2, ⟨⟨r, u, hv, hp, hb⟩, hF⟩, st⟩ | ⟨q, st₀, t, T', L, E, ce, h0, X', hL, e1, e2, ⟨u, hp, hb, hF⟩, hce, hcv, hcl, st⟩
  · cases hv
    obtain ⟨k1, k2, k3⟩ := vx_keep h0 e1 hS hA hf hL hF
    obtain ⟨t2, a1, b1⟩ := kk r u t T'.heap (locs ++ L) e1.symm (by rw [← e2]; exact X'.warmed.alike) hp hb k1 k2 k3 T' rfl X'
    exact ⟨t2, st t2 a1, b1⟩
  · obtain ⟨k1, k2, k3⟩ := vx_keep h0 e1 hS hAX hf hL hF
    obtain ⟨t2, a1, b1⟩ := kx E ce q u t T'.heap (locs ++ L) e1.symm (by rw [← e2]; exact X'.warmed.alike) hp hb k1 k2 k3 (by rw [e1]; exact hce) hcv hcl T' rfl X'
    exact ⟨t2, st.trans a1, b1⟩
theorem vx_calld {S SX : Type} {post : UInt64 → S → Prop} {px : SX → Prop} {B : S → State → Prop} {BX : String → SX → State → Prop} {AX : Nat → Prop} (hr : vx_Run p l e R s m args below meth c H locs cells slots mc ms (F0 m pc ls st0) rest (va_Qd post B A1 a) (vx_X px BX AX) free) (hS : va_S A0 H0 H locs) (hA : ∀ q, q < H.size → A1 q → A0 q) (hf : ∀ q, free q → A0 q) (hAX : ∀ q, q < H.size → AX q → A0 q)
    (kx : ∀ (E : String) (ce : Cell) (q9 : Addr) (u : SX) (t : State) (H1 : Heap) (locs1 : List Loc), t.heap = H1 → s.vm.Alike t.vm → px u → BX E u t → H.size ≤ H1.size → (∀ q : Nat, q < H.size → ¬ AX q → H1[q]? = H[q]?) → va_S A0 H0 H1 locs1 → H1[q9]? = some ce → ce.vm = .none → s.vm.findClass E = some ce.cls → vx_W p l e R s m args below meth c H1 locs1 (cells + mc) (slots + ms) Q (F0 m pc ls rest) q9)
    (kk : ∀ (r : UInt64) (u : S) (t : State) (H1 : Heap) (locs1 : List Loc), t.heap = H1 → s.vm.Alike t.vm → post r u → B u t → H.size ≤ H1.size → (∀ q : Nat, q < H.size → ¬ A1 q → H1[q]? = H[q]?) → va_S A0 H0 H1 locs1 → W p l e R s m args below meth c H1 locs1 (cells + mc) (slots + ms) Q (F0 m (pc + 3) ls (.double r :: rest))) : W p l e R s m args below meth c H locs cells slots Q (F0 m pc ls st0) := by
  intro T hT X
  rcases hr T hT X with ⟨v, st₀, t, T', L, h0, X', hL, e1, e2, ⟨⟨r, u, hv, hp, hb⟩, hF⟩, st⟩ | ⟨q, st₀, t, T', L, E, ce, h0, X', hL, e1, e2, ⟨u, hp, hb, hF⟩, hce, hcv, hcl, st⟩
  · cases hv
    obtain ⟨k1, k2, k3⟩ := vx_keep h0 e1 hS hA hf hL hF
    obtain ⟨t2, a1, b1⟩ := kk r u t T'.heap (locs ++ L) e1.symm (by rw [← e2]; exact X'.warmed.alike) hp hb k1 k2 k3 T' rfl X'
    exact ⟨t2, st t2 a1, b1⟩
  · obtain ⟨k1, k2, k3⟩ := vx_keep h0 e1 hS hAX hf hL hF
    obtain ⟨t2, a1, b1⟩ := kx E ce q u t T'.heap (locs ++ L) e1.symm (by rw [← e2]; exact X'.warmed.alike) hp hb k1 k2 k3 (by rw [e1]; exact hce) hcv hcl T' rfl X'
    exact ⟨t2, st.trans a1, b1⟩
theorem vx_callv {S SX : Type} {post : S → Prop} {px : SX → Prop} {B : S → State → Prop} {BX : String → SX → State → Prop} {AX : Nat → Prop} (hr : vx_Run p l e R s m args below meth c H locs cells slots mc ms (F0 m pc ls st0) rest (va_Qv post B A1 a) (vx_X px BX AX) free) (hS : va_S A0 H0 H locs) (hA : ∀ q, q < H.size → A1 q → A0 q) (hf : ∀ q, free q → A0 q) (hAX : ∀ q, q < H.size → AX q → A0 q)
    (kx : ∀ (E : String) (ce : Cell) (q9 : Addr) (u : SX) (t : State) (H1 : Heap) (locs1 : List Loc), t.heap = H1 → s.vm.Alike t.vm → px u → BX E u t → H.size ≤ H1.size → (∀ q : Nat, q < H.size → ¬ AX q → H1[q]? = H[q]?) → va_S A0 H0 H1 locs1 → H1[q9]? = some ce → ce.vm = .none → s.vm.findClass E = some ce.cls → vx_W p l e R s m args below meth c H1 locs1 (cells + mc) (slots + ms) Q (F0 m pc ls rest) q9)
    (kk : ∀ (u : S) (t : State) (H1 : Heap) (locs1 : List Loc), t.heap = H1 → s.vm.Alike t.vm → post u → B u t → H.size ≤ H1.size → (∀ q : Nat, q < H.size → ¬ A1 q → H1[q]? = H[q]?) → va_S A0 H0 H1 locs1 → W p l e R s m args below meth c H1 locs1 (cells + mc) (slots + ms) Q (F0 m (pc + 3) ls (rest))) : W p l e R s m args below meth c H locs cells slots Q (F0 m pc ls st0) := by
  intro T hT X
  rcases hr T hT X with ⟨v, st₀, t, T', L, h0, X', hL, e1, e2, ⟨⟨u, hv, hp, hb⟩, hF⟩, st⟩ | ⟨q, st₀, t, T', L, E, ce, h0, X', hL, e1, e2, ⟨u, hp, hb, hF⟩, hce, hcv, hcl, st⟩
  · cases hv
    obtain ⟨k1, k2, k3⟩ := vx_keep h0 e1 hS hA hf hL hF
    obtain ⟨t2, a1, b1⟩ := kk u t T'.heap (locs ++ L) e1.symm (by rw [← e2]; exact X'.warmed.alike) hp hb k1 k2 k3 T' rfl X'
    exact ⟨t2, st t2 a1, b1⟩
  · obtain ⟨k1, k2, k3⟩ := vx_keep h0 e1 hS hAX hf hL hF
    obtain ⟨t2, a1, b1⟩ := kx E ce q u t T'.heap (locs ++ L) e1.symm (by rw [← e2]; exact X'.warmed.alike) hp hb k1 k2 k3 (by rw [e1]; exact hce) hcv hcl T' rfl X'
    exact ⟨t2, st.trans a1, b1⟩
theorem vx_catch {own name : String} {E : String} {ce : Cell} {q : Addr} (hown : s.vm.findClass own = some m.cls) (pre : List ExceptionTableEntry) (x : ExceptionTableEntry) (suf : List ExceptionTableEntry) (hsplit : c.exceptionTable.toList = pre ++ x :: suf)
    (hpass : ∀ z ∈ pre, covers z pc = false ∨ (z.catchType ≠ 0 ∧ ∃ nm : String, (Cond.classLink own z.catchType nm).before args s = true ∧ va_Nc E nm s)) (hx : covers x pc = true) (h0 : x.catchType ≠ 0)
    (hlink : (Cond.classLink own x.catchType name).before args s = true) (hcast : (Cond.castable E name).before args s = true) (hcell : H[q]? = some ce) (hv : ce.vm = .none) (hcl : s.vm.findClass E = some ce.cls)
    (kk : W p l e R s m args below meth c H locs cells slots Q (F0 m x.handlerPc ls [.ref q])) : vx_W p l e R s m args below meth c H locs cells slots Q (F0 m pc ls rest) q := by
  intro T hT X
  have hpl : e.platform.magicAccessors = ({} : Platform).magicAccessors := by rw [X.admits.platform]
  obtain ⟨c3, c4, hc3, hc4, hasg⟩ := Cond.castable_spec hcast
  cases Option.some.inj (hc3.symm.trans hcl)
  obtain ⟨c5, hc5, hcl5⟩ := Cond.classLink_spec hown hlink e.platform hpl
  cases Option.some.inj (hc4.symm.trans hc5)
  obtain ⟨vm', X', st⟩ := X.thenCaughtThrough q (g := F0 m pc ls rest) rfl (Steps.refl _) (by rw [hT]; exact hcell) (by rw [hv]; rfl) (by obtain ⟨k9, h9, -⟩ := Vm.findClass_spec hcl; exact ⟨k9, h9⟩) pre x suf hsplit
    (fun z hz => by
      rcases hpass z hz with h | ⟨hz0, nm, hl1, hn1⟩
      · exact Or.inl h
      · obtain ⟨c6, hc6, hcl6⟩ := Cond.classLink_spec hown hl1 e.platform hpl
        obtain ⟨a8, b8, h1, h2, h3⟩ := hn1
        cases Option.some.inj (h1.symm.trans hcl)
        cases Option.some.inj (h2.symm.trans hc6)
        exact Or.inr ⟨hz0, _, hcl6, h3⟩) hx (Or.inr ⟨h0, c4, hcl5, hasg⟩)
  obtain ⟨t, a1, b1⟩ := kk (T.setVm vm') hT X'
  exact ⟨t, st.trans a1, b1⟩
end Rows
section Ends
variable {p : Program} {l : Launch} {e : Env} {R : Room} {s : State} {m : MethodId} {args : Array Value} {below : List Frame} {meth : Method} {c : Code} {H : Heap} {locs : List Loc} {cells slots : Nat} {Q : State → Prop}
variable {mc ms : Nat} {free : Addr → Prop} {A0 A1 : Nat → Prop} {H0 : Heap} {a : Array Value} {ls : Array Slot} {st0 rest : List Value}
variable {Qc : Array Value → State → Outcome → State → Prop} {XC : String → State → State → Prop}
def vx_MQ (below : List Frame) (Qc : Array Value → State → Outcome → State → Prop) (XC : String → State → State → Prop) (a : Array Value) (s : State) (mc ms : Nat) (free : Addr → Prop) : State → Prop := fun t =>
  ∃ o, t.status = .running ∧ Ended t below o ∧ vx_Q Qc XC mc ms free a s o t
theorem vx_ret {g : JFrame} {mc ms : Nat} (k : W p l e R s m args below meth c H locs cells slots (MQ below Qc args s mc ms free) g) : W p l e R s m args below meth c H locs cells slots (vx_MQ below Qc XC args s mc ms free) g := by
  intro T hT X
  obtain ⟨t, a1, o, b1, b2, b3, b4⟩ := k T hT X
  exact ⟨t, a1, o, b1, b2, Or.inl ⟨b3, b4⟩⟩
theorem vx_widen {g : JFrame} {q : Addr} {k n : Nat} (h1 : cells ≤ k) (h2 : slots ≤ n) (kk : vx_W p l e R s m args below meth c H locs k n Q g q) : vx_W p l e R s m args below meth c H locs cells slots Q g q := fun T hT X => kk T hT (stand_widen X h1 h2)
theorem vx_out {pc : Nat} {E : String} {ce : Cell} {q : Addr} {mc ms : Nat} (hout : ∀ x ∈ c.exceptionTable.toList, covers x pc = false) (hlocks : meth.locks = false) (hcell : H[q]? = some ce) (hv : ce.vm = .none) (hcl : s.vm.findClass E = some ce.cls)
    (hx : ∀ t : State, t.heap = H → s.vm.Alike t.vm → XC E s t) (hf : ∀ z ∈ locs, free z.base) (hc : cells ≤ mc) (hs : slots ≤ ms) :
    vx_W p l e R s m args below meth c H locs cells slots (vx_MQ below Qc XC args s mc ms free) (F0 m pc ls rest) q := by
  intro T hT X
  obtain ⟨st1, hrun, hend, hW, hsm⟩ := X.leaveThrown q (g := F0 m pc ls rest) rfl rfl rfl hout hlocks
  have hcell9 : (T.setFrames (.throwing q :: below)).heap[q]? = some ce := by
    show T.heap[q]? = some ce
    rw [hT]; exact hcell
  exact ⟨_, st1, .threw q, hrun, hend, Or.inr ⟨q, rfl, E, ce, locs, hx _ hT hW.alike, hcell9, hv, hcl, hW, hsm.mono hc hs, hf⟩⟩
theorem vx_frame {U : State} {k n : Nat} (h : s.sameButNew ({ U with vm := s.vm } : State) locs k n) : s.heap.size ≤ U.heap.size ∧ ∀ q : Nat, q < s.heap.size → (∀ z ∈ locs, z.base ≠ q) → U.heap[q]? = s.heap[q]? := by
  obtain ⟨-, h2, -, -, -, h6⟩ := h
  refine ⟨h2, fun q hq hz => ?_⟩
  obtain ⟨c9, e1, e2, e3, e4⟩ := h6 q _ (Array.getElem?_eq_getElem hq)
  have hs : c9.slots = (s.heap[q]).slots := Array.ext_getElem? fun i => e4 i fun hm => hz _ hm rfl
  have h9 : c9 = s.heap[q] := by
    rw [hs] at e2
    exact e2
  have e5 : U.heap[q]? = some c9 := e1
  rw [e5, h9, Array.getElem?_eq_getElem hq]
def vx_no (w : Cond) : Bool := decide (w ≠ .isRef (.static Bundle.tN "UNASSIGNED_STACK" Bundle.steD)) && decide (w ≠ .isRef (.static Bundle.tN "SUPPRESSED_SENTINEL" Bundle.listD)) && decide (w ≠ .laysStatic Bundle.tN "UNASSIGNED_STACK" Bundle.steD) && decide (w ≠ .laysStatic Bundle.tN "SUPPRESSED_SENTINEL" Bundle.listD)
def vx_at0 (own : String) (ic : Nat) (X : String) (names : List String) : List Cond := (Bundle.ownAtoms0 own ic X names).filter vx_no
def vx_atS (own : String) (ic : Nat) (X : String) (names : List String) : List Cond := (Bundle.ownAtoms own ic X names).filter vx_no
def vx_ot (w : Cond) : Bool := w.onTables || goodWord w
theorem vx_ot_at {args a' : Array Value} {s U : State} {w : Cond} (hW : s.WarmedH U.vm) (hvm : s.vm = U.vm) (hg : vx_ot w = true) (h : w.before args s = true) : w.before a' U = true := by
  simp only [vx_ot, Bool.or_eq_true] at hg
  rcases hg with hg | hg
  · exact va_tabs hg hvm h
  · exact word_at hW (good_of_word hg) h
theorem vx_hat {args : Array Value} {s : State} {L B : List Cond} (h1 : ∀ w ∈ L.filter goodWord, w.before args s = true) (h2 : ∀ w ∈ L.filter (fun w => !goodWord w), w ∈ B) (h3 : ∀ w ∈ B, w.before args s = true) : ∀ w ∈ L, w.before args s = true := by
  intro w hw
  by_cases g : goodWord w = true
  · exact h1 w (List.mem_filter.mpr ⟨hw, g⟩)
  · refine h3 w (h2 w (List.mem_filter.mpr ⟨hw, ?_⟩))
    show (!goodWord w) = true
    cases hgw : goodWord w
    · rfl
    · exact absurd hgw g
theorem vx_c {args : Array Value} {s : State} {w : Cond} {B : List Cond} (h : w.before args s = true) (t : ∀ w ∈ B, w.before args s = true) : ∀ w' ∈ w :: B, w'.before args s = true := fun w' h' => (List.mem_cons.mp h').elim (fun e => by rw [e]; exact h) (t w')
theorem vx_n {args : Array Value} {s : State} : ∀ w ∈ ([] : List Cond), w.before args s = true := fun _ h => nomatch h
theorem vx_own {args : Array Value} {s : State} {L : List Cond} (h1 : ∀ w ∈ L.filter vx_no, w.before args s = true)
    (hU : (Cond.isRef (.static Bundle.tN "UNASSIGNED_STACK" Bundle.steD)).before args s = true) (hN : (Cond.isRef (.static Bundle.tN "SUPPRESSED_SENTINEL" Bundle.listD)).before args s = true)
    (lU : (Cond.laysStatic Bundle.tN "UNASSIGNED_STACK" Bundle.steD).before args s = true) (lN : (Cond.laysStatic Bundle.tN "SUPPRESSED_SENTINEL" Bundle.listD).before args s = true) : ∀ w ∈ L, w.before args s = true := by
  intro w hw
  by_cases e1 : w = .isRef (.static Bundle.tN "UNASSIGNED_STACK" Bundle.steD)
  · rw [e1]; exact hU
  · by_cases e2 : w = .isRef (.static Bundle.tN "SUPPRESSED_SENTINEL" Bundle.listD)
    · rw [e2]; exact hN
    · by_cases e3 : w = .laysStatic Bundle.tN "UNASSIGNED_STACK" Bundle.steD
      · rw [e3]; exact lU
      · by_cases e4 : w = .laysStatic Bundle.tN "SUPPRESSED_SENTINEL" Bundle.listD
        · rw [e4]; exact lN
        · exact h1 w (List.mem_filter.mpr ⟨hw, by unfold vx_no; rw [decide_eq_true e1, decide_eq_true e2, decide_eq_true e3, decide_eq_true e4]; rfl⟩)
def vx_L (C n d : String) (A : Nat → Prop) (U : State) (H : Heap) : Prop := ∃ (c : ClassId) (k : Class) (i : Nat) (f : Field) (a : Nat) (cell : Cell), U.vm.findClass C = some c ∧ U.fieldFound? C n d = some (c, k, i, f) ∧ f.isStatic = true ∧ k.statics = some a ∧ H[a]? = some cell ∧ cell.vm.isStatics = true ∧ cell.cls = c ∧ f.slot < cell.slots.size ∧ k.staticTypes[f.slot]? = some f.type ∧ ¬ A a
theorem vx_L.moved {C n d : String} {A : Nat → Prop} {u U : State} {H : Heap} (hvm : u.vm.Alike U.vm) (h : vx_L C n d A u H) : vx_L C n d A U H := by
  obtain ⟨c, k, i, f, a, cell, h1, h2, h3, h4, h5, h6, h7, h8, h9, h10⟩ := h
  obtain ⟨k', hi', he⟩ := State.fieldFound?_setVm hvm h2
  exact ⟨c, k', i, f, a, cell, by rw [hvm.findClass]; exact h1, hi', h3, by rw [he]; exact h4, h5, h6, h7, h8, by rw [he]; exact h9, h10⟩
theorem vx_L.kept {C n d : String} {A : Nat → Prop} {U : State} {H H1 : Heap} (h : vx_L C n d A U H) (hq : ∀ a : Nat, a < H.size → ¬ A a → H1[a]? = H[a]?) : vx_L C n d A U H1 := by
  obtain ⟨c, k, i, f, a, cell, h1, h2, h3, h4, h5, h6, h7, h8, h9, h10⟩ := h
  exact ⟨c, k, i, f, a, cell, h1, h2, h3, h4, by rw [hq a (Array.getElem?_eq_some_iff.mp h5).1 h10]; exact h5, h6, h7, h8, h9, h10⟩
theorem vx_L.narrow {C n d : String} {A B : Nat → Prop} {U : State} {H : Heap} (h : vx_L C n d A U H) (hAB : ∀ q, B q → A q) : vx_L C n d B U H := by
  obtain ⟨c, k, i, f, a, cell, h1, h2, h3, h4, h5, h6, h7, h8, h9, h10⟩ := h
  exact ⟨c, k, i, f, a, cell, h1, h2, h3, h4, h5, h6, h7, h8, h9, fun z => h10 (hAB _ z)⟩
theorem vx_L.word {C n d : String} {A : Nat → Prop} {s : State} {args : Array Value} (h : vx_L C n d A s s.heap) : (Cond.laysStatic C n d).before args s = true := by
  obtain ⟨c, k, i, f, a, cell, h1, h2, h3, h4, h5, h6, h7, h8, h9, -⟩ := h
  show (Cond.laysStatic C n d).holds args s none s [] = true
  exact Cond.laysStatic_of h1 h2 h3 h4 h5 h6 h7 h8 h9
def vx_Zq (C n d : String) (A : Nat → Prop) (U : State) (H : Heap) : Prop := va_Zq C n d A U H ∧ vx_L C n d A U H
theorem vx_Zq.moved {C n d : String} {A : Nat → Prop} {u U : State} {H : Heap} (hvm : u.vm.Alike U.vm) (h : vx_Zq C n d A u H) : vx_Zq C n d A U H := ⟨va_Zq.moved hvm h.1, vx_L.moved hvm h.2⟩
theorem vx_Zq.kept {C n d : String} {A : Nat → Prop} {U : State} {H H1 : Heap} (h : vx_Zq C n d A U H) (hq : ∀ a : Nat, a < H.size → ¬ A a → H1[a]? = H[a]?) : vx_Zq C n d A U H1 := ⟨va_Zq.kept h.1 hq, vx_L.kept h.2 hq⟩
theorem vx_Zq.narrow {C n d : String} {A B : Nat → Prop} {U : State} {H : Heap} (h : vx_Zq C n d A U H) (hAB : ∀ q, B q → A q) : vx_Zq C n d B U H := ⟨va_Zq.narrow h.1 hAB, vx_L.narrow h.2 hAB⟩
theorem vx_Zqof {args : Array Value} {s : State} {C n d : String} {A : Nat → Prop} (hl : (Cond.laysStatic C n d).before args s = true) (hini : (Cond.initialized C).before args s = true) (h : (Cond.isRef (.static C n d)).before args s = true) (hA : ∀ a : Nat, a < s.heap.size → ¬ A a) : vx_Zq C n d A s s.heap := by
  refine ⟨va_Zqof hl hini h hA, ?_⟩
  obtain ⟨c, k, i, f, a, cell, h1, h2, h3, h4, h5, h6, h7, h8, h9⟩ := Cond.laysStatic_spec hl
  exact ⟨c, k, i, f, a, cell, h1, h2, h3, h4, h5, h6, h7, h8, h9, hA a (Array.getElem?_eq_some_iff.mp h5).1⟩
theorem vx_isRef {C n d : String} {v : Value} {A : Nat → Prop} {s : State} {args : Array Value} (h : va_Z C n d v A s s.heap) (hv : v.isRef = true) : (Cond.isRef (.static C n d)).before args s = true := by
  obtain ⟨cf, kf, fi, f, a, cell, h1, h2, h3, h4, h5, h6, h7, -⟩ := h
  have he : (Term.static C n d).eval args s none [] s = some v := by
    simp [Term.eval, State.fieldNamed?, h1, h2, h4, h5, h6, h7]
  simp only [Cond.before, Cond.holds, Cond.value, he]
  cases v <;> simp_all [Value.isRef]
theorem vx_isRefq {C n d : String} {A : Nat → Prop} {s : State} {args : Array Value} (h : va_Zq C n d A s s.heap) : (Cond.isRef (.static C n d)).before args s = true := by
  rcases h with h | ⟨t, h⟩
  · exact vx_isRef h rfl
  · exact vx_isRef h rfl
theorem vx_rebase {T : State} (X : Stand p l e R s m args below meth c T locs cells slots) {R' : Room} (hf : R'.frames ≤ R.frames) (hl : R'.locals ≤ R.locals) (hc : cells + R'.cells ≤ R.cells) (hs : slots + R'.slots ≤ R.slots) :
    Stand p l e R' ((T.setVm s.vm).setFrames (.invoking m args :: below)) m args below meth c T [] 0 0 := by
  have htop : (T.setVm s.vm).topJava?.isSome := X.here.top
  have hF : ((T.setVm s.vm).setFrames (.invoking m args :: below)).frames = .invoking m args :: below := State.frames_setFrames _ (State.cur_lt_of_top htop)
  obtain ⟨g₀, hg0⟩ := Option.isSome_iff_exists.mp htop
  obtain ⟨r, hr⟩ := State.topJava?_eq_some.mp hg0
  have hl9 : e.platform.stackLimits (T.setVm s.vm).me = e.platform.stackLimits s.me := X.limits
  have hb9 : (T.setVm s.vm).me.stackBytes = s.me.stackBytes := X.bytes
  refine ⟨X.admits, X.cas, X.clock, hF, ?_, X.hears, X.method, X.code, X.here, X.tail, X.warmed, ?_, ?_, ?_⟩
  · have h := X.room
    have hU : ((T.setVm s.vm).setFrames (.invoking m args :: below)).localsInUse = s.localsInUse := by
      rw [State.localsInUse_invoking hF (meth := meth) (c := c) X.method X.code, State.localsInUse_invoking X.frames X.method X.code]
    simp only [State.hasRoom, Bool.and_eq_true, decide_eq_true_eq] at h ⊢
    obtain ⟨⟨⟨⟨h1, h2, h3, h4, h5, h6⟩, h7⟩, h8⟩, h9⟩ := h
    rw [X.frames, List.length_cons] at h2 h3
    have q1 := X.heapSize
    have q2 := X.used
    simp only [hF, hU, List.length_cons, State.stackLimits_setFrames, State.stackBytes_setFrames, hl9, hb9]
    refine ⟨⟨⟨⟨by omega, by omega, by omega, by omega, by omega, h6⟩, ?_⟩, ?_⟩, X.book⟩
    · show T.heap.size + R'.cells ≤ e.platform.maxCells
      omega
    · show T.slotsUsed + R'.slots ≤ e.platform.maxSlots
      omega
  · rw [State.stackLimits_setFrames]; rfl
  · rw [State.stackBytes_setFrames]; rfl
  · refine ⟨?_, Nat.le_refl _, Nat.le_refl _, ?_, ?_, fun a c9 h9 => ⟨c9, h9, rfl, rfl, fun _ _ => rfl⟩⟩
    · obtain ⟨t, ht, -⟩ := State.frames_cons hr
      show T.setVm s.vm = { ((T.setVm s.vm).setFrames (.invoking m args :: below)).setFrames (T.setVm s.vm).frames with heap := T.heap, slotsUsed := T.slotsUsed }
      rw [State.setFrames_setFrames, State.setFrames_self ht]
      rfl
    · show T.slotsUsed = T.slotsUsed + ((T.heap.toList.drop T.heap.size).map (·.slots.size)).sum
      rw [List.drop_eq_nil_of_le (Nat.le_of_eq Array.length_toList)]
      rfl
    · show ((T.heap.toList.drop T.heap.size).map (·.slots.size)).sum ≤ 0
      rw [List.drop_eq_nil_of_le (Nat.le_of_eq Array.length_toList)]
      exact Nat.le_refl _
theorem vx_throw0 {cc : ByteArray} {pc : Nat} (hexec : p.tables.exec = Jvm.exec) (hb : c.code = cc) (hl : l.stackTraces = false) {own cls : String} {names : List String} {ik ic mc ms : Nat} {A : Nat → Prop}
    (hown : s.vm.findClass own = some m.cls) (hcls : Bundle.fit cls = true) (hnames : ∀ n ∈ names, Bundle.fit n = true)
    (hk : (Cond.classLink own ik cls).before args s = true) (hini : (Cond.initialized cls).before args s = true) (hat : ∀ w ∈ vx_at0 own ic cls names, w.before args s = true)
    (hgood : ∀ w ∈ Cond.classLink own ik cls :: Cond.initialized cls :: vx_at0 own ic cls names, vx_ot w = true)
    (hU : vx_Zq Bundle.tN "UNASSIGNED_STACK" Bundle.steD A s s.heap) (hN : vx_Zq Bundle.tN "SUPPRESSED_SENTINEL" Bundle.listD A s s.heap) (hS : va_S A s.heap H locs) (hsize : ls.size = c.maxLocals)
    (d0 : decode cc pc = .ok (.new ik, 3)) (d3 : decode cc (pc + 3) = .ok (.dup, 1)) (d4 : decode cc (pc + 4) = .ok (.invokespecial ic, 3)) (d7 : decode cc (pc + 7) = .ok (.athrow, 1))
    (hout : ∀ x ∈ c.exceptionTable.toList, covers x (pc + 7) = false)
    (hRframes : names.length + 3 < R.frames) (hRlocals : (rest.map fun v => v.category).sum + (13 * (names.length + 1) + 42) ≤ R.locals) (hRcells : cells + 1 ≤ R.cells) (hRslots : slots + 6 ≤ R.slots) (hlocks : meth.locks = false)
    (hx : ∀ t : State, s.vm.Alike t.vm → H.size ≤ t.heap.size → (∀ q : Nat, q < H.size → t.heap[q]? = H[q]?) → XC cls s t)
    (hf : ∀ z ∈ locs, free z.base) (hc : cells + 1 ≤ mc) (hs : slots + 6 ≤ ms) :
    W p l e R s m args below meth c H locs cells slots (vx_MQ below Qc XC args s mc ms free) (F0 m pc ls rest) := by
  intro T hT X
  have htr : e.platform.stackTraces = false := (show e.platform.stackTraces = l.stackTraces by rw [X.admits.platform]).trans hl
  have Y := vx_rebase X (R' := { frames := R.frames, locals := R.locals, cells := 1, slots := 6 }) (Nat.le_refl _) (Nat.le_refl _) hRcells hRslots
  obtain ⟨s', hA⟩ : ∃ z, z = (T.setVm s.vm).setFrames (.invoking m args :: below) := ⟨_, rfl⟩
  rw [← hA] at Y
  have hvm : s'.vm = s.vm := by rw [hA]; rfl
  have hhp : s'.heap = H := by rw [hA]; exact hT
  have hW0 : s.WarmedH s'.vm := by rw [hvm]; exact State.WarmedH.refl s
  have hat' : ∀ w ∈ vx_at0 own ic cls names, w.before args s' = true := fun w hw => vx_ot_at hW0 hvm.symm (hgood w (List.mem_cons_of_mem _ (List.mem_cons_of_mem _ hw))) (hat w hw)
  have hk' : (Cond.classLink own ik cls).before args s' = true := vx_ot_at hW0 hvm.symm (hgood _ List.mem_cons_self) hk
  have hini' : (Cond.initialized cls).before args s' = true := vx_ot_at hW0 hvm.symm (hgood _ (List.mem_cons_of_mem _ List.mem_cons_self)) hini
  have hU' : vx_Zq Bundle.tN "UNASSIGNED_STACK" Bundle.steD A s' s'.heap := by rw [hhp]; exact vx_Zq.moved hW0.alike (hU.kept hS.2.1)
  have hN' : vx_Zq Bundle.tN "SUPPRESSED_SENTINEL" Bundle.listD A s' s'.heap := by rw [hhp]; exact vx_Zq.moved hW0.alike (hN.kept hS.2.1)
  have h : ∀ w ∈ Bundle.ownAtoms0 own ic cls names, w.before args s' = true := vx_own hat' (vx_isRefq hU'.1) (vx_isRefq hN'.1) hU'.2.word hN'.2.word
  have hown' : s'.vm.findClass own = some m.cls := by rw [hvm]; exact hown
  have hins : (Cond.instantiable cls 6).before args s' = true := h _ (by simp [Bundle.ownAtoms0])
  obtain ⟨vm₁, cX, kX, hfX, hkX, -, -, X₁, st1⟩ := Y.newCold hexec (own := own) (C := cls) (index := ik) (n := 6) hown' hk' hins hini'
    (g := F0 m pc ls rest) rfl (by rw [hb]; exact d0) (Nat.le_refl _) (Nat.le_refl _)
  generalize hT1 : (T.setVm vm₁).pushCell { cls := cX, slots := kX.instanceTypes.map defaultValue, vm := .none } = T1 at X₁ st1
  have hcat : (Value.ref T.heap.size).category = 1 := rfl
  have hcellA : T1.heap[T.heap.size]? = some (freshCell cX kX) := by rw [← hT1]; exact State.heap_pushCell_size _ _
  have d3' : decode c.code (pc + 3) = .ok (.dup, 1) := by rw [hb]; exact d3
  obtain ⟨U, hsteps, hrun, hend, hW, hsame, ce, hce, hO⟩ := X₁.ctorThrow0 hexec htr (own := own) (cls := cls) (names := names) (ic := ic) hown' hcls hnames h (fun x hx => nomatch hx) hfX hkX hcellA (by rw [hhp, hT]; exact Nat.le_refl _)
    (g := { method := m, pc := pc + 4, locals := ls, stack := .ref T.heap.size :: .ref T.heap.size :: rest, locked := none }) rfl hsize rfl rfl (rest := rest) rfl
    (by rw [hb]; exact d4) (by rw [hb]; exact d7) hout hRframes (by simp only [List.map_cons, List.sum_cons, hcat]; omega) hlocks
  obtain ⟨f1, f2⟩ := vx_frame hsame
  rw [hhp] at f1 f2
  have hWs : s.WarmedH U.vm := State.WarmedH.trans hW0 hW
  have hcl : s.vm.findClass cls = some ce.cls := by
    have h9 := hO.cls
    rw [hvm] at h9
    exact h9
  have hall : s.sameButNew ({ U with vm := s.vm } : State) locs mc ms := by
    subst hA
    obtain ⟨e1, e2⟩ := hsame
    rw [State.setFrames_setFrames] at e1
    have h2 : (T.setVm s.vm).sameButNew ({ U with vm := s.vm } : State) [] (0 + 1) (0 + 6) := ⟨e1, e2⟩
    have h3 := X.same.trans h2
    rw [List.append_nil] at h3
    exact h3.mono hc hs
  refine ⟨U, ?_, .threw T.heap.size, hrun, hend, Or.inr ⟨T.heap.size, rfl, cls, ce, locs, hx U hWs.alike f1 (fun q hq => f2 q hq (fun z hz => nomatch hz)), hce, hO.vm, hcl, hWs, hall, hf⟩⟩
  refine st1 _ ?_
  show Steps p.tables e below (T1.setTop { method := m, pc := pc + 3, locals := ls, stack := .ref T.heap.size :: rest, locked := none }) _
  jvm_step X₁.here [X₁.here.top, hexec, d3', Value.category]
  exact hsteps
theorem vx_throwS {cc : ByteArray} {pc : Nat} (hexec : p.tables.exec = Jvm.exec) (hb : c.code = cc) (hl : l.stackTraces = false) {own cls text : String} {names : List String} {ik is ic mc ms sa : Nat} {A : Nat → Prop}
    (hown : s.vm.findClass own = some m.cls) (hcls : Bundle.fit cls = true) (hnames : ∀ n ∈ names, Bundle.fit n = true)
    (hk : (Cond.classLink own ik cls).before args s = true) (hini : (Cond.initialized cls).before args s = true) (hstr : vk_R own is text sa s) (hat : ∀ w ∈ vx_atS own ic cls names, w.before args s = true)
    (hgood : ∀ w ∈ Cond.classLink own ik cls :: Cond.initialized cls :: vx_atS own ic cls names, vx_ot w = true)
    (hU : vx_Zq Bundle.tN "UNASSIGNED_STACK" Bundle.steD A s s.heap) (hN : vx_Zq Bundle.tN "SUPPRESSED_SENTINEL" Bundle.listD A s s.heap) (hS : va_S A s.heap H locs) (hsize : ls.size = c.maxLocals)
    (d0 : decode cc pc = .ok (.new ik, 3)) (d3 : decode cc (pc + 3) = .ok (.dup, 1)) (d4 : decode cc (pc + 4) = .ok (.ldc is, 2)) (d6 : decode cc (pc + 6) = .ok (.invokespecial ic, 3)) (d9 : decode cc (pc + 9) = .ok (.athrow, 1))
    (hout : ∀ x ∈ c.exceptionTable.toList, covers x (pc + 9) = false)
    (hRframes : names.length + 3 < R.frames) (hRlocals : (rest.map fun v => v.category).sum + (13 * (names.length + 1) + 43) ≤ R.locals) (hRcells : cells + 1 ≤ R.cells) (hRslots : slots + 6 ≤ R.slots) (hlocks : meth.locks = false)
    (hx : ∀ t : State, s.vm.Alike t.vm → H.size ≤ t.heap.size → (∀ q : Nat, q < H.size → t.heap[q]? = H[q]?) → XC cls s t)
    (hf : ∀ z ∈ locs, free z.base) (hc : cells + 1 ≤ mc) (hs : slots + 6 ≤ ms) :
    W p l e R s m args below meth c H locs cells slots (vx_MQ below Qc XC args s mc ms free) (F0 m pc ls rest) := by
  intro T hT X
  have htr : e.platform.stackTraces = false := (show e.platform.stackTraces = l.stackTraces by rw [X.admits.platform]).trans hl
  have Y := vx_rebase X (R' := { frames := R.frames, locals := R.locals, cells := 1, slots := 6 }) (Nat.le_refl _) (Nat.le_refl _) hRcells hRslots
  obtain ⟨s', hA⟩ : ∃ z, z = (T.setVm s.vm).setFrames (.invoking m args :: below) := ⟨_, rfl⟩
  rw [← hA] at Y
  have hvm : s'.vm = s.vm := by rw [hA]; rfl
  have hhp : s'.heap = H := by rw [hA]; exact hT
  have hW0 : s.WarmedH s'.vm := by rw [hvm]; exact State.WarmedH.refl s
  have hat' : ∀ w ∈ vx_atS own ic cls names, w.before args s' = true := fun w hw => vx_ot_at hW0 hvm.symm (hgood w (List.mem_cons_of_mem _ (List.mem_cons_of_mem _ hw))) (hat w hw)
  have hk' : (Cond.classLink own ik cls).before args s' = true := vx_ot_at hW0 hvm.symm (hgood _ List.mem_cons_self) hk
  have hini' : (Cond.initialized cls).before args s' = true := vx_ot_at hW0 hvm.symm (hgood _ (List.mem_cons_of_mem _ List.mem_cons_self)) hini
  have hU' : vx_Zq Bundle.tN "UNASSIGNED_STACK" Bundle.steD A s' s'.heap := by rw [hhp]; exact vx_Zq.moved hW0.alike (hU.kept hS.2.1)
  have hN' : vx_Zq Bundle.tN "SUPPRESSED_SENTINEL" Bundle.listD A s' s'.heap := by rw [hhp]; exact vx_Zq.moved hW0.alike (hN.kept hS.2.1)
  have h : ∀ w ∈ Bundle.ownAtoms own ic cls names, w.before args s' = true := vx_own hat' (vx_isRefq hU'.1) (vx_isRefq hN'.1) hU'.2.word hN'.2.word
  have hown' : s'.vm.findClass own = some m.cls := by rw [hvm]; exact hown
  have hins : (Cond.instantiable cls 6).before args s' = true := h _ (by simp [Bundle.ownAtoms])
  obtain ⟨vm₁, cX, kX, hfX, hkX, -, -, X₁, st1⟩ := Y.newCold hexec (own := own) (C := cls) (index := ik) (n := 6) hown' hk' hins hini'
    (g := F0 m pc ls rest) rfl (by rw [hb]; exact d0) (Nat.le_refl _) (Nat.le_refl _)
  generalize hT1 : (T.setVm vm₁).pushCell { cls := cX, slots := kX.instanceTypes.map defaultValue, vm := .none } = T1 at X₁ st1
  have hcat : (Value.ref T.heap.size).category = 1 := rfl
  have hcellA : T1.heap[T.heap.size]? = some (freshCell cX kX) := by rw [← hT1]; exact State.heap_pushCell_size _ _
  have d3' : decode c.code (pc + 3) = .ok (.dup, 1) := by rw [hb]; exact d3
  have d4' : decode c.code (pc + 4) = .ok (.ldc is, 2) := by rw [hb]; exact d4
  have hstr' : vk_R own is text sa s' := vk_R.warm hW0 hstr
  obtain ⟨U, hsteps, hrun, hend, hW, hsame, ce, hce, hO⟩ := X₁.ctorThrowS hexec htr (own := own) (cls := cls) (names := names) (ic := ic) hown' hcls hnames h (fun x hx => nomatch hx) hfX hkX hcellA (by rw [hhp, hT]; exact Nat.le_refl _) (msg := .ref sa) rfl
    (g := { method := m, pc := pc + 6, locals := ls, stack := .ref sa :: .ref T.heap.size :: .ref T.heap.size :: rest, locked := none }) rfl hsize rfl rfl (rest := rest) rfl
    (by rw [hb]; exact d6) (by rw [hb]; exact d9) hout hRframes (by simp only [List.map_cons, List.sum_cons, hcat]; omega) hlocks
  obtain ⟨f1, f2⟩ := vx_frame hsame
  rw [hhp] at f1 f2
  have hWs : s.WarmedH U.vm := State.WarmedH.trans hW0 hW
  have hcl : s.vm.findClass cls = some ce.cls := by
    have h9 := hO.cls
    rw [hvm] at h9
    exact h9
  have hall : s.sameButNew ({ U with vm := s.vm } : State) locs mc ms := by
    subst hA
    obtain ⟨e1, e2⟩ := hsame
    rw [State.setFrames_setFrames] at e1
    have h2 : (T.setVm s.vm).sameButNew ({ U with vm := s.vm } : State) [] (0 + 1) (0 + 6) := ⟨e1, e2⟩
    have h3 := X.same.trans h2
    rw [List.append_nil] at h3
    exact h3.mono hc hs
  refine ⟨U, ?_, .threw T.heap.size, hrun, hend, Or.inr ⟨T.heap.size, rfl, cls, ce, locs, hx U hWs.alike f1 (fun q hq => f2 q hq (fun z hz => nomatch hz)), hce, hO.vm, hcl, hWs, hall, hf⟩⟩
  refine st1 _ ?_
  show Steps p.tables e below (T1.setTop { method := m, pc := pc + 3, locals := ls, stack := .ref T.heap.size :: rest, locked := none }) _
  jvm_step X₁.here [X₁.here.top, hexec, d3', Value.category]
  exact X₁.ldcString hexec (own := own) (text := text) (index := is) (a := sa) hown' hstr'.1 hstr'.2
    (g := { method := m, pc := pc + 4, locals := ls, stack := .ref T.heap.size :: .ref T.heap.size :: rest, locked := none }) rfl d4' _ hsteps
theorem vx_throwSW {cc : ByteArray} {pc : Nat} (hexec : p.tables.exec = Jvm.exec) (hb : c.code = cc) (hl : l.stackTraces = false) {own cls text : String} {names : List String} {ik is ic mc ms sa : Nat} {A : Nat → Prop}
    (hown : s.vm.findClass own = some m.cls) (hcls : Bundle.fit cls = true) (hnames : ∀ n ∈ names, Bundle.fit n = true)
    (hk : (Cond.classLink own ik cls).before args s = true) (hini : (Cond.initialized cls).before args s = true) (hstr : vk_R own is text sa s) (hat : ∀ w ∈ vx_atS own ic cls names, w.before args s = true)
    (hgood : ∀ w ∈ Cond.classLink own ik cls :: Cond.initialized cls :: vx_atS own ic cls names, vx_ot w = true)
    (hU : vx_Zq Bundle.tN "UNASSIGNED_STACK" Bundle.steD A s s.heap) (hN : vx_Zq Bundle.tN "SUPPRESSED_SENTINEL" Bundle.listD A s s.heap) (hS : va_S A s.heap H locs) (hsize : ls.size = c.maxLocals)
    (d0 : decode cc pc = .ok (.new ik, 3)) (d3 : decode cc (pc + 3) = .ok (.dup, 1)) (d4 : decode cc (pc + 4) = .ok (.ldc_w is, 3)) (d7 : decode cc (pc + 7) = .ok (.invokespecial ic, 3)) (d10 : decode cc (pc + 10) = .ok (.athrow, 1))
    (hout : ∀ x ∈ c.exceptionTable.toList, covers x (pc + 10) = false)
    (hRframes : names.length + 3 < R.frames) (hRlocals : (rest.map fun v => v.category).sum + (13 * (names.length + 1) + 43) ≤ R.locals) (hRcells : cells + 1 ≤ R.cells) (hRslots : slots + 6 ≤ R.slots) (hlocks : meth.locks = false)
    (hx : ∀ t : State, s.vm.Alike t.vm → H.size ≤ t.heap.size → (∀ q : Nat, q < H.size → t.heap[q]? = H[q]?) → XC cls s t)
    (hf : ∀ z ∈ locs, free z.base) (hc : cells + 1 ≤ mc) (hs : slots + 6 ≤ ms) :
    W p l e R s m args below meth c H locs cells slots (vx_MQ below Qc XC args s mc ms free) (F0 m pc ls rest) := by
  intro T hT X
  have htr : e.platform.stackTraces = false := (show e.platform.stackTraces = l.stackTraces by rw [X.admits.platform]).trans hl
  have Y := vx_rebase X (R' := { frames := R.frames, locals := R.locals, cells := 1, slots := 6 }) (Nat.le_refl _) (Nat.le_refl _) hRcells hRslots
  obtain ⟨s', hA⟩ : ∃ z, z = (T.setVm s.vm).setFrames (.invoking m args :: below) := ⟨_, rfl⟩
  rw [← hA] at Y
  have hvm : s'.vm = s.vm := by rw [hA]; rfl
  have hhp : s'.heap = H := by rw [hA]; exact hT
  have hW0 : s.WarmedH s'.vm := by rw [hvm]; exact State.WarmedH.refl s
  have hat' : ∀ w ∈ vx_atS own ic cls names, w.before args s' = true := fun w hw => vx_ot_at hW0 hvm.symm (hgood w (List.mem_cons_of_mem _ (List.mem_cons_of_mem _ hw))) (hat w hw)
  have hk' : (Cond.classLink own ik cls).before args s' = true := vx_ot_at hW0 hvm.symm (hgood _ List.mem_cons_self) hk
  have hini' : (Cond.initialized cls).before args s' = true := vx_ot_at hW0 hvm.symm (hgood _ (List.mem_cons_of_mem _ List.mem_cons_self)) hini
  have hU' : vx_Zq Bundle.tN "UNASSIGNED_STACK" Bundle.steD A s' s'.heap := by rw [hhp]; exact vx_Zq.moved hW0.alike (hU.kept hS.2.1)
  have hN' : vx_Zq Bundle.tN "SUPPRESSED_SENTINEL" Bundle.listD A s' s'.heap := by rw [hhp]; exact vx_Zq.moved hW0.alike (hN.kept hS.2.1)
  have h : ∀ w ∈ Bundle.ownAtoms own ic cls names, w.before args s' = true := vx_own hat' (vx_isRefq hU'.1) (vx_isRefq hN'.1) hU'.2.word hN'.2.word
  have hown' : s'.vm.findClass own = some m.cls := by rw [hvm]; exact hown
  have hins : (Cond.instantiable cls 6).before args s' = true := h _ (by simp [Bundle.ownAtoms])
  obtain ⟨vm₁, cX, kX, hfX, hkX, -, -, X₁, st1⟩ := Y.newCold hexec (own := own) (C := cls) (index := ik) (n := 6) hown' hk' hins hini'
    (g := F0 m pc ls rest) rfl (by rw [hb]; exact d0) (Nat.le_refl _) (Nat.le_refl _)
  generalize hT1 : (T.setVm vm₁).pushCell { cls := cX, slots := kX.instanceTypes.map defaultValue, vm := .none } = T1 at X₁ st1
  have hcat : (Value.ref T.heap.size).category = 1 := rfl
  have hcellA : T1.heap[T.heap.size]? = some (freshCell cX kX) := by rw [← hT1]; exact State.heap_pushCell_size _ _
  have d3' : decode c.code (pc + 3) = .ok (.dup, 1) := by rw [hb]; exact d3
  have d4' : decode c.code (pc + 4) = .ok (.ldc_w is, 3) := by rw [hb]; exact d4
  have hstr' : vk_R own is text sa s' := vk_R.warm hW0 hstr
  obtain ⟨U, hsteps, hrun, hend, hW, hsame, ce, hce, hO⟩ := X₁.ctorThrowS hexec htr (own := own) (cls := cls) (names := names) (ic := ic) hown' hcls hnames h (fun x hx => nomatch hx) hfX hkX hcellA (by rw [hhp, hT]; exact Nat.le_refl _) (msg := .ref sa) rfl
    (g := { method := m, pc := pc + 7, locals := ls, stack := .ref sa :: .ref T.heap.size :: .ref T.heap.size :: rest, locked := none }) rfl hsize rfl rfl (rest := rest) rfl
    (by rw [hb]; exact d7) (by rw [hb]; exact d10) hout hRframes (by simp only [List.map_cons, List.sum_cons, hcat]; omega) hlocks
  obtain ⟨f1, f2⟩ := vx_frame hsame
  rw [hhp] at f1 f2
  have hWs : s.WarmedH U.vm := State.WarmedH.trans hW0 hW
  have hcl : s.vm.findClass cls = some ce.cls := by
    have h9 := hO.cls
    rw [hvm] at h9
    exact h9
  have hall : s.sameButNew ({ U with vm := s.vm } : State) locs mc ms := by
    subst hA
    obtain ⟨e1, e2⟩ := hsame
    rw [State.setFrames_setFrames] at e1
    have h2 : (T.setVm s.vm).sameButNew ({ U with vm := s.vm } : State) [] (0 + 1) (0 + 6) := ⟨e1, e2⟩
    have h3 := X.same.trans h2
    rw [List.append_nil] at h3
    exact h3.mono hc hs
  refine ⟨U, ?_, .threw T.heap.size, hrun, hend, Or.inr ⟨T.heap.size, rfl, cls, ce, locs, hx U hWs.alike f1 (fun q hq => f2 q hq (fun z hz => nomatch hz)), hce, hO.vm, hcl, hWs, hall, hf⟩⟩
  refine st1 _ ?_
  show Steps p.tables e below (T1.setTop { method := m, pc := pc + 3, locals := ls, stack := .ref T.heap.size :: rest, locked := none }) _
  jvm_step X₁.here [X₁.here.top, hexec, d3', Value.category]
  exact X₁.ldcStringW hexec (own := own) (text := text) (index := is) (a := sa) hown' hstr'.1 hstr'.2
    (g := { method := m, pc := pc + 4, locals := ls, stack := .ref T.heap.size :: .ref T.heap.size :: rest, locked := none }) rfl d4' _ hsteps
end Ends
section Bodies
variable {l : Launch}
theorem vx_ofW {y : MethodName} {ws ws' : List Cond} {rm : Room} {Pc : Array Value → State → Prop} {Qc : Array Value → State → Outcome → State → Prop} {XC : String → State → State → Prop} {mc ms : Nat} {free : Addr → Prop} {cc : ByteArray} {maxL : Nat} {ret : Option FieldType}
    (hy : plainName y.cls = true) (hw : ws = Cond.code y cc maxL ret :: ws')
    (body : ∀ p e s m args below meth c s₁, BodyLoose p l y (headSpec ws rm) cc maxL ret e s m args below meth c s₁ → c.maxLocals = maxL → (∀ x ∈ c.exceptionTable.toList, False) → Pc args s →
      W p l e (headSpec ws rm).room s m args below meth c s.heap [] 0 0 (vx_MQ below Qc XC args s mc ms free) (entryFrame m args maxL)) : vx_Met l y ws rm Pc Qc XC mc ms free := by
  refine MetFree.of_bodyS (code := cc) (maxLocals := maxL) (ret := ret) hy ?_ ?_
  · intro args s m h hn
    obtain ⟨meth, c, h1, h2, h3, h4, h5, h6, -, -⟩ := Cond.code_spec hn (atoms_spec (ws := ws) h _ (by rw [hw]; exact List.mem_cons_self))
    exact ⟨meth, c, h1, h2, h3, h4, h5, h6⟩
  · intro p e s m args below meth c s₁ B hml hP _
    have hh0 : s₁.heap = s.heap := by rw [B.state]; rfl
    have ht : ∀ x ∈ c.exceptionTable.toList, False := by
      obtain ⟨meth9, c9, h1, h2, -, -, -, -, h7, -⟩ := Cond.code_spec B.named (atoms_spec (ws := ws) B.pre _ (by rw [hw]; exact List.mem_cons_self))
      cases Option.some.inj (h1.symm.trans B.method)
      cases Option.some.inj (h2.symm.trans (Stand.of_body B).code)
      intro x hx
      rw [Array.isEmpty_iff.mp h7] at hx
      cases hx
    obtain ⟨t, a1, o, b1, b2, b3⟩ := body p e s m args below meth c s₁ B hml ht hP s₁ hh0 (Stand.of_body B)
    exact ⟨t, o, a1, b1, b2, b3⟩
theorem vx_table {p : Program} {x y : MethodName} {S : Spec} {cc bytes : ByteArray} {maxL maxL' : Nat} {ret ret' : Option FieldType} {e : Env} {s s₁ : State} {m : MethodId} {args : Array Value} {below : List Frame} {meth : Method} {c : Code} {hh : List (Nat × Nat × Nat × Nat)}
    (B : BodyLoose p l y S cc maxL ret e s m args below meth c s₁) (h : (Cond.codeWith y bytes maxL' ret' hh).before args s = true) : c.exceptionTable.toList = tableOf hh := by
  obtain ⟨m9, meth9, c9, hn9, h1, h2, -, -, h6, -⟩ := Cond.codeWith_spec h
  cases Option.some.inj (hn9.symm.trans B.named)
  cases Option.some.inj (h1.symm.trans B.method)
  cases Option.some.inj (h2.symm.trans (Stand.of_body B).code)
  rw [← h6, table_eq]
end Bodies
end VXA
section VXS
variable {p : Program} {l : Launch} {e : Env} {R : Room} {s : State} {m : MethodId} {args : Array Value} {below : List Frame} {meth : Method} {c : Code} {T : State} {H : Heap} {locs : List Loc} {cells slots : Nat}
abbrev vx_CSW (R : Room) (s : State) (args : Array Value) (own : String) (index : Nat) (y : MethodName) (bytes : ByteArray) (maxL : Nat) (ret : Option FieldType) (hh : List (Nat × Nat × Nat × Nat)) (ws : List Cond) (rm : Room) (mc ms n : Nat) : Prop :=
  (rm.cells = mc ∧ rm.slots = ms ∧ rm.frames + 1 ≤ R.frames ∧ 8 + (maxL + 11) + rm.locals ≤ R.locals ∧ (∀ w ∈ ws, ∀ (a' : Array Value) (U : State), s.WarmedH U.vm → w.before a' U = true) ∧ Cond.codeWith y bytes maxL ret hh ∈ ws) ∧
  (Cond.codeWith y bytes maxL ret hh).before args s = true ∧ (Cond.initialized y.cls).before args s = true ∧ (y.cls ≠ "java/lang/invoke/MethodHandle" ∧ y.cls ≠ "java/lang/invoke/VarHandle") ∧
  (∀ sig, parseMethodDescriptor y.desc = some sig → n = sig.parameters.length) ∧ (Cond.methodLink own index y).before args s = true ∧ (Cond.static y).before args s = true
theorem vx_cwSW {own : String} {index maxL mc ms : Nat} {y : MethodName} {bytes : ByteArray} {ret : Option FieldType} {hh : List (Nat × Nat × Nat × Nat)} {Ts ws ws' : List Cond} {rm : Room} (n : Nat) (ht : ∀ w ∈ Ts, w.before args s = true) (hT : GoodIn Ts (va_wsS own index y ws)) (hw : ws = Cond.codeWith y bytes maxL ret hh :: ws') (hrc : rm.cells = mc) (hrs : rm.slots = ms)
    (hd : y.cls ≠ "java/lang/invoke/MethodHandle" ∧ y.cls ≠ "java/lang/invoke/VarHandle" ∧ (parseMethodDescriptor y.desc).map (fun d => d.parameters.length) = some n) (hR : rm.frames + 1 ≤ R.frames ∧ 8 + (maxL + 11) + rm.locals ≤ R.locals) :
    vx_CSW R s args own index y bytes maxL ret hh ws rm mc ms n := by
  have ok : ∀ w ∈ va_wsS own index y ws, w.before args s = true := fun w h => ht w (hT w h).1
  have hG : GoodIn Ts ws := fun w h => hT w (by unfold va_wsS; exact List.mem_append_right _ h)
  have hc : Cond.codeWith y bytes maxL ret hh ∈ ws := by rw [hw]; exact List.mem_cons_self
  refine ⟨⟨hrc, hrs, hR.1, hR.2, pay_in ht hG, hc⟩, ht _ (hG _ hc).1, ok _ (by simp [va_wsS]), ⟨hd.1, hd.2.1⟩, fun sig h => ?_, ok _ (by simp [va_wsS]), ok _ (by simp [va_wsS])⟩
  have h2 := hd.2.2
  rw [h] at h2
  exact (Option.some.inj h2).symm
theorem vx_callSW (X : Stand p l e R s m args below meth c T locs cells slots) (hexec : p.tables.exec = Jvm.exec) {own : String} {index : Nat} {y : MethodName} {bytes : ByteArray} {maxL : Nat} {ret : Option FieldType} {hh : List (Nat × Nat × Nat × Nat)}
    (hown : s.vm.findClass own = some m.cls) (hlink : (Cond.methodLink own index y).before args s = true) (hstat : (Cond.static y).before args s = true) (hinit : (Cond.initialized y.cls).before args s = true)
    (hcode : (Cond.codeWith y bytes maxL ret hh).before args s = true) (hy : y.cls ≠ "java/lang/invoke/MethodHandle" ∧ y.cls ≠ "java/lang/invoke/VarHandle")
    {W9 : Nat} {Pre : Pt → Array Value → Prop} {Post : Pt → Array Value → Option Value → Pt → Prop} (hK : Back l R p e below s args y 3 W9 Pre Post)
    {g : JFrame} (hg : g.method = m) (hsize : g.locals.size = c.maxLocals) {argsL rest : List Value} (hlen : ∀ sig, parseMethodDescriptor y.desc = some sig → argsL.length = sig.parameters.length)
    (hstack : g.stack = argsL.reverse ++ rest) (hW : 2 * g.monitorRoom + (rest.map fun v => v.category).sum ≤ W9) (hdg : decode c.code g.pc = .ok (.invokestatic index, 3))
    (hpre : ∀ vm₁, s.WarmedH vm₁ → Pre ⟨T.setVm vm₁, locs, cells, slots⟩ argsL.toArray) :
    ∃ (v : Option Value) (vm₁ : Vm) (B : Pt), s.WarmedH vm₁ ∧ Stand p l e R s m args below meth c B.U B.locs B.cells B.slots ∧ Post ⟨T.setVm vm₁, locs, cells, slots⟩ argsL.toArray v B ∧
      ∀ target, Steps p.tables e below (B.U.setTop { g with pc := g.pc + 3, stack := v.toList ++ rest }) target → Steps p.tables e below (T.setTop g) target := by
  obtain ⟨mk, methM, cM, hnamed, hmethM, -, -, -, -, -, -, hsigM⟩ := Cond.codeWith_spec hcode
  have hstatic : methM.isStatic = true := Cond.static_spec hnamed hmethM hstat
  obtain ⟨kP, hkP, -⟩ := className_of_methodNamed hnamed
  have hinitP : kP.init = .initialized := Cond.initialized_spec (findClass_of_methodNamed hnamed) hkP hinit
  obtain ⟨vm₁, X₁, hstep₁⟩ := X.invokestatic hexec hown hlink hnamed hmethM hstatic hkP hinitP hy (g := g) hg (argsL := argsL) (rest := rest) (hlen _ hsigM) hstack hdg
  obtain ⟨v, B, X', hpost, hsteps⟩ := hK m meth c ⟨T.setVm vm₁, locs, cells, slots⟩ { g with stack := rest } (.invokestatic index) mk argsL.toArray X₁ hg hsize hdg hW (X₁.named hnamed) (hpre vm₁ X₁.warmed)
  exact ⟨v, vm₁, B, X₁.warmed, X', hpost, fun target h => hstep₁ _ fun acts => by rw [doInvoke_state]; exact hsteps.trans h⟩
theorem vx_runSW {y : MethodName} {bytes cc : ByteArray} {maxL nL mc ms n index : Nat} {ret : Option FieldType} {hh : List (Nat × Nat × Nat × Nat)} {ws : List Cond} {rm : Room} {Pc : Array Value → State → Prop} {Qc : Array Value → State → Outcome → State → Prop} {free : Addr → Prop} {Ts : List Cond} {own : String} {As rest : List Value} {g : JFrame}
    (S : CallFix p m c cc nL s args Ts own) (hM : Met l y ws rm Pc Qc mc ms free) (cw : vx_CSW R s args own index y bytes maxL ret hh ws rm mc ms n) (hp : PreS s H Pc As)
    (hg : g.method = m) (hn : As.length = n) (hsize : g.locals.size = nL) (hstack : g.stack = As.reverse ++ rest) (hW : 2 * g.monitorRoom + (rest.map fun v => v.category).sum ≤ 8) (hdg : decode cc g.pc = .ok (.invokestatic index, 3)) (hf : cells + mc ≤ R.cells ∧ slots + ms ≤ R.slots) :
    va_Run p l e R s m args below meth c H locs cells slots mc ms g rest (Qc As.toArray) (free) := by
  obtain ⟨⟨hrc, hrs, hfr, hlo, hws, hcw⟩, hcode, hini, hy, hlen, hl, hstt⟩ := cw
  have hK : Back l R p e below s args y 3 8 (PreOf R mc ms Pc) (PostOf Qc mc ms free) := va_backW (hh := hh) (bytes := bytes) (maxL := maxL) (ret := ret) hM hp.1 hrc hrs hfr hlo hws hcw (fun a' U hW => word_at hW (Or.inl (by first | rfl | simp [Cond.onTables, Cond.keeps, Cond.steady])) hini)
  obtain ⟨hx, hb, hml, ho, -⟩ := S
  intro T hT X
  obtain ⟨v, vm₁, ⟨U', l2, c2, s2⟩, hW₁, X', ⟨g', mk, t, L, e1, e2, hq, h1, hL, h2, h3⟩, st⟩ := vx_callSW X hx (hh := hh) (bytes := bytes) (maxL := maxL) (ret := ret) ho hl hstt hini hcode hy hK hg (hsize.trans hml.symm) (argsL := As) (rest := rest) (fun sig h => hn.trans (hlen sig h)) hstack hW (by rw [hb]; exact hdg)
    (fun vm₁ hW₁ => ⟨hf.1, hf.2, hp.2 (T.setVm vm₁) hT hW₁⟩)
  dsimp only [Pt.U, Pt.locs, Pt.cells, Pt.slots] at X' e1 e2 h1 h2 h3 st
  subst h1; subst h2; subst h3
  exact ⟨v, (T.setVm vm₁).calling g' mk As.toArray, t, U', L, hT, X', hL, e1, e2, hq, st⟩
theorem vx_outP {p : Program} {l : Launch} {e : Env} {R : Room} {s : State} {m : MethodId} {args : Array Value} {below : List Frame} {meth : Method} {c : Code} {H : Heap} {locs : List Loc} {cells slots : Nat} {free : Addr → Prop} {ls : Array Slot} {rest : List Value} {Qc : Array Value → State → Outcome → State → Prop} {XC : String → State → State → Prop}
    {pc : Nat} {own E : String} {ce : Cell} {q : Addr} {mc ms : Nat} (hown : s.vm.findClass own = some m.cls) (hlocks : meth.locks = false)
    (hpass : ∀ z ∈ c.exceptionTable.toList, covers z pc = false ∨ (z.catchType ≠ 0 ∧ ∃ nm : String, (Cond.classLink own z.catchType nm).before args s = true ∧ va_Nc E nm s)) (hcell : H[q]? = some ce) (hv : ce.vm = .none) (hcl : s.vm.findClass E = some ce.cls)
    (hx : ∀ t : State, t.heap = H → s.vm.Alike t.vm → XC E s t) (hf : ∀ z ∈ locs, free z.base) (hc : cells ≤ mc) (hs : slots ≤ ms) :
    vx_W p l e R s m args below meth c H locs cells slots (vx_MQ below Qc XC args s mc ms free) (F0 m pc ls rest) q := by
  intro T hT X
  have hpl : e.platform.magicAccessors = ({} : Platform).magicAccessors := by rw [X.admits.platform]
  obtain ⟨vm', hW', X', st⟩ := X.outThrough hlocks q (g := F0 m pc ls rest) rfl rfl rfl (cell := ce) (by rw [hT]; exact hcell) (by rw [hv]; rfl)
    (by obtain ⟨k9, h9, -⟩ := Vm.findClass_spec hcl; exact ⟨k9, h9⟩) (fun z hz => by
      rcases hpass z hz with h | ⟨hz0, nm, hl1, hn1⟩
      · exact Or.inl h
      · obtain ⟨c6, hc6, hcl6⟩ := Cond.classLink_spec hown hl1 e.platform hpl
        obtain ⟨a8, b8, h1, h2, h3⟩ := hn1
        cases Option.some.inj (h1.symm.trans hcl)
        cases Option.some.inj (h2.symm.trans hc6)
        exact Or.inr ⟨hz0, _, hcl6, h3⟩)
  obtain ⟨g₀, hfr⟩ := X'.frames_eq
  have hcell9 : ((T.setVm vm').setFrames (.throwing q :: below)).heap[q]? = some ce := by
    show T.heap[q]? = some ce
    rw [hT]; exact hcell
  have hend : Ended ((T.setVm vm').setFrames (.throwing q :: below)) below (.threw q) := State.frames_setFrames _ (State.cur_lt_of_frames hfr)
  refine ⟨(T.setVm vm').setFrames (.throwing q :: below), ?_, .threw q, X'.here.running, hend, Or.inr ⟨q, rfl, E, ce, locs, hx _ hT (X'.ends _).1.alike, hcell9, hv, hcl, (X'.ends _).1, (X'.ends _).2.mono hc hs, hf⟩⟩
  rw [X.pushThrowing_eq]
  exact st
theorem vx_lt {D : va_G} {cl : List vw_C} {ws : va_W} {H1 : Heap} (h : va_P D cl ws H1) {k : Nat} {q : Nat × va_E} (hk : ws[k]? = some q) : q.1 < H1.size := (h k q hk).lt
end VXS
section VXH
section
variable {l : Launch} {R : Room} {p : Program} {e : Env} {below : List Frame} {s : State} {sargs : Array Value} {y : MethodName} {len W9 : Nat}
theorem vx_backW {ws : List Cond} {rm : Room} {Pc : Array Value → State → Prop} {Qc : Array Value → State → Outcome → State → Prop} {XC : String → State → State → Prop} {mc ms : Nat} {free : Addr → Prop} {bytes : ByteArray} {maxL : Nat} {ret : Option FieldType} {hh : List (Nat × Nat × Nat × Nat)}
    (hM : vx_Met l y ws rm Pc Qc XC mc ms free) (hblind : FrameBlind Pc) (hrc : rm.cells = mc) (hrs : rm.slots = ms)
    (hframes : rm.frames + 1 ≤ R.frames) (hlocals : W9 + (maxL + 11) + rm.locals ≤ R.locals)
    (hws : ∀ w ∈ ws, ∀ a' U, s.WarmedH U.vm → w.before a' U = true) (hcode : Cond.codeWith y bytes maxL ret hh ∈ ws) (hinit : ∀ a' U, s.WarmedH U.vm → (Cond.initialized y.cls).before a' U = true) :
    vx_Back l R p e below s sargs y len W9 (PreOf R mc ms Pc) (PostOf Qc mc ms free) (vx_Post XC mc ms free) := by
  intro m meth c A g ig mk a X hg hsize hdg hW hn hp
  have h1 : (headSpec ws rm).pre.before a A.U = true := atoms_intro fun w hw => hws w hw _ _ X.warmed
  have h2 : (Cond.codeWith y bytes maxL ret hh).before a A.U = true := hws _ hcode _ _ X.warmed
  have h3 : (Cond.initialized y.cls).before a A.U = true := hinit _ _ X.warmed
  have h4 : A.cells + (headSpec ws rm).room.cells ≤ R.cells := by rw [show (headSpec ws rm).room.cells = mc from hrc]; exact hp.1
  have h5 : A.slots + (headSpec ws rm).room.slots ≤ R.slots := by rw [show (headSpec ws rm).room.slots = ms from hrs]; exact hp.2.1
  have hPc : Pc a (A.U.calling g mk a) := hblind _ _ _ _ hp.2.2
  obtain ⟨U, Ls, c0, s0⟩ := A
  dsimp only [Pt.U, Pt.locs, Pt.cells, Pt.slots] at h1 h2 h3 h4 h5 X hn hPc ⊢
  obtain ⟨m9, methY, cY, hn9, hmY, hcY, -, hlY, -⟩ := Cond.codeWith_spec h2
  cases Option.some.inj (hn9.symm.trans hn)
  obtain ⟨kY, hkY, -⟩ := className_of_methodNamed hn
  have hinitY : kY.init = .initialized := Cond.initialized_spec (findClass_of_methodNamed hn) hkY h3
  have h : At U g.method c below := by rw [hg]; exact X.here
  have hlocals9 : W9 + (maxL + 11) + (headSpec ws rm).room.locals ≤ R.locals := hlocals
  have happ : (headSpec ws rm).appliesLoose y e.platform (U.calling g mk a) = true :=
    Spec.appliesLoose_calling (g := g) h hdg hn hkY hinitY
      (X.room_calling (g := g) (R' := (headSpec ws rm).room) hsize hmY hcY hframes (by rw [hlY]; omega) h4 h5) h1
  obtain ⟨mid, hmid⟩ := h.above
  have hfr : (U.setTop g).frames = (.java g :: mid) ++ below := by rw [State.frames_setTop' g h.top, hmid]; rfl
  obtain ⟨o, s₂, hsteps, -, hend, hq⟩ := Steps.callFree hM p X.admits X.cas X.clock (acts := []) hfr happ hPc trivial
  have hq' : vx_Q Qc XC mc ms free a (U.calling g mk a) o s₂ := hq
  rw [State.frames_setTop' g h.top] at hend
  obtain ⟨g₀, hg0⟩ := Option.isSome_iff_exists.mp h.top
  obtain ⟨r, hr⟩ := State.topJava?_eq_some.mp hg0
  have hr' : (({ U with heap := s₂.heap, slotsUsed := s₂.slotsUsed } : State).setVm s₂.vm).frames = .java g₀ :: r := hr
  rcases hq' with ⟨hqc, L, hfe, hL⟩ | ⟨q, rfl, E, ce, L, hx, hce, hcv, hcl, hW₂, hsm, hL⟩
  · obtain ⟨⟨v, rfl⟩, hW₂, e2, q2, q3, q4, q5, q6⟩ := id hfe
    have e3 : s₂ = ({ (U.calling g mk a).setFrames s₂.frames with heap := s₂.heap, slotsUsed := s₂.slotsUsed } : State).setVm s₂.vm := by
      have : s₂ = ({ s₂ with vm := (U.calling g mk a).vm } : State).setVm s₂.vm := rfl
      rw [e2] at this
      exact this
    obtain ⟨c₂, i₂, len₂, hc₂, hd₂, hf₂⟩ := hend
    have hW' : U.WarmedH s₂.vm := hW₂
    have hcc : c₂ = c := by
      have h1 : s₂.code? g.method = U.code? g.method := by
        rw [State.code?_eq, State.code?_eq, hW'.alike.method?]
      exact Option.some.inj (hc₂.symm.trans (h1.trans h.code))
    subst hcc
    have hlen : len₂ = len := by rw [hdg] at hd₂; cases hd₂; rfl
    subst hlen
    have hs₂ : s₂ = (({ U with heap := s₂.heap, slotsUsed := s₂.slotsUsed } : State).setVm s₂.vm).setTop { g with pc := g.pc + len₂, stack := v.toList ++ g.stack } := by
      refine e3.trans ?_
      rw [hf₂, State.calling_eq h.top, State.setFrames_setFrames, State.setTop_of_frames _ hr', hr]
      rfl
    have hsame : U.sameButNew ({ U with heap := s₂.heap, slotsUsed := s₂.slotsUsed } : State) L mc ms := by
      refine ⟨?_, q2, q3, q4, q5, q6⟩
      obtain ⟨t, ht, -⟩ := State.frames_cons hr
      show ({ U with heap := s₂.heap, slotsUsed := s₂.slotsUsed } : State) = { U.setFrames U.frames with heap := s₂.heap, slotsUsed := s₂.slotsUsed }
      rw [State.setFrames_self ht]
    subst hg
    refine Or.inl ⟨v, ⟨(({ U with heap := s₂.heap, slotsUsed := s₂.slotsUsed } : State).setVm s₂.vm), Ls ++ L, c0 + mc, s0 + ms⟩,
      ⟨X.admits, X.cas, X.clock, X.frames, X.room, X.hears, X.method, X.code, (X.here.setHeapUsed s₂.heap s₂.slotsUsed).setVm hW'.alike, X.tail, State.WarmedH.trans X.warmed hW', X.limits, X.bytes, X.same.trans (hsame.setVm s.vm)⟩,
      ⟨g, mk, s₂, L, rfl, rfl, hqc, rfl, hL, rfl, rfl⟩, ?_⟩
    show Steps p.tables e below _ ((({ U with heap := s₂.heap, slotsUsed := s₂.slotsUsed } : State).setVm s₂.vm).setTop { g with pc := g.pc + len₂, stack := v.toList ++ g.stack })
    rw [← hs₂]
    exact hsteps
  · obtain ⟨e2, q2, q3, q4, q5, q6⟩ := id hsm
    have e3 : s₂ = ({ (U.calling g mk a).setFrames s₂.frames with heap := s₂.heap, slotsUsed := s₂.slotsUsed } : State).setVm s₂.vm := by
      have : s₂ = ({ s₂ with vm := (U.calling g mk a).vm } : State).setVm s₂.vm := rfl
      rw [e2] at this
      exact this
    have hf₂ : s₂.frames = .throwing q :: .java g :: U.frames.tail := hend
    have hW' : U.WarmedH s₂.vm := hW₂
    have hs₂ : s₂ = ((({ U with heap := s₂.heap, slotsUsed := s₂.slotsUsed } : State).setVm s₂.vm).setTop g).pushFrame (.throwing q) := by
      refine e3.trans ?_
      rw [hf₂, State.calling_eq h.top, State.setFrames_setFrames, State.pushFrame, State.frames_setTop _ hr', State.setTop_of_frames _ hr', State.setFrames_setFrames, hr]
      rfl
    have hsame : U.sameButNew ({ U with heap := s₂.heap, slotsUsed := s₂.slotsUsed } : State) L mc ms := by
      refine ⟨?_, q2, q3, q4, q5, q6⟩
      obtain ⟨t, ht, -⟩ := State.frames_cons hr
      show ({ U with heap := s₂.heap, slotsUsed := s₂.slotsUsed } : State) = { U.setFrames U.frames with heap := s₂.heap, slotsUsed := s₂.slotsUsed }
      rw [State.setFrames_self ht]
    subst hg
    refine Or.inr ⟨q, ⟨(({ U with heap := s₂.heap, slotsUsed := s₂.slotsUsed } : State).setVm s₂.vm), Ls ++ L, c0 + mc, s0 + ms⟩,
      ⟨X.admits, X.cas, X.clock, X.frames, X.room, X.hears, X.method, X.code, (X.here.setHeapUsed s₂.heap s₂.slotsUsed).setVm hW'.alike, X.tail, State.WarmedH.trans X.warmed hW', X.limits, X.bytes, X.same.trans (hsame.setVm s.vm)⟩,
      ⟨g, mk, s₂, L, E, ce, rfl, rfl, hx, hce, hcv, hcl, rfl, hL, rfl, rfl⟩, ?_⟩
    show Steps p.tables e below _ (((({ U with heap := s₂.heap, slotsUsed := s₂.slotsUsed } : State).setVm s₂.vm).setTop g).pushFrame (.throwing q))
    rw [← hs₂]
    exact hsteps
end
variable {p : Program} {l : Launch} {e : Env} {R : Room} {s : State} {m : MethodId} {args : Array Value} {below : List Frame} {meth : Method} {c : Code} {T : State} {H : Heap} {locs : List Loc} {cells slots : Nat}
theorem vx_callVX (X : Stand p l e R s m args below meth c T locs cells slots) (hexec : p.tables.exec = Jvm.exec) {own C : String} {index : Nat} {y : MethodName} {bytes : ByteArray} {maxL : Nat} {ret : Option FieldType} {hh : List (Nat × Nat × Nat × Nat)}
    (hown : s.vm.findClass own = some m.cls) (hlink : (Cond.methodLink own index y).before args s = true) (hinst : (Cond.instanceMethod y).before args s = true) (hsel : (Cond.selects C y y).before args s = true)
    (hcode : (Cond.codeWith y bytes maxL ret hh).before args s = true) (hy : y.cls ≠ "java/lang/invoke/MethodHandle" ∧ y.cls ≠ "java/lang/invoke/VarHandle")
    {W9 : Nat} {Pre : Pt → Array Value → Prop} {Post : Pt → Array Value → Option Value → Pt → Prop} {PostX : Pt → Array Value → Addr → Pt → Prop} (hK : vx_Back l R p e below s args y 3 W9 Pre Post PostX)
    {b : Addr} {cellB : Cell} (hcell : T.heap[b]? = some cellB) (hobj : cellB.vm.isStatics = false) (hcls : s.vm.findClass C = some cellB.cls)
    {g : JFrame} (hg : g.method = m) (hsize : g.locals.size = c.maxLocals) {argsL rest : List Value} (hlen : ∀ sig, parseMethodDescriptor y.desc = some sig → argsL.length = sig.parameters.length)
    (hstack : g.stack = argsL.reverse ++ .ref b :: rest) (hW : 2 * g.monitorRoom + (rest.map fun v => v.category).sum ≤ W9) (hdg : decode c.code g.pc = .ok (.invokevirtual index, 3))
    (hpre : ∀ vm₁, s.WarmedH vm₁ → Pre ⟨T.setVm vm₁, locs, cells, slots⟩ (Value.ref b :: argsL).toArray) :
    (∃ (v : Option Value) (vm₁ : Vm) (B : Pt), s.WarmedH vm₁ ∧ Stand p l e R s m args below meth c B.U B.locs B.cells B.slots ∧ Post ⟨T.setVm vm₁, locs, cells, slots⟩ (Value.ref b :: argsL).toArray v B ∧
      ∀ target, Steps p.tables e below (B.U.setTop { g with pc := g.pc + 3, stack := v.toList ++ rest }) target → Steps p.tables e below (T.setTop g) target) ∨
    (∃ (q : Addr) (vm₁ : Vm) (B : Pt), s.WarmedH vm₁ ∧ Stand p l e R s m args below meth c B.U B.locs B.cells B.slots ∧ PostX ⟨T.setVm vm₁, locs, cells, slots⟩ (Value.ref b :: argsL).toArray q B ∧
      Steps p.tables e below (T.setTop g) ((B.U.setTop { g with stack := rest }).pushFrame (.throwing q))) := by
  obtain ⟨mk, methM, hnamed, hmethM, hstM, habM⟩ := Cond.instanceMethod_spec hinst
  obtain ⟨m8, methM', cM, hn8, hmethM', -, -, -, -, -, -, hsigM⟩ := Cond.codeWith_spec hcode
  cases Option.some.inj (hn8.symm.trans hnamed)
  cases hmethM.symm.trans hmethM'
  obtain ⟨c2, r2, m2, q1, q2, q3, q4, kP, hkP, hkPi⟩ := Cond.selects_spec hsel
  cases hcls.symm.trans q1
  cases (State.methodFound?_of_named hnamed hy).symm.trans q2
  cases hnamed.symm.trans q3
  have hselP : selectMethod e.platform s.vm cellB.cls mk = .method mk := by rw [Launch.admits_selectMethod X.admits]; exact q4
  obtain ⟨vm₁, X₁, hstep₁⟩ := X.invokevirtual hexec hown hlink hnamed hmethM hstM hkP hkPi hy (a := b) (cell := cellB) hcell
    (fun z h => by rw [h] at hobj; cases hobj) hselP hmethM habM hkP hkPi (g := g) hg (argsL := argsL) (rest := rest) (hlen _ hsigM) hstack hdg
  rcases hK m meth c ⟨T.setVm vm₁, locs, cells, slots⟩ { g with stack := rest } (.invokevirtual index) mk (Value.ref b :: argsL).toArray X₁ hg hsize hdg hW (X₁.named hnamed) (hpre vm₁ X₁.warmed) with ⟨v, B, X', hpost, hsteps⟩ | ⟨q, B, X', hpost, hsteps⟩
  · exact Or.inl ⟨v, vm₁, B, X₁.warmed, X', hpost, fun target h => hstep₁ _ fun acts => by rw [doInvoke_state]; exact hsteps.trans h⟩
  · exact Or.inr ⟨q, vm₁, B, X₁.warmed, X', hpost, hstep₁ _ fun acts => by rw [doInvoke_state]; exact hsteps⟩
theorem vx_callSX (X : Stand p l e R s m args below meth c T locs cells slots) (hexec : p.tables.exec = Jvm.exec) {own : String} {index : Nat} {y : MethodName} {bytes : ByteArray} {maxL : Nat} {ret : Option FieldType} {hh : List (Nat × Nat × Nat × Nat)}
    (hown : s.vm.findClass own = some m.cls) (hlink : (Cond.methodLink own index y).before args s = true) (hstat : (Cond.static y).before args s = true) (hinit : (Cond.initialized y.cls).before args s = true)
    (hcode : (Cond.codeWith y bytes maxL ret hh).before args s = true) (hy : y.cls ≠ "java/lang/invoke/MethodHandle" ∧ y.cls ≠ "java/lang/invoke/VarHandle")
    {W9 : Nat} {Pre : Pt → Array Value → Prop} {Post : Pt → Array Value → Option Value → Pt → Prop} {PostX : Pt → Array Value → Addr → Pt → Prop} (hK : vx_Back l R p e below s args y 3 W9 Pre Post PostX)
    {g : JFrame} (hg : g.method = m) (hsize : g.locals.size = c.maxLocals) {argsL rest : List Value} (hlen : ∀ sig, parseMethodDescriptor y.desc = some sig → argsL.length = sig.parameters.length)
    (hstack : g.stack = argsL.reverse ++ rest) (hW : 2 * g.monitorRoom + (rest.map fun v => v.category).sum ≤ W9) (hdg : decode c.code g.pc = .ok (.invokestatic index, 3))
    (hpre : ∀ vm₁, s.WarmedH vm₁ → Pre ⟨T.setVm vm₁, locs, cells, slots⟩ argsL.toArray) :
    (∃ (v : Option Value) (vm₁ : Vm) (B : Pt), s.WarmedH vm₁ ∧ Stand p l e R s m args below meth c B.U B.locs B.cells B.slots ∧ Post ⟨T.setVm vm₁, locs, cells, slots⟩ argsL.toArray v B ∧
      ∀ target, Steps p.tables e below (B.U.setTop { g with pc := g.pc + 3, stack := v.toList ++ rest }) target → Steps p.tables e below (T.setTop g) target) ∨
    (∃ (q : Addr) (vm₁ : Vm) (B : Pt), s.WarmedH vm₁ ∧ Stand p l e R s m args below meth c B.U B.locs B.cells B.slots ∧ PostX ⟨T.setVm vm₁, locs, cells, slots⟩ argsL.toArray q B ∧
      Steps p.tables e below (T.setTop g) ((B.U.setTop { g with stack := rest }).pushFrame (.throwing q))) := by
  obtain ⟨mk, methM, cM, hnamed, hmethM, -, -, -, -, -, -, hsigM⟩ := Cond.codeWith_spec hcode
  have hstatic : methM.isStatic = true := Cond.static_spec hnamed hmethM hstat
  obtain ⟨kP, hkP, -⟩ := className_of_methodNamed hnamed
  have hinitP : kP.init = .initialized := Cond.initialized_spec (findClass_of_methodNamed hnamed) hkP hinit
  obtain ⟨vm₁, X₁, hstep₁⟩ := X.invokestatic hexec hown hlink hnamed hmethM hstatic hkP hinitP hy (g := g) hg (argsL := argsL) (rest := rest) (hlen _ hsigM) hstack hdg
  rcases hK m meth c ⟨T.setVm vm₁, locs, cells, slots⟩ { g with stack := rest } (.invokestatic index) mk argsL.toArray X₁ hg hsize hdg hW (X₁.named hnamed) (hpre vm₁ X₁.warmed) with ⟨v, B, X', hpost, hsteps⟩ | ⟨q, B, X', hpost, hsteps⟩
  · exact Or.inl ⟨v, vm₁, B, X₁.warmed, X', hpost, fun target h => hstep₁ _ fun acts => by rw [doInvoke_state]; exact hsteps.trans h⟩
  · exact Or.inr ⟨q, vm₁, B, X₁.warmed, X', hpost, hstep₁ _ fun acts => by rw [doInvoke_state]; exact hsteps⟩
theorem vx_callVW (X : Stand p l e R s m args below meth c T locs cells slots) (hexec : p.tables.exec = Jvm.exec) {own C : String} {index : Nat} {y : MethodName} {bytes : ByteArray} {maxL : Nat} {ret : Option FieldType} {hh : List (Nat × Nat × Nat × Nat)}
    (hown : s.vm.findClass own = some m.cls) (hlink : (Cond.methodLink own index y).before args s = true) (hinst : (Cond.instanceMethod y).before args s = true) (hsel : (Cond.selects C y y).before args s = true)
    (hcode : (Cond.codeWith y bytes maxL ret hh).before args s = true) (hy : y.cls ≠ "java/lang/invoke/MethodHandle" ∧ y.cls ≠ "java/lang/invoke/VarHandle")
    {W9 : Nat} {Pre : Pt → Array Value → Prop} {Post : Pt → Array Value → Option Value → Pt → Prop} (hK : Back l R p e below s args y 3 W9 Pre Post)
    {b : Addr} {cellB : Cell} (hcell : T.heap[b]? = some cellB) (hobj : cellB.vm.isStatics = false) (hcls : s.vm.findClass C = some cellB.cls)
    {g : JFrame} (hg : g.method = m) (hsize : g.locals.size = c.maxLocals) {argsL rest : List Value} (hlen : ∀ sig, parseMethodDescriptor y.desc = some sig → argsL.length = sig.parameters.length)
    (hstack : g.stack = argsL.reverse ++ .ref b :: rest) (hW : 2 * g.monitorRoom + (rest.map fun v => v.category).sum ≤ W9) (hdg : decode c.code g.pc = .ok (.invokevirtual index, 3))
    (hpre : ∀ vm₁, s.WarmedH vm₁ → Pre ⟨T.setVm vm₁, locs, cells, slots⟩ (Value.ref b :: argsL).toArray) :
    ∃ (v : Option Value) (vm₁ : Vm) (B : Pt), s.WarmedH vm₁ ∧ Stand p l e R s m args below meth c B.U B.locs B.cells B.slots ∧ Post ⟨T.setVm vm₁, locs, cells, slots⟩ (Value.ref b :: argsL).toArray v B ∧
      ∀ target, Steps p.tables e below (B.U.setTop { g with pc := g.pc + 3, stack := v.toList ++ rest }) target → Steps p.tables e below (T.setTop g) target := by
  obtain ⟨mk, methM, hnamed, hmethM, hstM, habM⟩ := Cond.instanceMethod_spec hinst
  obtain ⟨m8, methM', cM, hn8, hmethM', -, -, -, -, -, -, hsigM⟩ := Cond.codeWith_spec hcode
  cases Option.some.inj (hn8.symm.trans hnamed)
  cases hmethM.symm.trans hmethM'
  obtain ⟨c2, r2, m2, q1, q2, q3, q4, kP, hkP, hkPi⟩ := Cond.selects_spec hsel
  cases hcls.symm.trans q1
  cases (State.methodFound?_of_named hnamed hy).symm.trans q2
  cases hnamed.symm.trans q3
  have hselP : selectMethod e.platform s.vm cellB.cls mk = .method mk := by rw [Launch.admits_selectMethod X.admits]; exact q4
  obtain ⟨vm₁, X₁, hstep₁⟩ := X.invokevirtual hexec hown hlink hnamed hmethM hstM hkP hkPi hy (a := b) (cell := cellB) hcell
    (fun z h => by rw [h] at hobj; cases hobj) hselP hmethM habM hkP hkPi (g := g) hg (argsL := argsL) (rest := rest) (hlen _ hsigM) hstack hdg
  obtain ⟨v, B, X', hpost, hsteps⟩ := hK m meth c ⟨T.setVm vm₁, locs, cells, slots⟩ { g with stack := rest } (.invokevirtual index) mk (Value.ref b :: argsL).toArray X₁ hg hsize hdg hW (X₁.named hnamed) (hpre vm₁ X₁.warmed)
  exact ⟨v, vm₁, B, X₁.warmed, X', hpost, fun target h => hstep₁ _ fun acts => by rw [doInvoke_state]; exact hsteps.trans h⟩
abbrev vx_CVW (R : Room) (s : State) (args : Array Value) (own C : String) (index : Nat) (y : MethodName) (bytes : ByteArray) (maxL : Nat) (ret : Option FieldType) (hh : List (Nat × Nat × Nat × Nat)) (ws : List Cond) (rm : Room) (mc ms n : Nat) : Prop :=
  (rm.cells = mc ∧ rm.slots = ms ∧ rm.frames + 1 ≤ R.frames ∧ 8 + (maxL + 11) + rm.locals ≤ R.locals ∧ (∀ w ∈ ws, ∀ (a' : Array Value) (U : State), s.WarmedH U.vm → w.before a' U = true) ∧ Cond.codeWith y bytes maxL ret hh ∈ ws) ∧
  (Cond.codeWith y bytes maxL ret hh).before args s = true ∧ (Cond.initialized y.cls).before args s = true ∧ (y.cls ≠ "java/lang/invoke/MethodHandle" ∧ y.cls ≠ "java/lang/invoke/VarHandle") ∧
  (∀ sig, parseMethodDescriptor y.desc = some sig → n = sig.parameters.length) ∧ (Cond.methodLink own index y).before args s = true ∧ (Cond.instanceMethod y).before args s = true ∧ (Cond.selects C y y).before args s = true
theorem vx_cwVW {own C : String} {index maxL mc ms : Nat} {y : MethodName} {bytes : ByteArray} {ret : Option FieldType} {hh : List (Nat × Nat × Nat × Nat)} {Ts ws ws' : List Cond} {rm : Room} (n : Nat) (ht : ∀ w ∈ Ts, w.before args s = true) (hT : GoodIn Ts (wsV own index C y ws)) (hw : ws = Cond.codeWith y bytes maxL ret hh :: ws') (hrc : rm.cells = mc) (hrs : rm.slots = ms)
    (hd : y.cls = C ∧ y.cls ≠ "java/lang/invoke/MethodHandle" ∧ y.cls ≠ "java/lang/invoke/VarHandle" ∧ (parseMethodDescriptor y.desc).map (fun d => d.parameters.length) = some n) (hR : rm.frames + 1 ≤ R.frames ∧ 8 + (maxL + 11) + rm.locals ≤ R.locals) :
    vx_CVW R s args own C index y bytes maxL ret hh ws rm mc ms n := by
  obtain ⟨hC, hd⟩ := hd
  subst hC
  have ok : ∀ w ∈ wsV own index y.cls y ws, w.before args s = true := fun w h => ht w (hT w h).1
  have hG : GoodIn Ts ws := fun w h => hT w (by unfold wsV; exact List.mem_append_right _ h)
  have hc : Cond.codeWith y bytes maxL ret hh ∈ ws := by rw [hw]; exact List.mem_cons_self
  refine ⟨⟨hrc, hrs, hR.1, hR.2, pay_in ht hG, hc⟩, ht _ (hG _ hc).1, ok _ (by simp [wsV]), ⟨hd.1, hd.2.1⟩, fun sig h => ?_, ok _ (by simp [wsV]), ok _ (by simp [wsV]), ok _ (by simp [wsV])⟩
  have h2 := hd.2.2
  rw [h] at h2
  exact (Option.some.inj h2).symm
theorem vx_runVW {y : MethodName} {bytes cc : ByteArray} {maxL nL mc ms n index : Nat} {ret : Option FieldType} {hh : List (Nat × Nat × Nat × Nat)} {ws : List Cond} {rm : Room} {Pc : Array Value → State → Prop} {Qc : Array Value → State → Outcome → State → Prop} {free : Addr → Prop} {Ts : List Cond} {own C : String} {b : Addr} {As rest : List Value} {g : JFrame}
    (S : CallFix p m c cc nL s args Ts own) (hM : Met l y ws rm Pc Qc mc ms free) (cw : vx_CVW R s args own C index y bytes maxL ret hh ws rm mc ms n) (hp : PreV s H C b Pc As)
    (hg : g.method = m) (hn : As.length = n) (hsize : g.locals.size = nL) (hstack : g.stack = As.reverse ++ .ref b :: rest) (hW : 2 * g.monitorRoom + (rest.map fun v => v.category).sum ≤ 8) (hdg : decode cc g.pc = .ok (.invokevirtual index, 3)) (hf : cells + mc ≤ R.cells ∧ slots + ms ≤ R.slots) :
    va_Run p l e R s m args below meth c H locs cells slots mc ms g rest (Qc (Value.ref b :: As).toArray) free := by
  obtain ⟨⟨hrc, hrs, hfr, hlo, hws, hcw⟩, hcode, hini, hy, hlen, hl, hin, hse⟩ := cw
  have hK : Back l R p e below s args y 3 8 (PreOf R mc ms Pc) (PostOf Qc mc ms free) := va_backW (hh := hh) (bytes := bytes) (maxL := maxL) (ret := ret) hM hp.1 hrc hrs hfr hlo hws hcw (fun a' U hW => word_at hW (Or.inl (by first | rfl | simp [Cond.onTables, Cond.keeps, Cond.steady])) hini)
  obtain ⟨hx, hb, hml, ho, -⟩ := S
  obtain ⟨-, ⟨cellB, hcB, hoB, hclB⟩, hPc⟩ := hp
  intro T hT X
  obtain ⟨v, vm₁, ⟨U', l2, c2, s2⟩, hW₁, X', ⟨g', mk, t, L, e1, e2, hq, h1, hL, h2, h3⟩, st⟩ := vx_callVW X hx (C := C) (hh := hh) (bytes := bytes) (maxL := maxL) (ret := ret) ho hl hin hse hcode hy hK (by rw [hT]; exact hcB) hoB hclB hg (hsize.trans hml.symm) (argsL := As) (rest := rest) (fun sig h => hn.trans (hlen sig h)) hstack hW (by rw [hb]; exact hdg)
    (fun vm₁ hW₁ => ⟨hf.1, hf.2, hPc (T.setVm vm₁) hT hW₁⟩)
  dsimp only [Pt.U, Pt.locs, Pt.cells, Pt.slots] at X' e1 e2 h1 h2 h3 st
  subst h1; subst h2; subst h3
  exact ⟨v, (T.setVm vm₁).calling g' mk (Value.ref b :: As).toArray, t, U', L, hT, X', hL, e1, e2, hq, st⟩
section
variable {y : MethodName} {bytes cc : ByteArray} {maxL nL mc ms n index : Nat} {ret : Option FieldType} {ws : List Cond} {rm : Room} {Pc : Array Value → State → Prop} {Qc : Array Value → State → Outcome → State → Prop} {XC : String → State → State → Prop} {free : Addr → Prop} {Ts : List Cond} {own C : String} {b : Addr} {As rest : List Value} {g : JFrame}
theorem vx_runVX {hh : List (Nat × Nat × Nat × Nat)} (S : CallFix p m c cc nL s args Ts own) (hM : vx_Met l y ws rm Pc Qc XC mc ms free) (cw : vx_CVW R s args own C index y bytes maxL ret hh ws rm mc ms n) (hp : PreV s H C b Pc As)
    (hg : g.method = m) (hn : As.length = n) (hsize : g.locals.size = nL) (hstack : g.stack = As.reverse ++ .ref b :: rest) (hW : 2 * g.monitorRoom + (rest.map fun v => v.category).sum ≤ 8) (hdg : decode cc g.pc = .ok (.invokevirtual index, 3)) (hf : cells + mc ≤ R.cells ∧ slots + ms ≤ R.slots) :
    vx_Run p l e R s m args below meth c H locs cells slots mc ms g rest (Qc (Value.ref b :: As).toArray) XC free := by
  obtain ⟨⟨hrc, hrs, hfr, hlo, hws, hcw⟩, hcode, hini, hy, hlen, hl, hin, hse⟩ := cw
  have hK : vx_Back l R p e below s args y 3 8 (PreOf R mc ms Pc) (PostOf Qc mc ms free) (vx_Post XC mc ms free) := vx_backW (hh := hh) (bytes := bytes) (maxL := maxL) (ret := ret) hM hp.1 hrc hrs hfr hlo hws hcw (fun a' U hW => word_at hW (Or.inl (by first | rfl | simp [Cond.onTables, Cond.keeps, Cond.steady])) hini)
  obtain ⟨hx, hb, hml, ho, -⟩ := S
  obtain ⟨-, ⟨cellB, hcB, hoB, hclB⟩, hPc⟩ := hp
  intro T hT X
  rcases vx_callVX X hx (C := C) (hh := hh) (bytes := bytes) (maxL := maxL) (ret := ret) ho hl hin hse hcode hy hK (by rw [hT]; exact hcB) hoB hclB hg (hsize.trans hml.symm) (argsL := As) (rest := rest) (fun sig h => hn.trans (hlen sig h)) hstack hW (by rw [hb]; exact hdg)
    (fun vm₁ hW₁ => ⟨hf.1, hf.2, hPc (T.setVm vm₁) hT hW₁⟩) with ⟨v, vm₁, ⟨U', l2, c2, s2⟩, hW₁, X', ⟨g', mk, t, L, e1, e2, hq, h1, hL, h2, h3⟩, st⟩ | ⟨q, vm₁, ⟨U', l2, c2, s2⟩, hW₁, X', ⟨g', mk, t, L, E, ce, e1, e2, hq, hce, hcv, hcl, h1, hL, h2, h3⟩, st⟩
  · dsimp only [Pt.U, Pt.locs, Pt.cells, Pt.slots] at X' e1 e2 h1 h2 h3 st
    subst h1; subst h2; subst h3
    exact Or.inl ⟨v, (T.setVm vm₁).calling g' mk (Value.ref b :: As).toArray, t, U', L, hT, X', hL, e1, e2, hq, st⟩
  · dsimp only [Pt.U, Pt.locs, Pt.cells, Pt.slots] at X' e1 e2 h1 h2 h3 st hcl
    subst h1; subst h2; subst h3
    exact Or.inr ⟨q, (T.setVm vm₁).calling g' mk (Value.ref b :: As).toArray, t, U', L, E, ce, hT, X', hL, e1, e2, hq, hce, hcv, vx_cls hW₁ hcl, st⟩
theorem vx_runSX {hh : List (Nat × Nat × Nat × Nat)} (S : CallFix p m c cc nL s args Ts own) (hM : vx_Met l y ws rm Pc Qc XC mc ms free) (cw : vx_CSW R s args own index y bytes maxL ret hh ws rm mc ms n) (hp : PreS s H Pc As)
    (hg : g.method = m) (hn : As.length = n) (hsize : g.locals.size = nL) (hstack : g.stack = As.reverse ++ rest) (hW : 2 * g.monitorRoom + (rest.map fun v => v.category).sum ≤ 8) (hdg : decode cc g.pc = .ok (.invokestatic index, 3)) (hf : cells + mc ≤ R.cells ∧ slots + ms ≤ R.slots) :
    vx_Run p l e R s m args below meth c H locs cells slots mc ms g rest (Qc As.toArray) XC free := by
  obtain ⟨⟨hrc, hrs, hfr, hlo, hws, hcw⟩, hcode, hini, hy, hlen, hl, hstt⟩ := cw
  have hK : vx_Back l R p e below s args y 3 8 (PreOf R mc ms Pc) (PostOf Qc mc ms free) (vx_Post XC mc ms free) := vx_backW (hh := hh) (bytes := bytes) (maxL := maxL) (ret := ret) hM hp.1 hrc hrs hfr hlo hws hcw (fun a' U hW => word_at hW (Or.inl (by first | rfl | simp [Cond.onTables, Cond.keeps, Cond.steady])) hini)
  obtain ⟨hx, hb, hml, ho, -⟩ := S
  intro T hT X
  rcases vx_callSX X hx (hh := hh) (bytes := bytes) (maxL := maxL) (ret := ret) ho hl hstt hini hcode hy hK hg (hsize.trans hml.symm) (argsL := As) (rest := rest) (fun sig h => hn.trans (hlen sig h)) hstack hW (by rw [hb]; exact hdg)
    (fun vm₁ hW₁ => ⟨hf.1, hf.2, hp.2 (T.setVm vm₁) hT hW₁⟩) with ⟨v, vm₁, ⟨U', l2, c2, s2⟩, hW₁, X', ⟨g', mk, t, L, e1, e2, hq, h1, hL, h2, h3⟩, st⟩ | ⟨q, vm₁, ⟨U', l2, c2, s2⟩, hW₁, X', ⟨g', mk, t, L, E, ce, e1, e2, hq, hce, hcv, hcl, h1, hL, h2, h3⟩, st⟩
  · dsimp only [Pt.U, Pt.locs, Pt.cells, Pt.slots] at X' e1 e2 h1 h2 h3 st
    subst h1; subst h2; subst h3
    exact Or.inl ⟨v, (T.setVm vm₁).calling g' mk As.toArray, t, U', L, hT, X', hL, e1, e2, hq, st⟩
  · dsimp only [Pt.U, Pt.locs, Pt.cells, Pt.slots] at X' e1 e2 h1 h2 h3 st hcl
    subst h1; subst h2; subst h3
    exact Or.inr ⟨q, (T.setVm vm₁).calling g' mk As.toArray, t, U', L, E, ce, hT, X', hL, e1, e2, hq, hce, hcv, vx_cls hW₁ hcl, st⟩
end
end VXH
theorem vx_ofWH {l : Launch} {y : MethodName} {ws ws' : List Cond} {rm : Room} {Pc : Array Value → State → Prop} {Qc : Array Value → State → Outcome → State → Prop} {XC : String → State → State → Prop} {mc ms : Nat} {free : Addr → Prop} {cc : ByteArray} {maxL : Nat} {ret : Option FieldType} {hh : List (Nat × Nat × Nat × Nat)}
    (hy : plainName y.cls = true) (hw : ws = Cond.codeWith y cc maxL ret hh :: ws')
    (body : ∀ p e s m args below meth c s₁, BodyLoose p l y (headSpec ws rm) cc maxL ret e s m args below meth c s₁ → c.maxLocals = maxL → Pc args s →
      W p l e (headSpec ws rm).room s m args below meth c s.heap [] 0 0 (vx_MQ below Qc XC args s mc ms free) (entryFrame m args maxL)) : vx_Met l y ws rm Pc Qc XC mc ms free := by
  refine MetFree.of_bodyS (code := cc) (maxLocals := maxL) (ret := ret) hy ?_ ?_
  · intro args s m h hn
    obtain ⟨m9, meth, c, hn9, h1, h2, h3, h4, -, h5, h6, -⟩ := Cond.codeWith_spec (atoms_spec (ws := ws) h _ (by rw [hw]; exact List.mem_cons_self))
    cases hn.symm.trans hn9
    exact ⟨meth, c, h1, h2, h3, h4, h5, h6⟩
  · intro p e s m args below meth c s₁ B hml hP _
    have hh0 : s₁.heap = s.heap := by rw [B.state]; rfl
    obtain ⟨t, a1, o, b1, b2, b3⟩ := body p e s m args below meth c s₁ B hml hP s₁ hh0 (Stand.of_body B)
    exact ⟨t, o, a1, b1, b2, b3⟩
section VXIA
variable {p : Program} {l : Launch} {e : Env} {R : Room} {s : State} {m : MethodId} {args : Array Value} {below : List Frame} {meth : Method} {c : Code} {T : State} {locs : List Loc} {cells slots : Nat}
theorem vx_callI (X : Stand p l e R s m args below meth c T locs cells slots) (hexec : p.tables.exec = Jvm.exec) {own : String} {index : Nat} {y : MethodName} {bytes : ByteArray} {maxL : Nat}
    (hown : s.vm.findClass own = some m.cls) (hy1 : y.name = "<init>") (hlink : (Cond.methodLink own index y).before args s = true) (hinst : (Cond.instanceMethod y).before args s = true)
    (hcode : (Cond.code y bytes maxL none).before args s = true) (hy : y.cls ≠ "java/lang/invoke/MethodHandle" ∧ y.cls ≠ "java/lang/invoke/VarHandle")
    {W9 : Nat} {Pre : Pt → Array Value → Prop} {Post : Pt → Array Value → Option Value → Pt → Prop} {PostX : Pt → Array Value → Addr → Pt → Prop} (hK : vx_Back l R p e below s args y 3 W9 Pre Post PostX)
    {g : JFrame} (hg : g.method = m) (hsize : g.locals.size = c.maxLocals) {a : Addr} {argsL rest : List Value} (hlen : ∀ sig, parseMethodDescriptor y.desc = some sig → argsL.length = sig.parameters.length)
    (hstack : g.stack = argsL.reverse ++ .ref a :: rest) (hW : 2 * g.monitorRoom + (rest.map fun v => v.category).sum ≤ W9) (hdg : decode c.code g.pc = .ok (.invokespecial index, 3))
    (hpre : ∀ vm₁, s.WarmedH vm₁ → Pre ⟨T.setVm vm₁, locs, cells, slots⟩ (Value.ref a :: argsL).toArray) :
    (∃ (v : Option Value) (vm₁ : Vm) (B : Pt), s.WarmedH vm₁ ∧ Stand p l e R s m args below meth c B.U B.locs B.cells B.slots ∧ Post ⟨T.setVm vm₁, locs, cells, slots⟩ (Value.ref a :: argsL).toArray v B ∧
      ∀ target, Steps p.tables e below (B.U.setTop { g with pc := g.pc + 3, stack := v.toList ++ rest }) target → Steps p.tables e below (T.setTop g) target) ∨
    (∃ (q : Addr) (vm₁ : Vm) (B : Pt), s.WarmedH vm₁ ∧ Stand p l e R s m args below meth c B.U B.locs B.cells B.slots ∧ PostX ⟨T.setVm vm₁, locs, cells, slots⟩ (Value.ref a :: argsL).toArray q B ∧
      Steps p.tables e below (T.setTop g) ((B.U.setTop { g with stack := rest }).pushFrame (.throwing q))) := by
  subst hg
  have hpl : e.platform.magicAccessors = ({} : Platform).magicAccessors := by rw [X.admits.platform]
  obtain ⟨mk, methM, cM, kP, vm₁, hnamed, hmethM, hcodeM, -, hlocalsM, -, hkP, -, hW₁, hstep₁⟩ := Steps.initColdArgs (e := e) X.here hexec X.warmed hpl hown hy1 hy hlink hinst hcode (f := g) rfl hlen hstack hdg
  have X₁ := X.noted hW₁
  rcases hK g.method meth c ⟨T.setVm vm₁, locs, cells, slots⟩ { g with stack := rest } (.invokespecial index) mk (Value.ref a :: argsL).toArray X₁ rfl hsize hdg hW (X₁.named hnamed) (hpre vm₁ X₁.warmed) with ⟨v, B, X', hpost, hsteps⟩ | ⟨q, B, X', hpost, hsteps⟩
  · exact Or.inl ⟨v, vm₁, B, X₁.warmed, X', hpost, fun target h => hstep₁ _ fun acts => by rw [doInvoke_state]; exact hsteps.trans h⟩
  · exact Or.inr ⟨q, vm₁, B, X₁.warmed, X', hpost, hstep₁ _ fun acts => by rw [doInvoke_state]; exact hsteps⟩
end VXIA
section VXIB
variable {p : Program} {l : Launch} {e : Env} {R : Room} {s : State} {m : MethodId} {args : Array Value} {below : List Frame} {meth : Method} {c : Code} {H : Heap} {locs : List Loc} {cells slots : Nat}
variable {y : MethodName} {bytes cc : ByteArray} {maxL nL mc ms n index : Nat} {ret : Option FieldType} {ws : List Cond} {rm : Room} {Pc : Array Value → State → Prop} {Qc : Array Value → State → Outcome → State → Prop} {XC : String → State → State → Prop} {free : Addr → Prop} {Ts : List Cond} {own C : String} {b : Addr} {As rest : List Value} {g : JFrame}
theorem vx_runI (S : CallFix p m c cc nL s args Ts own) (hM : vx_Met l y ws rm Pc Qc XC mc ms free) (cw : CallB R s args own index y bytes maxL none ws rm mc ms n ∧ y.name = "<init>" ∧ (Cond.instanceMethod y).before args s = true) (hp : PreS s H Pc (.ref b :: As))
    (hg : g.method = m) (hn : As.length = n) (hsize : g.locals.size = nL) (hstack : g.stack = As.reverse ++ .ref b :: rest) (hW : 2 * g.monitorRoom + (rest.map fun v => v.category).sum ≤ 8) (hdg : decode cc g.pc = .ok (.invokespecial index, 3)) (hf : cells + mc ≤ R.cells ∧ slots + ms ≤ R.slots) :
    vx_Run p l e R s m args below meth c H locs cells slots mc ms g rest (Qc (Value.ref b :: As).toArray) XC free := by
  have hK : vx_Back l R p e below s args y 3 8 (PreOf R mc ms Pc) (PostOf Qc mc ms free) (vx_Post XC mc ms free) := vx_callBack cw.1 hM hp.1
  obtain ⟨⟨-, -, -, -, -, -, hcode, -, hy, hlen, hl⟩, hy1, hin⟩ := cw
  obtain ⟨hx, hb, hml, ho, -⟩ := S
  have hPc := hp.2
  intro T hT X
  rcases vx_callI X hx (bytes := bytes) (maxL := maxL) ho hy1 hl hin hcode hy hK hg (hsize.trans hml.symm) (a := b) (argsL := As) (rest := rest) (fun sig h => hn.trans (hlen sig h)) hstack hW (by rw [hb]; exact hdg)
    (fun vm₁ hW₁ => ⟨hf.1, hf.2, hPc (T.setVm vm₁) hT hW₁⟩) with ⟨v, vm₁, ⟨U', l2, c2, s2⟩, hW₁, X', ⟨g', mk, t, L, e1, e2, hq, h1, hL, h2, h3⟩, st⟩ | ⟨q, vm₁, ⟨U', l2, c2, s2⟩, hW₁, X', ⟨g', mk, t, L, E, ce, e1, e2, hq, hce, hcv, hcl, h1, hL, h2, h3⟩, st⟩
  · dsimp only [Pt.U, Pt.locs, Pt.cells, Pt.slots] at X' e1 e2 h1 h2 h3 st
    subst h1; subst h2; subst h3
    exact Or.inl ⟨v, (T.setVm vm₁).calling g' mk (Value.ref b :: As).toArray, t, U', L, hT, X', hL, e1, e2, hq, st⟩
  · dsimp only [Pt.U, Pt.locs, Pt.cells, Pt.slots] at X' e1 e2 h1 h2 h3 st hcl
    subst h1; subst h2; subst h3
    exact Or.inr ⟨q, (T.setVm vm₁).calling g' mk (Value.ref b :: As).toArray, t, U', L, E, ce, hT, X', hL, e1, e2, hq, hce, hcv, vx_cls hW₁ hcl, st⟩
end VXIB
section VXIC
variable {p : Program} {l : Launch} {e : Env} {R : Room} {s : State} {m : MethodId} {args : Array Value} {below : List Frame} {meth : Method} {c : Code} {T : State} {locs : List Loc} {cells slots : Nat}
theorem vx_callIN (X : Stand p l e R s m args below meth c T locs cells slots) (hexec : p.tables.exec = Jvm.exec) {own : String} {index : Nat} {host : String} {y : MethodName} {bytes : ByteArray} {maxL : Nat}
    (hown : s.vm.findClass own = some m.cls) (hy1 : y.name = "<init>") (hlink : (Cond.methodLinkNest own index y host).before args s = true) (hinst : (Cond.instanceMethod y).before args s = true)
    (hcode : (Cond.code y bytes maxL none).before args s = true) (hy : y.cls ≠ "java/lang/invoke/MethodHandle" ∧ y.cls ≠ "java/lang/invoke/VarHandle")
    {W9 : Nat} {Pre : Pt → Array Value → Prop} {Post : Pt → Array Value → Option Value → Pt → Prop} {PostX : Pt → Array Value → Addr → Pt → Prop} (hK : vx_Back l R p e below s args y 3 W9 Pre Post PostX)
    {g : JFrame} (hg : g.method = m) (hsize : g.locals.size = c.maxLocals) {a : Addr} {argsL rest : List Value} (hlen : ∀ sig, parseMethodDescriptor y.desc = some sig → argsL.length = sig.parameters.length)
    (hstack : g.stack = argsL.reverse ++ .ref a :: rest) (hW : 2 * g.monitorRoom + (rest.map fun v => v.category).sum ≤ W9) (hdg : decode c.code g.pc = .ok (.invokespecial index, 3))
    (hpre : ∀ vm₁, s.WarmedH vm₁ → Pre ⟨T.setVm vm₁, locs, cells, slots⟩ (Value.ref a :: argsL).toArray) :
    (∃ (v : Option Value) (vm₁ : Vm) (B : Pt), s.WarmedH vm₁ ∧ Stand p l e R s m args below meth c B.U B.locs B.cells B.slots ∧ Post ⟨T.setVm vm₁, locs, cells, slots⟩ (Value.ref a :: argsL).toArray v B ∧
      ∀ target, Steps p.tables e below (B.U.setTop { g with pc := g.pc + 3, stack := v.toList ++ rest }) target → Steps p.tables e below (T.setTop g) target) ∨
    (∃ (q : Addr) (vm₁ : Vm) (B : Pt), s.WarmedH vm₁ ∧ Stand p l e R s m args below meth c B.U B.locs B.cells B.slots ∧ PostX ⟨T.setVm vm₁, locs, cells, slots⟩ (Value.ref a :: argsL).toArray q B ∧
      Steps p.tables e below (T.setTop g) ((B.U.setTop { g with stack := rest }).pushFrame (.throwing q))) := by
  subst hg
  have hpl : e.platform.magicAccessors = ({} : Platform).magicAccessors := by rw [X.admits.platform]
  obtain ⟨mk, methM, cM, kP, vm₁, hnamed, hmethM, hcodeM, -, hlocalsM, -, hkP, -, hW₁, hstep₁⟩ := Steps.initColdArgsNest (e := e) X.here hexec X.warmed hpl hown hy1 hy hlink hinst hcode (f := g) rfl hlen hstack hdg
  have X₁ := X.noted hW₁
  rcases hK g.method meth c ⟨T.setVm vm₁, locs, cells, slots⟩ { g with stack := rest } (.invokespecial index) mk (Value.ref a :: argsL).toArray X₁ rfl hsize hdg hW (X₁.named hnamed) (hpre vm₁ X₁.warmed) with ⟨v, B, X', hpost, hsteps⟩ | ⟨q, B, X', hpost, hsteps⟩
  · exact Or.inl ⟨v, vm₁, B, X₁.warmed, X', hpost, fun target h => hstep₁ _ fun acts => by rw [doInvoke_state]; exact hsteps.trans h⟩
  · exact Or.inr ⟨q, vm₁, B, X₁.warmed, X', hpost, hstep₁ _ fun acts => by rw [doInvoke_state]; exact hsteps⟩
end VXIC
section VXID
variable {p : Program} {l : Launch} {e : Env} {R : Room} {s : State} {m : MethodId} {args : Array Value} {below : List Frame} {meth : Method} {c : Code} {H : Heap} {locs : List Loc} {cells slots : Nat}
theorem vx_runIN {y : MethodName} {bytes cc : ByteArray} {maxL nL mc ms n index : Nat} {ws : List Cond} {rm : Room} {Pc : Array Value → State → Prop} {Qc : Array Value → State → Outcome → State → Prop} {XC : String → State → State → Prop} {free : Addr → Prop} {Ts : List Cond} {own host : String} {b : Addr} {As rest : List Value} {g : JFrame}
    (S : CallFix p m c cc nL s args Ts own) (hM : vx_Met l y ws rm Pc Qc XC mc ms free) (cw : va_CN R s args own index y host bytes maxL none ws rm mc ms n ∧ y.name = "<init>" ∧ (Cond.instanceMethod y).before args s = true) (hp : PreS s H Pc (.ref b :: As))
    (hg : g.method = m) (hn : As.length = n) (hsize : g.locals.size = nL) (hstack : g.stack = As.reverse ++ .ref b :: rest) (hW : 2 * g.monitorRoom + (rest.map fun v => v.category).sum ≤ 8) (hdg : decode cc g.pc = .ok (.invokespecial index, 3)) (hf : cells + mc ≤ R.cells ∧ slots + ms ≤ R.slots) :
    vx_Run p l e R s m args below meth c H locs cells slots mc ms g rest (Qc (Value.ref b :: As).toArray) XC free := by
  obtain ⟨⟨⟨hrc, hrs, hfr, hlo, hws, hcw⟩, hcode, hini, hy, hlen, hl⟩, hx1, hx2⟩ := cw
  have hK : vx_Back l R p e below s args y 3 8 (PreOf R mc ms Pc) (PostOf Qc mc ms free) (vx_Post XC mc ms free) := vx_back (bytes := bytes) (maxL := maxL) (ret := none) hM hp.1 hrc hrs hfr hlo hws hcw (fun a' U hW => word_at hW (Or.inl (by first | rfl | simp [Cond.onTables, Cond.keeps, Cond.steady])) hini)
  obtain ⟨hx, hb, hml, ho, -⟩ := S
  have hPc := hp.2
  intro T hT X
  rcases vx_callIN X hx (bytes := bytes) (maxL := maxL) ho hx1 hl hx2 hcode hy hK hg (hsize.trans hml.symm) (a := b) (argsL := As) (rest := rest) (fun sig h => hn.trans (hlen sig h)) hstack hW (by rw [hb]; exact hdg)
    (fun vm₁ hW₁ => ⟨hf.1, hf.2, hPc (T.setVm vm₁) hT hW₁⟩) with ⟨v, vm₁, ⟨U', l2, c2, s2⟩, hW₁, X', ⟨g', mk, t, L, e1, e2, hq, h1, hL, h2, h3⟩, st⟩ | ⟨q, vm₁, ⟨U', l2, c2, s2⟩, hW₁, X', ⟨g', mk, t, L, E, ce, e1, e2, hq, hce, hcv, hcl, h1, hL, h2, h3⟩, st⟩
  · dsimp only [Pt.U, Pt.locs, Pt.cells, Pt.slots] at X' e1 e2 h1 h2 h3 st
    subst h1; subst h2; subst h3
    exact Or.inl ⟨v, (T.setVm vm₁).calling g' mk (Value.ref b :: As).toArray, t, U', L, hT, X', hL, e1, e2, hq, st⟩
  · dsimp only [Pt.U, Pt.locs, Pt.cells, Pt.slots] at X' e1 e2 h1 h2 h3 st hcl
    subst h1; subst h2; subst h3
    exact Or.inr ⟨q, (T.setVm vm₁).calling g' mk (Value.ref b :: As).toArray, t, U', L, E, ce, hT, X', hL, e1, e2, hq, hce, hcv, vx_cls hW₁ hcl, st⟩
end VXID
section
variable {p : Program} {l : Launch} {e : Env} {R : Room} {s : State} {m : MethodId} {args : Array Value} {below : List Frame} {meth : Method} {c : Code} {H : Heap} {locs : List Loc} {cells slots : Nat}
variable {T : State}
theorem vx_callVN (X : Stand p l e R s m args below meth c T locs cells slots) (hexec : p.tables.exec = Jvm.exec) {own C : String} {index : Nat} {host : String} {y : MethodName} {bytes : ByteArray} {maxL : Nat} {ret : Option FieldType}
    (hown : s.vm.findClass own = some m.cls) (hlink : (Cond.methodLinkNest own index y host).before args s = true) (hinst : (Cond.instanceMethod y).before args s = true) (hsel : (Cond.selects C y y).before args s = true)
    (hcode : (Cond.code y bytes maxL ret).before args s = true) (hy : y.cls ≠ "java/lang/invoke/MethodHandle" ∧ y.cls ≠ "java/lang/invoke/VarHandle")
    {W : Nat} {Pre : Pt → Array Value → Prop} {Post : Pt → Array Value → Option Value → Pt → Prop} {PostX : Pt → Array Value → Addr → Pt → Prop} (hK : vx_Back l R p e below s args y 3 W Pre Post PostX)
    {b : Addr} {cellB : Cell} (hcell : T.heap[b]? = some cellB) (hobj : cellB.vm.isStatics = false) (hcls : s.vm.findClass C = some cellB.cls)
    {g : JFrame} (hg : g.method = m) (hsize : g.locals.size = c.maxLocals) {argsL rest : List Value} (hlen : ∀ sig, parseMethodDescriptor y.desc = some sig → argsL.length = sig.parameters.length)
    (hstack : g.stack = argsL.reverse ++ .ref b :: rest) (hW : 2 * g.monitorRoom + (rest.map fun v => v.category).sum ≤ W) (hdg : decode c.code g.pc = .ok (.invokevirtual index, 3))
    (hpre : ∀ vm₁, s.WarmedH vm₁ → Pre ⟨T.setVm vm₁, locs, cells, slots⟩ (Value.ref b :: argsL).toArray) :
    (∃ (v : Option Value) (vm₁ : Vm) (B : Pt), s.WarmedH vm₁ ∧ Stand p l e R s m args below meth c B.U B.locs B.cells B.slots ∧ Post ⟨T.setVm vm₁, locs, cells, slots⟩ (Value.ref b :: argsL).toArray v B ∧
      ∀ target, Steps p.tables e below (B.U.setTop { g with pc := g.pc + 3, stack := v.toList ++ rest }) target → Steps p.tables e below (T.setTop g) target) ∨
    (∃ (q : Addr) (vm₁ : Vm) (B : Pt), s.WarmedH vm₁ ∧ Stand p l e R s m args below meth c B.U B.locs B.cells B.slots ∧ PostX ⟨T.setVm vm₁, locs, cells, slots⟩ (Value.ref b :: argsL).toArray q B ∧
      Steps p.tables e below (T.setTop g) ((B.U.setTop { g with stack := rest }).pushFrame (.throwing q))) := by
  obtain ⟨mk, methM, hnamed, hmethM, hstM, habM⟩ := Cond.instanceMethod_spec hinst
  obtain ⟨methM', cM, hmethM', -, -, -, -, -, -, hsigM⟩ := Cond.code_spec hnamed hcode
  cases hmethM.symm.trans hmethM'
  obtain ⟨c2, r2, m2, q1, q2, q3, q4, kP, hkP, hkPi⟩ := Cond.selects_spec hsel
  cases hcls.symm.trans q1
  cases (State.methodFound?_of_named hnamed hy).symm.trans q2
  cases hnamed.symm.trans q3
  have hselP : selectMethod e.platform s.vm cellB.cls mk = .method mk := by rw [Launch.admits_selectMethod X.admits]; exact q4
  obtain ⟨vm₁, X₁, hstep₁⟩ := X.invokevirtualNest hexec hown hlink hnamed hmethM hstM hkP hkPi hy (a := b) (cell := cellB) hcell
    (fun z h => by rw [h] at hobj; cases hobj) hselP hmethM habM hkP hkPi (g := g) hg (argsL := argsL) (rest := rest) (hlen _ hsigM) hstack hdg
  rcases hK m meth c ⟨T.setVm vm₁, locs, cells, slots⟩ { g with stack := rest } (.invokevirtual index) mk (Value.ref b :: argsL).toArray X₁ hg hsize hdg hW (X₁.named hnamed) (hpre vm₁ X₁.warmed) with ⟨v, B, X', hpost, hsteps⟩ | ⟨q, B, X', hpost, hsteps⟩
  · exact Or.inl ⟨v, vm₁, B, X₁.warmed, X', hpost, fun target h => hstep₁ _ fun acts => by rw [doInvoke_state]; exact hsteps.trans h⟩
  · exact Or.inr ⟨q, vm₁, B, X₁.warmed, X', hpost, hstep₁ _ fun acts => by rw [doInvoke_state]; exact hsteps⟩
theorem vx_callSN (X : Stand p l e R s m args below meth c T locs cells slots) (hexec : p.tables.exec = Jvm.exec) {own : String} {index : Nat} {host : String} {y : MethodName} {bytes : ByteArray} {maxL : Nat} {ret : Option FieldType}
    (hown : s.vm.findClass own = some m.cls) (hlink : (Cond.methodLinkNest own index y host).before args s = true) (hstat : (Cond.static y).before args s = true) (hinit : (Cond.initialized y.cls).before args s = true)
    (hcode : (Cond.code y bytes maxL ret).before args s = true) (hy : y.cls ≠ "java/lang/invoke/MethodHandle" ∧ y.cls ≠ "java/lang/invoke/VarHandle")
    {W : Nat} {Pre : Pt → Array Value → Prop} {Post : Pt → Array Value → Option Value → Pt → Prop} {PostX : Pt → Array Value → Addr → Pt → Prop} (hK : vx_Back l R p e below s args y 3 W Pre Post PostX)
    {g : JFrame} (hg : g.method = m) (hsize : g.locals.size = c.maxLocals) {argsL rest : List Value} (hlen : ∀ sig, parseMethodDescriptor y.desc = some sig → argsL.length = sig.parameters.length)
    (hstack : g.stack = argsL.reverse ++ rest) (hW : 2 * g.monitorRoom + (rest.map fun v => v.category).sum ≤ W) (hdg : decode c.code g.pc = .ok (.invokestatic index, 3))
    (hpre : ∀ vm₁, s.WarmedH vm₁ → Pre ⟨T.setVm vm₁, locs, cells, slots⟩ argsL.toArray) :
    (∃ (v : Option Value) (vm₁ : Vm) (B : Pt), s.WarmedH vm₁ ∧ Stand p l e R s m args below meth c B.U B.locs B.cells B.slots ∧ Post ⟨T.setVm vm₁, locs, cells, slots⟩ argsL.toArray v B ∧
      ∀ target, Steps p.tables e below (B.U.setTop { g with pc := g.pc + 3, stack := v.toList ++ rest }) target → Steps p.tables e below (T.setTop g) target) ∨
    (∃ (q : Addr) (vm₁ : Vm) (B : Pt), s.WarmedH vm₁ ∧ Stand p l e R s m args below meth c B.U B.locs B.cells B.slots ∧ PostX ⟨T.setVm vm₁, locs, cells, slots⟩ argsL.toArray q B ∧
      Steps p.tables e below (T.setTop g) ((B.U.setTop { g with stack := rest }).pushFrame (.throwing q))) := by
  obtain ⟨mk, hnamed⟩ := Cond.code_named hcode
  obtain ⟨methM, cM, hmethM, -, -, -, -, -, -, hsigM⟩ := Cond.code_spec hnamed hcode
  have hstatic : methM.isStatic = true := Cond.static_spec hnamed hmethM hstat
  obtain ⟨kP, hkP, -⟩ := className_of_methodNamed hnamed
  have hinitP : kP.init = .initialized := Cond.initialized_spec (findClass_of_methodNamed hnamed) hkP hinit
  obtain ⟨vm₁, X₁, hstep₁⟩ := X.invokestaticNest hexec hown hlink hnamed hmethM hstatic hkP hinitP hy (g := g) hg (argsL := argsL) (rest := rest) (hlen _ hsigM) hstack hdg
  rcases hK m meth c ⟨T.setVm vm₁, locs, cells, slots⟩ { g with stack := rest } (.invokestatic index) mk argsL.toArray X₁ hg hsize hdg hW (X₁.named hnamed) (hpre vm₁ X₁.warmed) with ⟨v, B, X', hpost, hsteps⟩ | ⟨q, B, X', hpost, hsteps⟩
  · exact Or.inl ⟨v, vm₁, B, X₁.warmed, X', hpost, fun target h => hstep₁ _ fun acts => by rw [doInvoke_state]; exact hsteps.trans h⟩
  · exact Or.inr ⟨q, vm₁, B, X₁.warmed, X', hpost, hstep₁ _ fun acts => by rw [doInvoke_state]; exact hsteps⟩
theorem vx_runVN {y : MethodName} {bytes cc : ByteArray} {maxL nL mc ms n index : Nat} {ret : Option FieldType} {ws : List Cond} {rm : Room} {Pc : Array Value → State → Prop} {Qc : Array Value → State → Outcome → State → Prop} {XC : String → State → State → Prop} {free : Addr → Prop} {Ts : List Cond} {own C host : String} {b : Addr} {As rest : List Value} {g : JFrame}
    (S : CallFix p m c cc nL s args Ts own) (hM : vx_Met l y ws rm Pc Qc XC mc ms free) (cw : va_CN R s args own index y host bytes maxL ret ws rm mc ms n ∧ (Cond.instanceMethod y).before args s = true ∧ (Cond.selects C y y).before args s = true) (hp : PreV s H C b Pc As)
    (hg : g.method = m) (hn : As.length = n) (hsize : g.locals.size = nL) (hstack : g.stack = As.reverse ++ .ref b :: rest) (hW : 2 * g.monitorRoom + (rest.map fun v => v.category).sum ≤ 8) (hdg : decode cc g.pc = .ok (.invokevirtual index, 3)) (hf : cells + mc ≤ R.cells ∧ slots + ms ≤ R.slots) :
    vx_Run p l e R s m args below meth c H locs cells slots mc ms g rest (Qc (Value.ref b :: As).toArray) XC free := by
  obtain ⟨⟨⟨hrc, hrs, hfr, hlo, hws, hcw⟩, hcode, hini, hy, hlen, hl⟩, hx1, hx2⟩ := cw
  have hK : vx_Back l R p e below s args y 3 8 (PreOf R mc ms Pc) (PostOf Qc mc ms free) (vx_Post XC mc ms free) := vx_back (bytes := bytes) (maxL := maxL) (ret := ret) hM hp.1 hrc hrs hfr hlo hws hcw (fun a' U hW => word_at hW (Or.inl (by first | rfl | simp [Cond.onTables, Cond.keeps, Cond.steady])) hini)
  obtain ⟨hx, hb, hml, ho, -⟩ := S
  obtain ⟨-, ⟨cellB, hcB, hoB, hclB⟩, hPc⟩ := hp
  intro T hT X
  rcases vx_callVN X hx (C := C) (bytes := bytes) (maxL := maxL) (ret := ret) ho hl hx1 hx2 hcode hy hK (by rw [hT]; exact hcB) hoB hclB hg (hsize.trans hml.symm) (argsL := As) (rest := rest) (fun sig h => hn.trans (hlen sig h)) hstack hW (by rw [hb]; exact hdg)
    (fun vm₁ hW₁ => ⟨hf.1, hf.2, hPc (T.setVm vm₁) hT hW₁⟩) with ⟨v, vm₁, ⟨U', l2, c2, s2⟩, hW₁, X', ⟨g', mk, t, L, e1, e2, hq, h1, hL, h2, h3⟩, st⟩ | ⟨q, vm₁, ⟨U', l2, c2, s2⟩, hW₁, X', ⟨g', mk, t, L, E, ce, e1, e2, hq, hce, hcv, hcl, h1, hL, h2, h3⟩, st⟩
  · dsimp only [Pt.U, Pt.locs, Pt.cells, Pt.slots] at X' e1 e2 h1 h2 h3 st
    subst h1; subst h2; subst h3
    exact Or.inl ⟨v, (T.setVm vm₁).calling g' mk (Value.ref b :: As).toArray, t, U', L, hT, X', hL, e1, e2, hq, st⟩
  · dsimp only [Pt.U, Pt.locs, Pt.cells, Pt.slots] at X' e1 e2 h1 h2 h3 st hcl
    subst h1; subst h2; subst h3
    exact Or.inr ⟨q, (T.setVm vm₁).calling g' mk (Value.ref b :: As).toArray, t, U', L, E, ce, hT, X', hL, e1, e2, hq, hce, hcv, vx_cls hW₁ hcl, st⟩
theorem vx_runSN {y : MethodName} {bytes cc : ByteArray} {maxL nL mc ms n index : Nat} {ret : Option FieldType} {ws : List Cond} {rm : Room} {Pc : Array Value → State → Prop} {Qc : Array Value → State → Outcome → State → Prop} {XC : String → State → State → Prop} {free : Addr → Prop} {Ts : List Cond} {own host : String} {As rest : List Value} {g : JFrame}
    (S : CallFix p m c cc nL s args Ts own) (hM : vx_Met l y ws rm Pc Qc XC mc ms free) (cw : va_CN R s args own index y host bytes maxL ret ws rm mc ms n ∧ (Cond.static y).before args s = true ∧ True) (hp : PreS s H Pc As)
    (hg : g.method = m) (hn : As.length = n) (hsize : g.locals.size = nL) (hstack : g.stack = As.reverse ++ rest) (hW : 2 * g.monitorRoom + (rest.map fun v => v.category).sum ≤ 8) (hdg : decode cc g.pc = .ok (.invokestatic index, 3)) (hf : cells + mc ≤ R.cells ∧ slots + ms ≤ R.slots) :
    vx_Run p l e R s m args below meth c H locs cells slots mc ms g rest (Qc As.toArray) XC free := by
  obtain ⟨⟨⟨hrc, hrs, hfr, hlo, hws, hcw⟩, hcode, hini, hy, hlen, hl⟩, hx1, hx2⟩ := cw
  have hK : vx_Back l R p e below s args y 3 8 (PreOf R mc ms Pc) (PostOf Qc mc ms free) (vx_Post XC mc ms free) := vx_back (bytes := bytes) (maxL := maxL) (ret := ret) hM hp.1 hrc hrs hfr hlo hws hcw (fun a' U hW => word_at hW (Or.inl (by first | rfl | simp [Cond.onTables, Cond.keeps, Cond.steady])) hini)
  obtain ⟨hx, hb, hml, ho, -⟩ := S
  have hPc := hp.2
  intro T hT X
  rcases vx_callSN X hx (bytes := bytes) (maxL := maxL) (ret := ret) ho hl hx1 hini hcode hy hK hg (hsize.trans hml.symm) (argsL := As) (rest := rest) (fun sig h => hn.trans (hlen sig h)) hstack hW (by rw [hb]; exact hdg)
    (fun vm₁ hW₁ => ⟨hf.1, hf.2, hPc (T.setVm vm₁) hT hW₁⟩) with ⟨v, vm₁, ⟨U', l2, c2, s2⟩, hW₁, X', ⟨g', mk, t, L, e1, e2, hq, h1, hL, h2, h3⟩, st⟩ | ⟨q, vm₁, ⟨U', l2, c2, s2⟩, hW₁, X', ⟨g', mk, t, L, E, ce, e1, e2, hq, hce, hcv, hcl, h1, hL, h2, h3⟩, st⟩
  · dsimp only [Pt.U, Pt.locs, Pt.cells, Pt.slots] at X' e1 e2 h1 h2 h3 st
    subst h1; subst h2; subst h3
    exact Or.inl ⟨v, (T.setVm vm₁).calling g' mk As.toArray, t, U', L, hT, X', hL, e1, e2, hq, st⟩
  · dsimp only [Pt.U, Pt.locs, Pt.cells, Pt.slots] at X' e1 e2 h1 h2 h3 st hcl
    subst h1; subst h2; subst h3
    exact Or.inr ⟨q, (T.setVm vm₁).calling g' mk As.toArray, t, U', L, E, ce, hT, X', hL, e1, e2, hq, hce, hcv, vx_cls hW₁ hcl, st⟩
end
end
section
def RX0 : String := "CoverTrees$Graph"
def TX0 : u_T := fun k => match k with
  | 0 => ("CoverTrees$Graph", "net", "LCoverTrees$Net;", true)
  | 1 => ("CoverTrees$Graph", "size", "I", false)
  | 2 => ("CoverTrees$Graph", "markings", "[[I", true)
  | 3 => ("CoverTrees$Graph", "next", "[[I", true)
  | 4 => ("CoverTrees$Graph", "cameFrom", "[I", true)
  | 5 => ("CoverTrees$Graph", "cameBy", "[I", true)
  | 6 => ("CoverTrees$Graph", "distances", "[I", true)
  | 7 => ("CoverTrees$Graph", "ahead", "[I", true)
  | _ => ("CoverTrees$Graph", "fired", "[I", true)
def tyX0 : Nat → FieldType := fun k => match k with
  | 0 => .object "CoverTrees$Net"
  | 1 => .int
  | 2 => .array (.array .int)
  | 3 => .array (.array .int)
  | 4 => .array .int
  | 5 => .array .int
  | 6 => .array .int
  | 7 => .array .int
  | _ => .array .int
abbrev wsX00 : List Cond := u_ws RX0 TX0 9
theorem nmX0 : ∀ a, a < 9 → ∀ b, b < 9 → a ≠ b → (TX0 a).2.1 ≠ (TX0 b).2.1 := by decide +kernel
theorem tyX0_ok : ∀ k, k < 9 → parseFieldDescriptor (TX0 k).2.2.1 = some (tyX0 k) := by decide +kernel
abbrev cX0_init : ByteArray := prog_2_method_1_code
def yX0_init : MethodName := ⟨RX0, "<init>", "(LCoverTrees$Net;)V"⟩
abbrev cX0_build : ByteArray := prog_2_method_2_code
def yX0_build : MethodName := ⟨RX0, "build", "()Z"⟩
abbrev cX0_follow : ByteArray := prog_2_method_3_code
def yX0_follow : MethodName := ⟨RX0, "follow", "(I)Z"⟩
abbrev cX0_addState : ByteArray := prog_2_method_4_code
def yX0_addState : MethodName := ⟨RX0, "addState", "(III)I"⟩
abbrev cX0_lookAhead : ByteArray := prog_2_method_5_code
def yX0_lookAhead : MethodName := ⟨RX0, "lookAhead", "()V"⟩
abbrev cX0_enabledIn : ByteArray := prog_2_method_6_code
def yX0_enabledIn : MethodName := ⟨RX0, "enabledIn", "(I)I"⟩
abbrev cX0_aheadOfNext : ByteArray := prog_2_method_7_code
def yX0_aheadOfNext : MethodName := ⟨RX0, "aheadOfNext", "(I)I"⟩
abbrev cX0_stateOf : ByteArray := prog_2_method_8_code
def yX0_stateOf : MethodName := ⟨RX0, "stateOf", "([I)I"⟩
abbrev cX0_countStops : ByteArray := prog_2_method_9_code
def yX0_countStops : MethodName := ⟨RX0, "countStops", "()I"⟩
abbrev cX0_staysPossible : ByteArray := prog_2_method_10_code
def yX0_staysPossible : MethodName := ⟨RX0, "staysPossible", "(I)Z"⟩
def RX1 : String := "CoverTrees$Net"
def TX1 : u_T := fun k => match k with
  | 0 => ("CoverTrees$Net", "places", "I", false)
  | 1 => ("CoverTrees$Net", "transitions", "I", false)
  | 2 => ("CoverTrees$Net", "first", "[I", true)
  | 3 => ("CoverTrees$Net", "takes", "[[I", true)
  | _ => ("CoverTrees$Net", "gives", "[[I", true)
def tyX1 : Nat → FieldType := fun k => match k with
  | 0 => .int
  | 1 => .int
  | 2 => .array .int
  | 3 => .array (.array .int)
  | _ => .array (.array .int)
abbrev wsX10 : List Cond := u_ws RX1 TX1 5
theorem nmX1 : ∀ a, a < 5 → ∀ b, b < 5 → a ≠ b → (TX1 a).2.1 ≠ (TX1 b).2.1 := by decide +kernel
theorem tyX1_ok : ∀ k, k < 5 → parseFieldDescriptor (TX1 k).2.2.1 = some (tyX1 k) := by decide +kernel
abbrev cX1_init : ByteArray := prog_3_method_1_code
def yX1_init : MethodName := ⟨RX1, "<init>", "()V"⟩
abbrev cX1_addPlace : ByteArray := prog_3_method_2_code
def yX1_addPlace : MethodName := ⟨RX1, "addPlace", "(I)I"⟩
abbrev cX1_addTransition : ByteArray := prog_3_method_3_code
def yX1_addTransition : MethodName := ⟨RX1, "addTransition", "()I"⟩
abbrev cX1_setArc : ByteArray := prog_3_method_4_code
def yX1_setArc : MethodName := ⟨RX1, "setArc", "(IIIZ)I"⟩
abbrev cX1_enables : ByteArray := prog_3_method_5_code
def yX1_enables : MethodName := ⟨RX1, "enables", "([II)Z"⟩
abbrev cX1_fire : ByteArray := prog_3_method_6_code
def yX1_fire : MethodName := ⟨RX1, "fire", "([II[I)V"⟩
def RX2 : String := "CoverTrees$Tree"
def TX2 : u_T := fun k => match k with
  | 0 => ("CoverTrees$Tree", "net", "LCoverTrees$Net;", true)
  | 1 => ("CoverTrees$Tree", "size", "I", false)
  | 2 => ("CoverTrees$Tree", "firstEndless", "I", false)
  | 3 => ("CoverTrees$Tree", "depthOfRepeat", "I", false)
  | 4 => ("CoverTrees$Tree", "markings", "[[I", true)
  | 5 => ("CoverTrees$Tree", "parents", "[I", true)
  | 6 => ("CoverTrees$Tree", "cameBy", "[I", true)
  | 7 => ("CoverTrees$Tree", "depths", "[I", true)
  | _ => ("CoverTrees$Tree", "copies", "[Z", true)
def tyX2 : Nat → FieldType := fun k => match k with
  | 0 => .object "CoverTrees$Net"
  | 1 => .int
  | 2 => .int
  | 3 => .int
  | 4 => .array (.array .int)
  | 5 => .array .int
  | 6 => .array .int
  | 7 => .array .int
  | _ => .array .boolean
abbrev wsX20 : List Cond := u_ws RX2 TX2 9
theorem nmX2 : ∀ a, a < 9 → ∀ b, b < 9 → a ≠ b → (TX2 a).2.1 ≠ (TX2 b).2.1 := by decide +kernel
theorem tyX2_ok : ∀ k, k < 9 → parseFieldDescriptor (TX2 k).2.2.1 = some (tyX2 k) := by decide +kernel
abbrev cX2_init : ByteArray := prog_4_method_1_code
def yX2_init : MethodName := ⟨RX2, "<init>", "(LCoverTrees$Net;)V"⟩
abbrev cX2_grow : ByteArray := prog_4_method_2_code
def yX2_grow : MethodName := ⟨RX2, "grow", "()Z"⟩
abbrev cX2_addRoot : ByteArray := prog_4_method_3_code
def yX2_addRoot : MethodName := ⟨RX2, "addRoot", "()V"⟩
abbrev cX2_addChild : ByteArray := prog_4_method_4_code
def yX2_addChild : MethodName := ⟨RX2, "addChild", "(II)I"⟩
abbrev cX2_makeEndlessWhatRepeats : ByteArray := prog_4_method_5_code
def yX2_makeEndlessWhatRepeats : MethodName := ⟨RX2, "makeEndlessWhatRepeats", "(I)V"⟩
abbrev cX2_makeEndlessWhereMore : ByteArray := prog_4_method_6_code
def yX2_makeEndlessWhereMore : MethodName := ⟨RX2, "makeEndlessWhereMore", "([I[I)V"⟩
abbrev cX2_noteFirstEndless : ByteArray := prog_4_method_7_code
def yX2_noteFirstEndless : MethodName := ⟨RX2, "noteFirstEndless", "(II)V"⟩
abbrev cX2_isAmongEarlier : ByteArray := prog_4_method_8_code
def yX2_isAmongEarlier : MethodName := ⟨RX2, "isAmongEarlier", "(I)Z"⟩
abbrev cX2_hasEndless : ByteArray := prog_4_method_9_code
def yX2_hasEndless : MethodName := ⟨RX2, "hasEndless", "()Z"⟩
abbrev cX2_stepToFirstEndless : ByteArray := prog_4_method_10_code
def yX2_stepToFirstEndless : MethodName := ⟨RX2, "stepToFirstEndless", "(I)I"⟩
abbrev cX2_greatestCount : ByteArray := prog_4_method_11_code
def yX2_greatestCount : MethodName := ⟨RX2, "greatestCount", "(I)I"⟩
abbrev cX2_hasNodeCovering : ByteArray := prog_4_method_12_code
def yX2_hasNodeCovering : MethodName := ⟨RX2, "hasNodeCovering", "([I)Z"⟩
abbrev cX2_hasNodeEnabling : ByteArray := prog_4_method_13_code
def yX2_hasNodeEnabling : MethodName := ⟨RX2, "hasNodeEnabling", "(I)Z"⟩
def RX3 : String := "CoverTrees"
def TX3 : u_T := fun k => match k with
  | 0 => ("CoverTrees", "net", "LCoverTrees$Net;", true)
  | 1 => ("CoverTrees", "target", "[I", true)
  | 2 => ("CoverTrees", "tree", "LCoverTrees$Tree;", true)
  | _ => ("CoverTrees", "graph", "LCoverTrees$Graph;", true)
def tyX3 : Nat → FieldType := fun k => match k with
  | 0 => .object "CoverTrees$Net"
  | 1 => .array .int
  | 2 => .object "CoverTrees$Tree"
  | _ => .object "CoverTrees$Graph"
abbrev wsX30 : List Cond := u_ws RX3 TX3 4
theorem nmX3 : ∀ a, a < 4 → ∀ b, b < 4 → a ≠ b → (TX3 a).2.1 ≠ (TX3 b).2.1 := by decide +kernel
theorem tyX3_ok : ∀ k, k < 4 → parseFieldDescriptor (TX3 k).2.2.1 = some (tyX3 k) := by decide +kernel
abbrev cX3_init : ByteArray := prog_1_method_1_code
def yX3_init : MethodName := ⟨RX3, "<init>", "()V"⟩
abbrev cX3_place : ByteArray := prog_1_method_2_code
def yX3_place : MethodName := ⟨RX3, "place", "(I)I"⟩
abbrev cX3_transition : ByteArray := prog_1_method_3_code
def yX3_transition : MethodName := ⟨RX3, "transition", "()I"⟩
abbrev cX3_arc : ByteArray := prog_1_method_4_code
def yX3_arc : MethodName := ⟨RX3, "arc", "(IIIZ)I"⟩
abbrev cX3_tokens : ByteArray := prog_1_method_5_code
def yX3_tokens : MethodName := ⟨RX3, "tokens", "(II)V"⟩
abbrev cX3_explore : ByteArray := prog_1_method_6_code
def yX3_explore : MethodName := ⟨RX3, "explore", "()I"⟩
abbrev cX3_count : ByteArray := prog_1_method_7_code
def yX3_count : MethodName := ⟨RX3, "count", "(II)I"⟩
abbrev cX3_node : ByteArray := prog_1_method_8_code
def yX3_node : MethodName := ⟨RX3, "node", "(II)I"⟩
abbrev cX3_bound : ByteArray := prog_1_method_9_code
def yX3_bound : MethodName := ⟨RX3, "bound", "(I)I"⟩
abbrev cX3_want : ByteArray := prog_1_method_10_code
def yX3_want : MethodName := ⟨RX3, "want", "(II)V"⟩
abbrev cX3_covered : ByteArray := prog_1_method_11_code
def yX3_covered : MethodName := ⟨RX3, "covered", "()Z"⟩
abbrev cX3_possible : ByteArray := prog_1_method_12_code
def yX3_possible : MethodName := ⟨RX3, "possible", "(I)Z"⟩
abbrev cX3_growth : ByteArray := prog_1_method_13_code
def yX3_growth : MethodName := ⟨RX3, "growth", "(I)I"⟩
abbrev cX3_graph : ByteArray := prog_1_method_14_code
def yX3_graph : MethodName := ⟨RX3, "graph", "()I"⟩
abbrev cX3_reached : ByteArray := prog_1_method_15_code
def yX3_reached : MethodName := ⟨RX3, "reached", "()I"⟩
abbrev cX3_distance : ByteArray := prog_1_method_16_code
def yX3_distance : MethodName := ⟨RX3, "distance", "(I)I"⟩
abbrev cX3_found : ByteArray := prog_1_method_17_code
def yX3_found : MethodName := ⟨RX3, "found", "(IZ)I"⟩
abbrev cX3_stops : ByteArray := prog_1_method_18_code
def yX3_stops : MethodName := ⟨RX3, "stops", "()I"⟩
abbrev cX3_live : ByteArray := prog_1_method_19_code
def yX3_live : MethodName := ⟨RX3, "live", "(I)Z"⟩
abbrev cX3_discard : ByteArray := prog_1_method_20_code
def yX3_discard : MethodName := ⟨RX3, "discard", "()V"⟩
abbrev cX3_needRange : ByteArray := prog_1_method_21_code
def yX3_needRange : MethodName := ⟨RX3, "needRange", "(II)V"⟩
abbrev cX3_needPlace : ByteArray := prog_1_method_22_code
def yX3_needPlace : MethodName := ⟨RX3, "needPlace", "(I)V"⟩
abbrev cX3_needTransition : ByteArray := prog_1_method_23_code
def yX3_needTransition : MethodName := ⟨RX3, "needTransition", "(I)V"⟩
abbrev cX3_needTree : ByteArray := prog_1_method_24_code
def yX3_needTree : MethodName := ⟨RX3, "needTree", "()V"⟩
abbrev cX3_needNode : ByteArray := prog_1_method_25_code
def yX3_needNode : MethodName := ⟨RX3, "needNode", "(I)V"⟩
abbrev cX3_needGraph : ByteArray := prog_1_method_26_code
def yX3_needGraph : MethodName := ⟨RX3, "needGraph", "()V"⟩
abbrev cX3_needState : ByteArray := prog_1_method_27_code
def yX3_needState : MethodName := ⟨RX3, "needState", "(I)V"⟩
abbrev cX3_asTold : ByteArray := prog_1_method_28_code
def yX3_asTold : MethodName := ⟨RX3, "asTold", "(I)I"⟩
abbrev cX3_covers : ByteArray := prog_1_method_29_code
def yX3_covers : MethodName := ⟨RX3, "covers", "([I[I)Z"⟩
abbrev cX3_same : ByteArray := prog_1_method_30_code
def yX3_same : MethodName := ⟨RX3, "same", "([I[I)Z"⟩
abbrev cX3_copyInto : ByteArray := prog_1_method_31_code
def yX3_copyInto : MethodName := ⟨RX3, "copyInto", "([I[I)V"⟩
def RX4 : String := "CoverTreesModel"
def TX4 : u_T := fun k => match k with
  | 0 => ("CoverTreesModel", "code", "I", false)
  | 1 => ("CoverTreesModel", "places", "I", false)
  | 2 => ("CoverTreesModel", "transitions", "I", false)
  | 3 => ("CoverTreesModel", "first", "[I", true)
  | 4 => ("CoverTreesModel", "target", "[I", true)
  | 5 => ("CoverTreesModel", "takes", "[I", true)
  | 6 => ("CoverTreesModel", "gives", "[I", true)
  | 7 => ("CoverTreesModel", "nodes", "I", false)
  | 8 => ("CoverTreesModel", "marks", "[I", true)
  | 9 => ("CoverTreesModel", "parent", "[I", true)
  | 10 => ("CoverTreesModel", "by", "[I", true)
  | 11 => ("CoverTreesModel", "nextOf", "[I", true)
  | 12 => ("CoverTreesModel", "copy", "[Z", true)
  | 13 => ("CoverTreesModel", "grown", "I", false)
  | 14 => ("CoverTreesModel", "source", "I", false)
  | 15 => ("CoverTreesModel", "states", "I", false)
  | 16 => ("CoverTreesModel", "counts", "[I", true)
  | 17 => ("CoverTreesModel", "leads", "[I", true)
  | 18 => ("CoverTreesModel", "from", "[I", true)
  | 19 => ("CoverTreesModel", "way", "[I", true)
  | 20 => ("CoverTreesModel", "can", "[Z", true)
  | _ => ("CoverTreesModel", "work", "[I", true)
def tyX4 : Nat → FieldType := fun k => match k with
  | 0 => .int
  | 1 => .int
  | 2 => .int
  | 3 => .array .int
  | 4 => .array .int
  | 5 => .array .int
  | 6 => .array .int
  | 7 => .int
  | 8 => .array .int
  | 9 => .array .int
  | 10 => .array .int
  | 11 => .array .int
  | 12 => .array .boolean
  | 13 => .int
  | 14 => .int
  | 15 => .int
  | 16 => .array .int
  | 17 => .array .int
  | 18 => .array .int
  | 19 => .array .int
  | 20 => .array .boolean
  | _ => .array .int
abbrev wsX40 : List Cond := u_ws RX4 TX4 22
theorem nmX4 : ∀ a, a < 22 → ∀ b, b < 22 → a ≠ b → (TX4 a).2.1 ≠ (TX4 b).2.1 := by decide +kernel
theorem tyX4_ok : ∀ k, k < 22 → parseFieldDescriptor (TX4 k).2.2.1 = some (tyX4 k) := by decide +kernel
abbrev cX4_init : ByteArray := prog_6_method_1_code
def yX4_init : MethodName := ⟨RX4, "<init>", "()V"⟩
abbrev cX4_thrown : ByteArray := prog_6_method_2_code
def yX4_thrown : MethodName := ⟨RX4, "thrown", "()I"⟩
abbrev cX4_discard : ByteArray := prog_6_method_3_code
def yX4_discard : MethodName := ⟨RX4, "discard", "()V"⟩
abbrev cX4_noPlace : ByteArray := prog_6_method_4_code
def yX4_noPlace : MethodName := ⟨RX4, "noPlace", "(I)Z"⟩
abbrev cX4_noTransition : ByteArray := prog_6_method_5_code
def yX4_noTransition : MethodName := ⟨RX4, "noTransition", "(I)Z"⟩
abbrev cX4_place : ByteArray := prog_6_method_6_code
def yX4_place : MethodName := ⟨RX4, "place", "(I)I"⟩
abbrev cX4_transition : ByteArray := prog_6_method_7_code
def yX4_transition : MethodName := ⟨RX4, "transition", "()I"⟩
abbrev cX4_arc : ByteArray := prog_6_method_8_code
def yX4_arc : MethodName := ⟨RX4, "arc", "(IIIZ)I"⟩
abbrev cX4_tokens : ByteArray := prog_6_method_9_code
def yX4_tokens : MethodName := ⟨RX4, "tokens", "(II)V"⟩
abbrev cX4_enabledAt : ByteArray := prog_6_method_10_code
def yX4_enabledAt : MethodName := ⟨RX4, "enabledAt", "(II)Z"⟩
abbrev cX4_below : ByteArray := prog_6_method_11_code
def yX4_below : MethodName := ⟨RX4, "below", "(I)Z"⟩
abbrev cX4_sameAs : ByteArray := prog_6_method_12_code
def yX4_sameAs : MethodName := ⟨RX4, "sameAs", "(I)Z"⟩
abbrev cX4_addNode : ByteArray := prog_6_method_13_code
def yX4_addNode : MethodName := ⟨RX4, "addNode", "(II)V"⟩
abbrev cX4_fire : ByteArray := prog_6_method_14_code
def yX4_fire : MethodName := ⟨RX4, "fire", "(II)V"⟩
abbrev cX4_explore : ByteArray := prog_6_method_15_code
def yX4_explore : MethodName := ⟨RX4, "explore", "()I"⟩
abbrev cX4_told : ByteArray := prog_6_method_16_code
def yX4_told : MethodName := ⟨RX4, "told", "(I)I"⟩
abbrev cX4_count : ByteArray := prog_6_method_17_code
def yX4_count : MethodName := ⟨RX4, "count", "(II)I"⟩
abbrev cX4_node : ByteArray := prog_6_method_18_code
def yX4_node : MethodName := ⟨RX4, "node", "(II)I"⟩
abbrev cX4_greatest : ByteArray := prog_6_method_19_code
def yX4_greatest : MethodName := ⟨RX4, "greatest", "(I)I"⟩
abbrev cX4_bound : ByteArray := prog_6_method_20_code
def yX4_bound : MethodName := ⟨RX4, "bound", "(I)I"⟩
abbrev cX4_want : ByteArray := prog_6_method_21_code
def yX4_want : MethodName := ⟨RX4, "want", "(II)V"⟩
abbrev cX4_covered : ByteArray := prog_6_method_22_code
def yX4_covered : MethodName := ⟨RX4, "covered", "()Z"⟩
abbrev cX4_possible : ByteArray := prog_6_method_23_code
def yX4_possible : MethodName := ⟨RX4, "possible", "(I)Z"⟩
abbrev cX4_depth : ByteArray := prog_6_method_24_code
def yX4_depth : MethodName := ⟨RX4, "depth", "(I)I"⟩
abbrev cX4_growth : ByteArray := prog_6_method_25_code
def yX4_growth : MethodName := ⟨RX4, "growth", "(I)I"⟩
abbrev cX4_anyEndless : ByteArray := prog_6_method_26_code
def yX4_anyEndless : MethodName := ⟨RX4, "anyEndless", "()Z"⟩
abbrev cX4_enabledIn : ByteArray := prog_6_method_27_code
def yX4_enabledIn : MethodName := ⟨RX4, "enabledIn", "(II)Z"⟩
abbrev cX4_find : ByteArray := prog_6_method_28_code
def yX4_find : MethodName := ⟨RX4, "find", "()I"⟩
abbrev cX4_addState : ByteArray := prog_6_method_29_code
def yX4_addState : MethodName := ⟨RX4, "addState", "(II)V"⟩
abbrev cX4_graph : ByteArray := prog_6_method_30_code
def yX4_graph : MethodName := ⟨RX4, "graph", "()I"⟩
abbrev cX4_noState : ByteArray := prog_6_method_31_code
def yX4_noState : MethodName := ⟨RX4, "noState", "(I)Z"⟩
abbrev cX4_reached : ByteArray := prog_6_method_32_code
def yX4_reached : MethodName := ⟨RX4, "reached", "()I"⟩
abbrev cX4_distance : ByteArray := prog_6_method_33_code
def yX4_distance : MethodName := ⟨RX4, "distance", "(I)I"⟩
abbrev cX4_found : ByteArray := prog_6_method_34_code
def yX4_found : MethodName := ⟨RX4, "found", "(IZ)I"⟩
abbrev cX4_stops : ByteArray := prog_6_method_35_code
def yX4_stops : MethodName := ⟨RX4, "stops", "()I"⟩
abbrev cX4_live : ByteArray := prog_6_method_36_code
def yX4_live : MethodName := ⟨RX4, "live", "(I)Z"⟩
def RJ9 : String := "java/lang/Math"
def TJ9 : u_T := fun k => match k with
  | _ => ("", "", "", false)
def tyJ9 : Nat → FieldType := fun k => match k with
  | _ => .int
abbrev wsJ90 : List Cond := u_ws RJ9 TJ9 0
theorem nmJ9 : ∀ a, a < 0 → ∀ b, b < 0 → a ≠ b → (TJ9 a).2.1 ≠ (TJ9 b).2.1 := by decide +kernel
theorem tyJ9_ok : ∀ k, k < 0 → parseFieldDescriptor (TJ9 k).2.2.1 = some (tyJ9 k) := by decide +kernel
abbrev cJ9_max_7cf53 : ByteArray := prog_11_method_65_code
def yJ9_max_7cf53 : MethodName := ⟨RJ9, "max", "(II)I"⟩
def RJ0 : String := "java/lang/String"
def TJ0 : u_T := fun k => match k with
  | _ => ("", "", "", false)
def tyJ0 : Nat → FieldType := fun k => match k with
  | _ => .int
abbrev wsJ00 : List Cond := u_ws RJ0 TJ0 0
theorem nmJ0 : ∀ a, a < 0 → ∀ b, b < 0 → a ≠ b → (TJ0 a).2.1 ≠ (TJ0 b).2.1 := by decide +kernel
theorem tyJ0_ok : ∀ k, k < 0 → parseFieldDescriptor (TJ0 k).2.2.1 = some (tyJ0 k) := by decide +kernel
def RJ10 : String := "java/lang/System"
def TJ10 : u_T := fun k => match k with
  | _ => ("", "", "", false)
def tyJ10 : Nat → FieldType := fun k => match k with
  | _ => .int
abbrev wsJ100 : List Cond := u_ws RJ10 TJ10 0
theorem nmJ10 : ∀ a, a < 0 → ∀ b, b < 0 → a ≠ b → (TJ10 a).2.1 ≠ (TJ10 b).2.1 := by decide +kernel
theorem tyJ10_ok : ∀ k, k < 0 → parseFieldDescriptor (TJ10 k).2.2.1 = some (tyJ10 k) := by decide +kernel
def RL : String := "CoverTreesLaw"
abbrev cL_place : ByteArray := method_3_code
def yL_place : MethodName := ⟨RL, "place", "(LCoverTrees;I[J)I"⟩
abbrev cL_transition : ByteArray := method_4_code
def yL_transition : MethodName := ⟨RL, "transition", "(LCoverTrees;[J)I"⟩
abbrev cL_arc : ByteArray := method_5_code
def yL_arc : MethodName := ⟨RL, "arc", "(LCoverTrees;IIIZ[J)I"⟩
abbrev cL_tokens : ByteArray := method_6_code
def yL_tokens : MethodName := ⟨RL, "tokens", "(LCoverTrees;II)I"⟩
abbrev cL_explore : ByteArray := method_7_code
def yL_explore : MethodName := ⟨RL, "explore", "(LCoverTrees;[J)I"⟩
abbrev cL_count : ByteArray := method_8_code
def yL_count : MethodName := ⟨RL, "count", "(LCoverTrees;II[J)I"⟩
abbrev cL_node : ByteArray := method_9_code
def yL_node : MethodName := ⟨RL, "node", "(LCoverTrees;II[J)I"⟩
abbrev cL_bound : ByteArray := method_10_code
def yL_bound : MethodName := ⟨RL, "bound", "(LCoverTrees;I[J)I"⟩
abbrev cL_want : ByteArray := method_11_code
def yL_want : MethodName := ⟨RL, "want", "(LCoverTrees;II)I"⟩
abbrev cL_covered : ByteArray := method_12_code
def yL_covered : MethodName := ⟨RL, "covered", "(LCoverTrees;[J)I"⟩
abbrev cL_possible : ByteArray := method_13_code
def yL_possible : MethodName := ⟨RL, "possible", "(LCoverTrees;I[J)I"⟩
abbrev cL_growth : ByteArray := method_14_code
def yL_growth : MethodName := ⟨RL, "growth", "(LCoverTrees;I[J)I"⟩
abbrev cL_graph : ByteArray := method_15_code
def yL_graph : MethodName := ⟨RL, "graph", "(LCoverTrees;[J)I"⟩
abbrev cL_reached : ByteArray := method_16_code
def yL_reached : MethodName := ⟨RL, "reached", "(LCoverTrees;[J)I"⟩
abbrev cL_distance : ByteArray := method_17_code
def yL_distance : MethodName := ⟨RL, "distance", "(LCoverTrees;I[J)I"⟩
abbrev cL_found : ByteArray := method_18_code
def yL_found : MethodName := ⟨RL, "found", "(LCoverTrees;IZ[J)I"⟩
abbrev cL_stops : ByteArray := method_19_code
def yL_stops : MethodName := ⟨RL, "stops", "(LCoverTrees;[J)I"⟩
abbrev cL_live : ByteArray := method_20_code
def yL_live : MethodName := ⟨RL, "live", "(LCoverTrees;I[J)I"⟩
abbrev cL_law : ByteArray := code
def yL_law : MethodName := ⟨RL, "law", "([I)Z"⟩
def wsX0_init : List Cond := .code yX0_init cX0_init 2 none :: ([.methodLink RX0 3 objectInit, .instanceMethod objectInit, .code objectInit ⟨#[0xb1]⟩ 1 none, .classLink RX0 9 "[[I", .arrayClass .int, .fieldLink RX0 11 "CoverTrees$Graph" "markings" "[[I", .fieldLink RX0 16 "CoverTrees$Graph" "next" "[[I", .fieldLink RX0 19 "CoverTrees$Graph" "cameFrom" "[I", .fieldLink RX0 23 "CoverTrees$Graph" "cameBy" "[I", .fieldLink RX0 26 "CoverTrees$Graph" "distances" "[I", .fieldLink RX0 29 "CoverTrees$Graph" "ahead" "[I", .fieldLink RX0 32 "CoverTrees$Graph" "fired" "[I", .fieldLink RX0 35 "CoverTrees$Graph" "net" "LCoverTrees$Net;"] ++ wsX00)
def wsX3_copyInto : List Cond := .code yX3_copyInto cX3_copyInto 2 none :: ([.methodLink RX3 190 arraycopyName, .native arraycopyName, .static arraycopyName, .initialized "java/lang/System"])
def wsX0_addState : List Cond := .code yX0_addState cX0_addState 5 (some .int) :: ([.fieldLink RX0 48 "CoverTrees$Graph" "size" "I", .fieldLink RX0 11 "CoverTrees$Graph" "markings" "[[I", .fieldLink RX0 32 "CoverTrees$Graph" "fired" "[I", .fieldLink RX0 19 "CoverTrees$Graph" "cameFrom" "[I", .fieldLink RX0 23 "CoverTrees$Graph" "cameBy" "[I", .fieldLink RX0 26 "CoverTrees$Graph" "distances" "[I", .static yX3_copyInto, .initialized RX3, .code yX3_copyInto cX3_copyInto 2 none, .methodLink RX3 190 arraycopyName, .native arraycopyName, .static arraycopyName, .initialized "java/lang/System"] ++ wsX00)
def wsX3_covers : List Cond := .code yX3_covers cX3_covers 3 (some .boolean) :: ([])
def wsX1_enables : List Cond := .code yX1_enables cX1_enables 3 (some .boolean) :: ([.fieldLink RX1 17 "CoverTrees$Net" "takes" "[[I", .static yX3_covers, .initialized RX3, .code yX3_covers cX3_covers 3 (some .boolean)] ++ wsX10)
def wsX1_fire : List Cond := .code yX1_fire cX1_fire 6 none :: ([.constant RX1 34 (1000000), .fieldLink RX1 17 "CoverTrees$Net" "takes" "[[I", .fieldLink RX1 20 "CoverTrees$Net" "gives" "[[I"] ++ wsX10)
def wsX3_same : List Cond := .code yX3_same cX3_same 3 (some .boolean) :: ([])
def wsX0_stateOf : List Cond := .code yX0_stateOf cX0_stateOf 3 (some .int) :: ([.fieldLink RX0 48 "CoverTrees$Graph" "size" "I", .fieldLink RX0 11 "CoverTrees$Graph" "markings" "[[I", .static yX3_same, .initialized RX3, .code yX3_same cX3_same 3 (some .boolean)] ++ wsX00)
def wsX0_follow_r1 : List Cond := [Cond.fieldLink RX0 35 "CoverTrees$Graph" "net" "LCoverTrees$Net;", Cond.fieldLink RX0 16 "CoverTrees$Graph" "next" "[[I", Cond.fieldLink RX0 11 "CoverTrees$Graph" "markings" "[[I", Cond.fieldLink RX0 32 "CoverTrees$Graph" "fired" "[I", Cond.fieldLink RX0 48 "CoverTrees$Graph" "size" "I", Cond.fieldLink RX0 26 "CoverTrees$Graph" "distances" "[I", Cond.methodLink RX0 66 yX1_enables, Cond.instanceMethod yX1_enables, Cond.selects RX1 yX1_enables yX1_enables, Cond.initialized RX1, Cond.code yX1_enables cX1_enables 3 (some .boolean), Cond.fieldLink RX1 17 "CoverTrees$Net" "takes" "[[I", Cond.static yX3_covers, Cond.initialized RX3, Cond.code yX3_covers cX3_covers 3 (some .boolean), Cond.methodLink RX0 70 yX1_fire, Cond.instanceMethod yX1_fire, Cond.selects RX1 yX1_fire yX1_fire, Cond.code yX1_fire cX1_fire 6 none, Cond.constant RX1 34 (1000000), Cond.fieldLink RX1 20 "CoverTrees$Net" "gives" "[[I", Cond.methodLink RX0 74 yX0_stateOf, Cond.instanceMethod yX0_stateOf, Cond.selects RX0 yX0_stateOf yX0_stateOf]
def wsX0_follow_r2 : List Cond := [Cond.initialized RX0, Cond.code yX0_stateOf cX0_stateOf 3 (some .int), Cond.static yX3_same, Cond.code yX3_same cX3_same 3 (some .boolean), Cond.methodLink RX0 52 yX0_addState, Cond.instanceMethod yX0_addState, Cond.selects RX0 yX0_addState yX0_addState, Cond.code yX0_addState cX0_addState 5 (some .int), Cond.fieldLink RX0 19 "CoverTrees$Graph" "cameFrom" "[I", Cond.fieldLink RX0 23 "CoverTrees$Graph" "cameBy" "[I", Cond.static yX3_copyInto, Cond.code yX3_copyInto cX3_copyInto 2 none, Cond.methodLink RX3 190 arraycopyName, Cond.native arraycopyName, Cond.static arraycopyName, Cond.initialized "java/lang/System"]
def wsX0_follow : List Cond := .code yX0_follow cX0_follow 4 (some .boolean) :: ((wsX0_follow_r1 ++ wsX0_follow_r2) ++ wsX00 ++ wsX10)
def wsX0_enabledIn : List Cond := .code yX0_enabledIn cX0_enabledIn 4 (some .int) :: ([.fieldLink RX0 35 "CoverTrees$Graph" "net" "LCoverTrees$Net;", .fieldLink RX0 16 "CoverTrees$Graph" "next" "[[I"] ++ wsX00 ++ wsX10)
def wsX0_aheadOfNext : List Cond := .code yX0_aheadOfNext cX0_aheadOfNext 5 (some .int) :: ([.fieldLink RX0 35 "CoverTrees$Graph" "net" "LCoverTrees$Net;", .fieldLink RX0 16 "CoverTrees$Graph" "next" "[[I", .fieldLink RX0 29 "CoverTrees$Graph" "ahead" "[I"] ++ wsX00 ++ wsX10)
def wsX0_lookAhead : List Cond := .code yX0_lookAhead cX0_lookAhead 5 none :: ([.fieldLink RX0 48 "CoverTrees$Graph" "size" "I", .fieldLink RX0 29 "CoverTrees$Graph" "ahead" "[I", .methodLink RX0 78 yX0_enabledIn, .instanceMethod yX0_enabledIn, .selects RX0 yX0_enabledIn yX0_enabledIn, .initialized RX0, .code yX0_enabledIn cX0_enabledIn 4 (some .int), .fieldLink RX0 35 "CoverTrees$Graph" "net" "LCoverTrees$Net;", .fieldLink RX0 16 "CoverTrees$Graph" "next" "[[I", .methodLink RX0 82 yX0_aheadOfNext, .instanceMethod yX0_aheadOfNext, .selects RX0 yX0_aheadOfNext yX0_aheadOfNext, .code yX0_aheadOfNext cX0_aheadOfNext 5 (some .int)] ++ wsX00 ++ wsX10)
def wsX0_build_r1 : List Cond := [Cond.fieldLink RX0 32 "CoverTrees$Graph" "fired" "[I", Cond.fieldLink RX0 35 "CoverTrees$Graph" "net" "LCoverTrees$Net;", Cond.fieldLink RX0 48 "CoverTrees$Graph" "size" "I", Cond.static yX3_copyInto, Cond.initialized RX3, Cond.code yX3_copyInto cX3_copyInto 2 none, Cond.methodLink RX3 190 arraycopyName, Cond.native arraycopyName, Cond.static arraycopyName, Cond.initialized "java/lang/System", Cond.methodLink RX0 52 yX0_addState, Cond.instanceMethod yX0_addState, Cond.selects RX0 yX0_addState yX0_addState, Cond.initialized RX0, Cond.code yX0_addState cX0_addState 5 (some .int), Cond.fieldLink RX0 11 "CoverTrees$Graph" "markings" "[[I", Cond.fieldLink RX0 19 "CoverTrees$Graph" "cameFrom" "[I", Cond.fieldLink RX0 23 "CoverTrees$Graph" "cameBy" "[I", Cond.fieldLink RX0 26 "CoverTrees$Graph" "distances" "[I", Cond.methodLink RX0 56 yX0_follow, Cond.instanceMethod yX0_follow, Cond.selects RX0 yX0_follow yX0_follow, Cond.code yX0_follow cX0_follow 4 (some .boolean), Cond.fieldLink RX0 16 "CoverTrees$Graph" "next" "[[I"]
def wsX0_build_r2 : List Cond := [Cond.methodLink RX0 66 yX1_enables, Cond.instanceMethod yX1_enables, Cond.selects RX1 yX1_enables yX1_enables, Cond.initialized RX1, Cond.code yX1_enables cX1_enables 3 (some .boolean), Cond.fieldLink RX1 17 "CoverTrees$Net" "takes" "[[I", Cond.static yX3_covers, Cond.code yX3_covers cX3_covers 3 (some .boolean), Cond.methodLink RX0 70 yX1_fire, Cond.instanceMethod yX1_fire, Cond.selects RX1 yX1_fire yX1_fire, Cond.code yX1_fire cX1_fire 6 none, Cond.constant RX1 34 (1000000), Cond.fieldLink RX1 20 "CoverTrees$Net" "gives" "[[I", Cond.methodLink RX0 74 yX0_stateOf, Cond.instanceMethod yX0_stateOf, Cond.selects RX0 yX0_stateOf yX0_stateOf, Cond.code yX0_stateOf cX0_stateOf 3 (some .int), Cond.static yX3_same, Cond.code yX3_same cX3_same 3 (some .boolean), Cond.methodLink RX0 60 yX0_lookAhead, Cond.instanceMethod yX0_lookAhead, Cond.selects RX0 yX0_lookAhead yX0_lookAhead, Cond.code yX0_lookAhead cX0_lookAhead 5 none]
def wsX0_build_r3 : List Cond := [Cond.fieldLink RX0 29 "CoverTrees$Graph" "ahead" "[I", Cond.methodLink RX0 78 yX0_enabledIn, Cond.instanceMethod yX0_enabledIn, Cond.selects RX0 yX0_enabledIn yX0_enabledIn, Cond.code yX0_enabledIn cX0_enabledIn 4 (some .int), Cond.methodLink RX0 82 yX0_aheadOfNext, Cond.instanceMethod yX0_aheadOfNext, Cond.selects RX0 yX0_aheadOfNext yX0_aheadOfNext, Cond.code yX0_aheadOfNext cX0_aheadOfNext 5 (some .int)]
def wsX0_build : List Cond := .code yX0_build cX0_build 2 (some .boolean) :: ((wsX0_build_r1 ++ (wsX0_build_r2 ++ wsX0_build_r3)) ++ wsX00 ++ wsX10)
def wsX0_countStops : List Cond := .code yX0_countStops cX0_countStops 3 (some .int) :: ([.fieldLink RX0 48 "CoverTrees$Graph" "size" "I", .methodLink RX0 78 yX0_enabledIn, .instanceMethod yX0_enabledIn, .selects RX0 yX0_enabledIn yX0_enabledIn, .initialized RX0, .code yX0_enabledIn cX0_enabledIn 4 (some .int), .fieldLink RX0 35 "CoverTrees$Graph" "net" "LCoverTrees$Net;", .fieldLink RX0 16 "CoverTrees$Graph" "next" "[[I"] ++ wsX00 ++ wsX10)
def wsX0_staysPossible : List Cond := .code yX0_staysPossible cX0_staysPossible 3 (some .boolean) :: ([.fieldLink RX0 48 "CoverTrees$Graph" "size" "I", .fieldLink RX0 29 "CoverTrees$Graph" "ahead" "[I"] ++ wsX00)
def wsX1_init : List Cond := .code yX1_init cX1_init 1 none :: ([.methodLink RX1 3 objectInit, .instanceMethod objectInit, .code objectInit ⟨#[0xb1]⟩ 1 none, .arrayClass .int, .fieldLink RX1 9 "CoverTrees$Net" "first" "[I", .classLink RX1 15 "[[I", .fieldLink RX1 17 "CoverTrees$Net" "takes" "[[I", .fieldLink RX1 20 "CoverTrees$Net" "gives" "[[I"] ++ wsX10)
def wsX1_addPlace : List Cond := .code yX1_addPlace cX1_addPlace 2 (some .int) :: ([.fieldLink RX1 9 "CoverTrees$Net" "first" "[I", .fieldLink RX1 23 "CoverTrees$Net" "places" "I"] ++ wsX10)
def wsX1_addTransition : List Cond := .code yX1_addTransition cX1_addTransition 1 (some .int) :: ([.fieldLink RX1 27 "CoverTrees$Net" "transitions" "I"] ++ wsX10)
def wsX1_setArc : List Cond := .code yX1_setArc cX1_setArc 7 (some .int) :: ([.fieldLink RX1 20 "CoverTrees$Net" "gives" "[[I", .fieldLink RX1 17 "CoverTrees$Net" "takes" "[[I"] ++ wsX10)
def wsX2_init : List Cond := .code yX2_init cX2_init 2 none :: ([.methodLink RX2 3 objectInit, .instanceMethod objectInit, .code objectInit ⟨#[0xb1]⟩ 1 none, .classLink RX2 9 "[[I", .arrayClass .int, .fieldLink RX2 11 "CoverTrees$Tree" "markings" "[[I", .fieldLink RX2 16 "CoverTrees$Tree" "parents" "[I", .fieldLink RX2 20 "CoverTrees$Tree" "cameBy" "[I", .fieldLink RX2 23 "CoverTrees$Tree" "depths" "[I", .arrayClass .boolean, .fieldLink RX2 26 "CoverTrees$Tree" "copies" "[Z", .fieldLink RX2 30 "CoverTrees$Tree" "net" "LCoverTrees$Net;"] ++ wsX20)
def wsX2_addRoot : List Cond := .code yX2_addRoot cX2_addRoot 1 none :: ([.fieldLink RX2 11 "CoverTrees$Tree" "markings" "[[I", .fieldLink RX2 30 "CoverTrees$Tree" "net" "LCoverTrees$Net;", .fieldLink RX2 16 "CoverTrees$Tree" "parents" "[I", .fieldLink RX2 20 "CoverTrees$Tree" "cameBy" "[I", .fieldLink RX2 23 "CoverTrees$Tree" "depths" "[I", .fieldLink RX2 26 "CoverTrees$Tree" "copies" "[Z", .fieldLink RX2 61 "CoverTrees$Tree" "firstEndless" "I", .fieldLink RX2 47 "CoverTrees$Tree" "size" "I", .static yX3_copyInto, .initialized RX3, .code yX3_copyInto cX3_copyInto 2 none, .methodLink RX3 190 arraycopyName, .native arraycopyName, .static arraycopyName, .initialized "java/lang/System"] ++ wsX20 ++ wsX10)
def wsX2_makeEndlessWhereMore : List Cond := .code yX2_makeEndlessWhereMore cX2_makeEndlessWhereMore 4 none :: ([.constant RX2 90 (1000000)])
def wsX2_noteFirstEndless : List Cond := .code yX2_noteFirstEndless cX2_noteFirstEndless 3 none :: ([.fieldLink RX2 61 "CoverTrees$Tree" "firstEndless" "I", .fieldLink RX2 91 "CoverTrees$Tree" "depthOfRepeat" "I"] ++ wsX20)
def wsX2_makeEndlessWhatRepeats : List Cond := .code yX2_makeEndlessWhatRepeats cX2_makeEndlessWhatRepeats 6 none :: ([.fieldLink RX2 11 "CoverTrees$Tree" "markings" "[[I", .fieldLink RX2 16 "CoverTrees$Tree" "parents" "[I", .fieldLink RX2 23 "CoverTrees$Tree" "depths" "[I", .static yX3_covers, .initialized RX3, .code yX3_covers cX3_covers 3 (some .boolean), .static yX3_same, .code yX3_same cX3_same 3 (some .boolean), .methodLink RX2 83 yX2_makeEndlessWhereMore, .instanceMethod yX2_makeEndlessWhereMore, .selects RX2 yX2_makeEndlessWhereMore yX2_makeEndlessWhereMore, .initialized RX2, .code yX2_makeEndlessWhereMore cX2_makeEndlessWhereMore 4 none, .constant RX2 90 (1000000), .methodLink RX2 86 yX2_noteFirstEndless, .instanceMethod yX2_noteFirstEndless, .selects RX2 yX2_noteFirstEndless yX2_noteFirstEndless, .code yX2_noteFirstEndless cX2_noteFirstEndless 3 none, .fieldLink RX2 61 "CoverTrees$Tree" "firstEndless" "I", .fieldLink RX2 91 "CoverTrees$Tree" "depthOfRepeat" "I"] ++ wsX20)
def wsX2_isAmongEarlier : List Cond := .code yX2_isAmongEarlier cX2_isAmongEarlier 3 (some .boolean) :: ([.fieldLink RX2 11 "CoverTrees$Tree" "markings" "[[I", .static yX3_same, .initialized RX3, .code yX3_same cX3_same 3 (some .boolean)] ++ wsX20)
def wsX2_addChild_r1 : List Cond := [Cond.fieldLink RX2 47 "CoverTrees$Tree" "size" "I", Cond.fieldLink RX2 30 "CoverTrees$Tree" "net" "LCoverTrees$Net;", Cond.fieldLink RX2 11 "CoverTrees$Tree" "markings" "[[I", Cond.fieldLink RX2 16 "CoverTrees$Tree" "parents" "[I", Cond.fieldLink RX2 20 "CoverTrees$Tree" "cameBy" "[I", Cond.fieldLink RX2 23 "CoverTrees$Tree" "depths" "[I", Cond.fieldLink RX2 26 "CoverTrees$Tree" "copies" "[Z", Cond.methodLink RX2 64 yX1_fire, Cond.instanceMethod yX1_fire, Cond.selects RX1 yX1_fire yX1_fire, Cond.initialized RX1, Cond.code yX1_fire cX1_fire 6 none, Cond.constant RX1 34 (1000000), Cond.fieldLink RX1 17 "CoverTrees$Net" "takes" "[[I", Cond.fieldLink RX1 20 "CoverTrees$Net" "gives" "[[I", Cond.methodLink RX2 68 yX2_makeEndlessWhatRepeats, Cond.instanceMethod yX2_makeEndlessWhatRepeats, Cond.selects RX2 yX2_makeEndlessWhatRepeats yX2_makeEndlessWhatRepeats, Cond.initialized RX2, Cond.code yX2_makeEndlessWhatRepeats cX2_makeEndlessWhatRepeats 6 none, Cond.static yX3_covers, Cond.initialized RX3, Cond.code yX3_covers cX3_covers 3 (some .boolean), Cond.static yX3_same]
def wsX2_addChild_r2 : List Cond := [Cond.code yX3_same cX3_same 3 (some .boolean), Cond.methodLink RX2 83 yX2_makeEndlessWhereMore, Cond.instanceMethod yX2_makeEndlessWhereMore, Cond.selects RX2 yX2_makeEndlessWhereMore yX2_makeEndlessWhereMore, Cond.code yX2_makeEndlessWhereMore cX2_makeEndlessWhereMore 4 none, Cond.constant RX2 90 (1000000), Cond.methodLink RX2 86 yX2_noteFirstEndless, Cond.instanceMethod yX2_noteFirstEndless, Cond.selects RX2 yX2_noteFirstEndless yX2_noteFirstEndless, Cond.code yX2_noteFirstEndless cX2_noteFirstEndless 3 none, Cond.fieldLink RX2 61 "CoverTrees$Tree" "firstEndless" "I", Cond.fieldLink RX2 91 "CoverTrees$Tree" "depthOfRepeat" "I", Cond.methodLink RX2 72 yX2_isAmongEarlier, Cond.instanceMethod yX2_isAmongEarlier, Cond.selects RX2 yX2_isAmongEarlier yX2_isAmongEarlier, Cond.code yX2_isAmongEarlier cX2_isAmongEarlier 3 (some .boolean)]
def wsX2_addChild : List Cond := .code yX2_addChild cX2_addChild 4 (some .int) :: ((wsX2_addChild_r1 ++ wsX2_addChild_r2) ++ wsX20 ++ wsX10)
def wsX2_grow_r1 : List Cond := [Cond.fieldLink RX2 26 "CoverTrees$Tree" "copies" "[Z", Cond.fieldLink RX2 30 "CoverTrees$Tree" "net" "LCoverTrees$Net;", Cond.fieldLink RX2 20 "CoverTrees$Tree" "cameBy" "[I", Cond.fieldLink RX2 16 "CoverTrees$Tree" "parents" "[I", Cond.fieldLink RX2 11 "CoverTrees$Tree" "markings" "[[I", Cond.fieldLink RX2 47 "CoverTrees$Tree" "size" "I", Cond.methodLink RX2 34 yX2_addRoot, Cond.instanceMethod yX2_addRoot, Cond.selects RX2 yX2_addRoot yX2_addRoot, Cond.initialized RX2, Cond.code yX2_addRoot cX2_addRoot 1 none, Cond.fieldLink RX2 23 "CoverTrees$Tree" "depths" "[I", Cond.fieldLink RX2 61 "CoverTrees$Tree" "firstEndless" "I", Cond.static yX3_copyInto, Cond.initialized RX3, Cond.code yX3_copyInto cX3_copyInto 2 none, Cond.methodLink RX3 190 arraycopyName, Cond.native arraycopyName, Cond.static arraycopyName, Cond.initialized "java/lang/System", Cond.methodLink RX2 43 yX1_enables, Cond.instanceMethod yX1_enables, Cond.selects RX1 yX1_enables yX1_enables, Cond.initialized RX1]
def wsX2_grow_r2 : List Cond := [Cond.code yX1_enables cX1_enables 3 (some .boolean), Cond.fieldLink RX1 17 "CoverTrees$Net" "takes" "[[I", Cond.static yX3_covers, Cond.code yX3_covers cX3_covers 3 (some .boolean), Cond.methodLink RX2 50 yX2_addChild, Cond.instanceMethod yX2_addChild, Cond.selects RX2 yX2_addChild yX2_addChild, Cond.code yX2_addChild cX2_addChild 4 (some .int), Cond.methodLink RX2 64 yX1_fire, Cond.instanceMethod yX1_fire, Cond.selects RX1 yX1_fire yX1_fire, Cond.code yX1_fire cX1_fire 6 none, Cond.constant RX1 34 (1000000), Cond.fieldLink RX1 20 "CoverTrees$Net" "gives" "[[I", Cond.methodLink RX2 68 yX2_makeEndlessWhatRepeats, Cond.instanceMethod yX2_makeEndlessWhatRepeats, Cond.selects RX2 yX2_makeEndlessWhatRepeats yX2_makeEndlessWhatRepeats, Cond.code yX2_makeEndlessWhatRepeats cX2_makeEndlessWhatRepeats 6 none, Cond.static yX3_same, Cond.code yX3_same cX3_same 3 (some .boolean), Cond.methodLink RX2 83 yX2_makeEndlessWhereMore, Cond.instanceMethod yX2_makeEndlessWhereMore, Cond.selects RX2 yX2_makeEndlessWhereMore yX2_makeEndlessWhereMore, Cond.code yX2_makeEndlessWhereMore cX2_makeEndlessWhereMore 4 none]
def wsX2_grow_r3 : List Cond := [Cond.constant RX2 90 (1000000), Cond.methodLink RX2 86 yX2_noteFirstEndless, Cond.instanceMethod yX2_noteFirstEndless, Cond.selects RX2 yX2_noteFirstEndless yX2_noteFirstEndless, Cond.code yX2_noteFirstEndless cX2_noteFirstEndless 3 none, Cond.fieldLink RX2 91 "CoverTrees$Tree" "depthOfRepeat" "I", Cond.methodLink RX2 72 yX2_isAmongEarlier, Cond.instanceMethod yX2_isAmongEarlier, Cond.selects RX2 yX2_isAmongEarlier yX2_isAmongEarlier, Cond.code yX2_isAmongEarlier cX2_isAmongEarlier 3 (some .boolean)]
def wsX2_grow : List Cond := .code yX2_grow cX2_grow 4 (some .boolean) :: ((wsX2_grow_r1 ++ (wsX2_grow_r2 ++ wsX2_grow_r3)) ++ wsX20 ++ wsX10)
def wsX2_hasEndless : List Cond := .code yX2_hasEndless cX2_hasEndless 1 (some .boolean) :: ([.fieldLink RX2 61 "CoverTrees$Tree" "firstEndless" "I"] ++ wsX20)
def wsX2_stepToFirstEndless : List Cond := .code yX2_stepToFirstEndless cX2_stepToFirstEndless 4 (some .int) :: ([.fieldLink RX2 61 "CoverTrees$Tree" "firstEndless" "I", .fieldLink RX2 23 "CoverTrees$Tree" "depths" "[I", .fieldLink RX2 16 "CoverTrees$Tree" "parents" "[I", .fieldLink RX2 20 "CoverTrees$Tree" "cameBy" "[I"] ++ wsX20)
def wsX2_greatestCount : List Cond := .code yX2_greatestCount cX2_greatestCount 4 (some .int) :: ([.fieldLink RX2 47 "CoverTrees$Tree" "size" "I", .fieldLink RX2 11 "CoverTrees$Tree" "markings" "[[I", .methodLink RX2 94 Lib.Math.max.name, .static Lib.Math.max.name, .initialized "java/lang/Math", .code Lib.Math.max.name Lib.Math.max.code 2 (some .int)] ++ wsX20)
def wsX2_hasNodeCovering : List Cond := .code yX2_hasNodeCovering cX2_hasNodeCovering 3 (some .boolean) :: ([.fieldLink RX2 47 "CoverTrees$Tree" "size" "I", .fieldLink RX2 11 "CoverTrees$Tree" "markings" "[[I", .static yX3_covers, .initialized RX3, .code yX3_covers cX3_covers 3 (some .boolean)] ++ wsX20)
def wsX2_hasNodeEnabling : List Cond := .code yX2_hasNodeEnabling cX2_hasNodeEnabling 2 (some .boolean) :: ([.fieldLink RX2 30 "CoverTrees$Tree" "net" "LCoverTrees$Net;", .methodLink RX2 102 yX2_hasNodeCovering, .instanceMethod yX2_hasNodeCovering, .selects RX2 yX2_hasNodeCovering yX2_hasNodeCovering, .initialized RX2, .code yX2_hasNodeCovering cX2_hasNodeCovering 3 (some .boolean), .fieldLink RX2 47 "CoverTrees$Tree" "size" "I", .fieldLink RX2 11 "CoverTrees$Tree" "markings" "[[I", .static yX3_covers, .initialized RX3, .code yX3_covers cX3_covers 3 (some .boolean)] ++ wsX20 ++ wsX10)
def wsX3_init_r1 : List Cond := [Cond.methodLink RX3 1 objectInit, Cond.instanceMethod objectInit, Cond.code objectInit ⟨#[0xb1]⟩ 1 none, Cond.classLink RX3 7 RX1, Cond.instantiable RX1 5, Cond.initialized RX1, Cond.fieldLink RX3 10 "CoverTrees" "net" "LCoverTrees$Net;", Cond.arrayClass .int, Cond.fieldLink RX3 16 "CoverTrees" "target" "[I", Cond.classLink RX3 20 RX2, Cond.instantiable RX2 9, Cond.initialized RX2, Cond.fieldLink RX3 25 "CoverTrees" "tree" "LCoverTrees$Tree;", Cond.classLink RX3 29 RX0, Cond.instantiable RX0 9, Cond.initialized RX0, Cond.fieldLink RX3 32 "CoverTrees" "graph" "LCoverTrees$Graph;", Cond.instanceMethod yX1_init, Cond.code yX1_init cX1_init 1 none, Cond.methodLink RX1 3 objectInit, Cond.fieldLink RX1 9 "CoverTrees$Net" "first" "[I", Cond.classLink RX1 15 "[[I", Cond.fieldLink RX1 17 "CoverTrees$Net" "takes" "[[I", Cond.fieldLink RX1 20 "CoverTrees$Net" "gives" "[[I"]
def wsX3_init_r2 : List Cond := [Cond.methodLink RX3 22 yX2_init, Cond.instanceMethod yX2_init, Cond.code yX2_init cX2_init 2 none, Cond.methodLink RX2 3 objectInit, Cond.classLink RX2 9 "[[I", Cond.fieldLink RX2 11 "CoverTrees$Tree" "markings" "[[I", Cond.fieldLink RX2 16 "CoverTrees$Tree" "parents" "[I", Cond.fieldLink RX2 20 "CoverTrees$Tree" "cameBy" "[I", Cond.fieldLink RX2 23 "CoverTrees$Tree" "depths" "[I", Cond.arrayClass .boolean, Cond.fieldLink RX2 26 "CoverTrees$Tree" "copies" "[Z", Cond.fieldLink RX2 30 "CoverTrees$Tree" "net" "LCoverTrees$Net;", Cond.methodLink RX3 31 yX0_init, Cond.instanceMethod yX0_init, Cond.code yX0_init cX0_init 2 none, Cond.methodLink RX0 3 objectInit, Cond.classLink RX0 9 "[[I", Cond.fieldLink RX0 11 "CoverTrees$Graph" "markings" "[[I", Cond.fieldLink RX0 16 "CoverTrees$Graph" "next" "[[I", Cond.fieldLink RX0 19 "CoverTrees$Graph" "cameFrom" "[I", Cond.fieldLink RX0 23 "CoverTrees$Graph" "cameBy" "[I", Cond.fieldLink RX0 26 "CoverTrees$Graph" "distances" "[I", Cond.fieldLink RX0 29 "CoverTrees$Graph" "ahead" "[I", Cond.fieldLink RX0 32 "CoverTrees$Graph" "fired" "[I"]
def wsX3_init_r3 : List Cond := [Cond.fieldLink RX0 35 "CoverTrees$Graph" "net" "LCoverTrees$Net;"]
def wsX3_init : List Cond := .code yX3_init cX3_init 1 none :: ((wsX3_init_r1 ++ (wsX3_init_r2 ++ wsX3_init_r3)) ++ wsX10 ++ wsX30 ++ wsX20 ++ wsX00)
def wsX3_needRange : List Cond := .code yX3_needRange cX3_needRange 2 none :: ([.classLink RX3 127 "java/lang/IllegalArgumentException", .initialized "java/lang/IllegalArgumentException"] ++ (vx_atS RX3 131 "java/lang/IllegalArgumentException" ["java/lang/RuntimeException", "java/lang/Exception"]).filter goodWord)
def wsX3_discard : List Cond := .code yX3_discard cX3_discard 1 none :: ([.fieldLink RX3 25 "CoverTrees" "tree" "LCoverTrees$Tree;", .fieldLink RX3 32 "CoverTrees" "graph" "LCoverTrees$Graph;"] ++ wsX30 ++ wsX20 ++ wsX00)
def wsX3_place : List Cond := .code yX3_place cX3_place 2 (some .int) :: ([.classLink RX3 44 "java/lang/IllegalStateException", .initialized "java/lang/IllegalStateException", .fieldLink RX3 10 "CoverTrees" "net" "LCoverTrees$Net;", .methodLink RX3 36 yX3_needRange, .static yX3_needRange, .initialized RX3, .code yX3_needRange cX3_needRange 2 none, .classLink RX3 127 "java/lang/IllegalArgumentException", .initialized "java/lang/IllegalArgumentException", .methodLink RX3 51 yX3_discard, .instanceMethod yX3_discard, .selects RX3 yX3_discard yX3_discard, .code yX3_discard cX3_discard 1 none, .fieldLink RX3 25 "CoverTrees" "tree" "LCoverTrees$Tree;", .fieldLink RX3 32 "CoverTrees" "graph" "LCoverTrees$Graph;", .methodLink RX3 54 yX1_addPlace, .instanceMethod yX1_addPlace, .selects RX1 yX1_addPlace yX1_addPlace, .initialized RX1, .code yX1_addPlace cX1_addPlace 2 (some .int), .fieldLink RX1 9 "CoverTrees$Net" "first" "[I", .fieldLink RX1 23 "CoverTrees$Net" "places" "I"] ++ wsX30 ++ wsX10 ++ wsX20 ++ wsX00 ++ (vx_atS RX3 48 "java/lang/IllegalStateException" ["java/lang/RuntimeException", "java/lang/Exception"]).filter goodWord ++ (vx_atS RX3 131 "java/lang/IllegalArgumentException" ["java/lang/RuntimeException", "java/lang/Exception"]).filter goodWord)
def wsX3_transition : List Cond := .code yX3_transition cX3_transition 1 (some .int) :: ([.classLink RX3 44 "java/lang/IllegalStateException", .initialized "java/lang/IllegalStateException", .fieldLink RX3 10 "CoverTrees" "net" "LCoverTrees$Net;", .methodLink RX3 51 yX3_discard, .instanceMethod yX3_discard, .selects RX3 yX3_discard yX3_discard, .initialized RX3, .code yX3_discard cX3_discard 1 none, .fieldLink RX3 25 "CoverTrees" "tree" "LCoverTrees$Tree;", .fieldLink RX3 32 "CoverTrees" "graph" "LCoverTrees$Graph;", .methodLink RX3 63 yX1_addTransition, .instanceMethod yX1_addTransition, .selects RX1 yX1_addTransition yX1_addTransition, .initialized RX1, .code yX1_addTransition cX1_addTransition 1 (some .int), .fieldLink RX1 27 "CoverTrees$Net" "transitions" "I"] ++ wsX30 ++ wsX10 ++ wsX20 ++ wsX00 ++ (vx_atS RX3 48 "java/lang/IllegalStateException" ["java/lang/RuntimeException", "java/lang/Exception"]).filter goodWord)
def wsX3_needPlace : List Cond := .code yX3_needPlace cX3_needPlace 2 none :: ([.classLink RX3 174 "java/lang/IndexOutOfBoundsException", .initialized "java/lang/IndexOutOfBoundsException", .fieldLink RX3 10 "CoverTrees" "net" "LCoverTrees$Net;"] ++ wsX30 ++ wsX10 ++ (vx_atS RX3 178 "java/lang/IndexOutOfBoundsException" ["java/lang/RuntimeException", "java/lang/Exception"]).filter goodWord)
def wsX3_needTransition : List Cond := .code yX3_needTransition cX3_needTransition 2 none :: ([.classLink RX3 174 "java/lang/IndexOutOfBoundsException", .initialized "java/lang/IndexOutOfBoundsException", .fieldLink RX3 10 "CoverTrees" "net" "LCoverTrees$Net;"] ++ wsX30 ++ wsX10 ++ (vx_atS RX3 178 "java/lang/IndexOutOfBoundsException" ["java/lang/RuntimeException", "java/lang/Exception"]).filter goodWord)
def wsX3_arc_r1 : List Cond := [Cond.fieldLink RX3 10 "CoverTrees" "net" "LCoverTrees$Net;", Cond.methodLink RX3 67 yX3_needPlace, Cond.instanceMethod yX3_needPlace, Cond.selects RX3 yX3_needPlace yX3_needPlace, Cond.initialized RX3, Cond.code yX3_needPlace cX3_needPlace 2 none, Cond.classLink RX3 174 "java/lang/IndexOutOfBoundsException", Cond.initialized "java/lang/IndexOutOfBoundsException", Cond.methodLink RX3 71 yX3_needTransition, Cond.instanceMethod yX3_needTransition, Cond.selects RX3 yX3_needTransition yX3_needTransition, Cond.code yX3_needTransition cX3_needTransition 2 none, Cond.methodLink RX3 36 yX3_needRange, Cond.static yX3_needRange, Cond.code yX3_needRange cX3_needRange 2 none, Cond.classLink RX3 127 "java/lang/IllegalArgumentException", Cond.initialized "java/lang/IllegalArgumentException", Cond.methodLink RX3 51 yX3_discard, Cond.instanceMethod yX3_discard, Cond.selects RX3 yX3_discard yX3_discard, Cond.code yX3_discard cX3_discard 1 none, Cond.fieldLink RX3 25 "CoverTrees" "tree" "LCoverTrees$Tree;", Cond.fieldLink RX3 32 "CoverTrees" "graph" "LCoverTrees$Graph;", Cond.methodLink RX3 74 yX1_setArc]
def wsX3_arc_r2 : List Cond := [Cond.instanceMethod yX1_setArc, Cond.selects RX1 yX1_setArc yX1_setArc, Cond.initialized RX1, Cond.code yX1_setArc cX1_setArc 7 (some .int), Cond.fieldLink RX1 20 "CoverTrees$Net" "gives" "[[I", Cond.fieldLink RX1 17 "CoverTrees$Net" "takes" "[[I"]
def wsX3_arc : List Cond := .code yX3_arc cX3_arc 5 (some .int) :: ((wsX3_arc_r1 ++ wsX3_arc_r2) ++ wsX30 ++ wsX10 ++ wsX20 ++ wsX00 ++ (vx_atS RX3 178 "java/lang/IndexOutOfBoundsException" ["java/lang/RuntimeException", "java/lang/Exception"]).filter goodWord ++ (vx_atS RX3 131 "java/lang/IllegalArgumentException" ["java/lang/RuntimeException", "java/lang/Exception"]).filter goodWord)
def wsX3_tokens : List Cond := .code yX3_tokens cX3_tokens 3 none :: ([.fieldLink RX3 10 "CoverTrees" "net" "LCoverTrees$Net;", .methodLink RX3 67 yX3_needPlace, .instanceMethod yX3_needPlace, .selects RX3 yX3_needPlace yX3_needPlace, .initialized RX3, .code yX3_needPlace cX3_needPlace 2 none, .classLink RX3 174 "java/lang/IndexOutOfBoundsException", .initialized "java/lang/IndexOutOfBoundsException", .methodLink RX3 36 yX3_needRange, .static yX3_needRange, .code yX3_needRange cX3_needRange 2 none, .classLink RX3 127 "java/lang/IllegalArgumentException", .initialized "java/lang/IllegalArgumentException", .methodLink RX3 51 yX3_discard, .instanceMethod yX3_discard, .selects RX3 yX3_discard yX3_discard, .code yX3_discard cX3_discard 1 none, .fieldLink RX3 25 "CoverTrees" "tree" "LCoverTrees$Tree;", .fieldLink RX3 32 "CoverTrees" "graph" "LCoverTrees$Graph;"] ++ wsX30 ++ wsX10 ++ wsX20 ++ wsX00 ++ (vx_atS RX3 178 "java/lang/IndexOutOfBoundsException" ["java/lang/RuntimeException", "java/lang/Exception"]).filter goodWord ++ (vx_atS RX3 131 "java/lang/IllegalArgumentException" ["java/lang/RuntimeException", "java/lang/Exception"]).filter goodWord)
def wsX3_explore_r1 : List Cond := [Cond.classLink RX3 85 "java/lang/UnsupportedOperationException", Cond.initialized "java/lang/UnsupportedOperationException", Cond.fieldLink RX3 25 "CoverTrees" "tree" "LCoverTrees$Tree;", Cond.methodLink RX3 51 yX3_discard, Cond.instanceMethod yX3_discard, Cond.selects RX3 yX3_discard yX3_discard, Cond.initialized RX3, Cond.code yX3_discard cX3_discard 1 none, Cond.fieldLink RX3 32 "CoverTrees" "graph" "LCoverTrees$Graph;", Cond.methodLink RX3 81 yX2_grow, Cond.instanceMethod yX2_grow, Cond.selects RX2 yX2_grow yX2_grow, Cond.initialized RX2, Cond.code yX2_grow cX2_grow 4 (some .boolean), Cond.fieldLink RX2 26 "CoverTrees$Tree" "copies" "[Z", Cond.fieldLink RX2 30 "CoverTrees$Tree" "net" "LCoverTrees$Net;", Cond.fieldLink RX2 20 "CoverTrees$Tree" "cameBy" "[I", Cond.fieldLink RX2 16 "CoverTrees$Tree" "parents" "[I", Cond.fieldLink RX2 11 "CoverTrees$Tree" "markings" "[[I", Cond.fieldLink RX2 47 "CoverTrees$Tree" "size" "I", Cond.methodLink RX2 34 yX2_addRoot, Cond.instanceMethod yX2_addRoot, Cond.selects RX2 yX2_addRoot yX2_addRoot, Cond.code yX2_addRoot cX2_addRoot 1 none]
def wsX3_explore_r2 : List Cond := [Cond.fieldLink RX2 23 "CoverTrees$Tree" "depths" "[I", Cond.fieldLink RX2 61 "CoverTrees$Tree" "firstEndless" "I", Cond.static yX3_copyInto, Cond.code yX3_copyInto cX3_copyInto 2 none, Cond.methodLink RX3 190 arraycopyName, Cond.native arraycopyName, Cond.static arraycopyName, Cond.initialized "java/lang/System", Cond.methodLink RX2 43 yX1_enables, Cond.instanceMethod yX1_enables, Cond.selects RX1 yX1_enables yX1_enables, Cond.initialized RX1, Cond.code yX1_enables cX1_enables 3 (some .boolean), Cond.fieldLink RX1 17 "CoverTrees$Net" "takes" "[[I", Cond.static yX3_covers, Cond.code yX3_covers cX3_covers 3 (some .boolean), Cond.methodLink RX2 50 yX2_addChild, Cond.instanceMethod yX2_addChild, Cond.selects RX2 yX2_addChild yX2_addChild, Cond.code yX2_addChild cX2_addChild 4 (some .int), Cond.methodLink RX2 64 yX1_fire, Cond.instanceMethod yX1_fire, Cond.selects RX1 yX1_fire yX1_fire, Cond.code yX1_fire cX1_fire 6 none]
def wsX3_explore_r3 : List Cond := [Cond.constant RX1 34 (1000000), Cond.fieldLink RX1 20 "CoverTrees$Net" "gives" "[[I", Cond.methodLink RX2 68 yX2_makeEndlessWhatRepeats, Cond.instanceMethod yX2_makeEndlessWhatRepeats, Cond.selects RX2 yX2_makeEndlessWhatRepeats yX2_makeEndlessWhatRepeats, Cond.code yX2_makeEndlessWhatRepeats cX2_makeEndlessWhatRepeats 6 none, Cond.static yX3_same, Cond.code yX3_same cX3_same 3 (some .boolean), Cond.methodLink RX2 83 yX2_makeEndlessWhereMore, Cond.instanceMethod yX2_makeEndlessWhereMore, Cond.selects RX2 yX2_makeEndlessWhereMore yX2_makeEndlessWhereMore, Cond.code yX2_makeEndlessWhereMore cX2_makeEndlessWhereMore 4 none, Cond.constant RX2 90 (1000000), Cond.methodLink RX2 86 yX2_noteFirstEndless, Cond.instanceMethod yX2_noteFirstEndless, Cond.selects RX2 yX2_noteFirstEndless yX2_noteFirstEndless, Cond.code yX2_noteFirstEndless cX2_noteFirstEndless 3 none, Cond.fieldLink RX2 91 "CoverTrees$Tree" "depthOfRepeat" "I", Cond.methodLink RX2 72 yX2_isAmongEarlier, Cond.instanceMethod yX2_isAmongEarlier, Cond.selects RX2 yX2_isAmongEarlier yX2_isAmongEarlier, Cond.code yX2_isAmongEarlier cX2_isAmongEarlier 3 (some .boolean)]
def wsX3_explore : List Cond := .code yX3_explore cX3_explore 1 (some .int) :: ((wsX3_explore_r1 ++ (wsX3_explore_r2 ++ wsX3_explore_r3)) ++ wsX30 ++ wsX20 ++ wsX00 ++ wsX10 ++ (vx_atS RX3 89 "java/lang/UnsupportedOperationException" ["java/lang/RuntimeException", "java/lang/Exception"]).filter goodWord)
def wsX3_needTree : List Cond := .code yX3_needTree cX3_needTree 1 none :: ([.classLink RX3 44 "java/lang/IllegalStateException", .initialized "java/lang/IllegalStateException", .fieldLink RX3 25 "CoverTrees" "tree" "LCoverTrees$Tree;"] ++ wsX30 ++ wsX20 ++ (vx_atS RX3 48 "java/lang/IllegalStateException" ["java/lang/RuntimeException", "java/lang/Exception"]).filter goodWord)
def wsX3_needNode : List Cond := .code yX3_needNode cX3_needNode 2 none :: ([.classLink RX3 174 "java/lang/IndexOutOfBoundsException", .initialized "java/lang/IndexOutOfBoundsException", .fieldLink RX3 25 "CoverTrees" "tree" "LCoverTrees$Tree;"] ++ wsX30 ++ wsX20 ++ (vx_atS RX3 178 "java/lang/IndexOutOfBoundsException" ["java/lang/RuntimeException", "java/lang/Exception"]).filter goodWord)
def wsX3_asTold : List Cond := .code yX3_asTold cX3_asTold 1 (some .int) :: ([.constant RX3 189 (1000000)])
def wsX3_count : List Cond := .code yX3_count cX3_count 3 (some .int) :: ([.fieldLink RX3 25 "CoverTrees" "tree" "LCoverTrees$Tree;", .methodLink RX3 93 yX3_needTree, .instanceMethod yX3_needTree, .selects RX3 yX3_needTree yX3_needTree, .initialized RX3, .code yX3_needTree cX3_needTree 1 none, .classLink RX3 44 "java/lang/IllegalStateException", .initialized "java/lang/IllegalStateException", .methodLink RX3 96 yX3_needNode, .instanceMethod yX3_needNode, .selects RX3 yX3_needNode yX3_needNode, .code yX3_needNode cX3_needNode 2 none, .classLink RX3 174 "java/lang/IndexOutOfBoundsException", .initialized "java/lang/IndexOutOfBoundsException", .methodLink RX3 67 yX3_needPlace, .instanceMethod yX3_needPlace, .selects RX3 yX3_needPlace yX3_needPlace, .code yX3_needPlace cX3_needPlace 2 none, .fieldLink RX3 10 "CoverTrees" "net" "LCoverTrees$Net;", .methodLink RX3 103 yX3_asTold, .static yX3_asTold, .code yX3_asTold cX3_asTold 1 (some .int), .constant RX3 189 (1000000)] ++ wsX30 ++ wsX20 ++ wsX10 ++ (vx_atS RX3 48 "java/lang/IllegalStateException" ["java/lang/RuntimeException", "java/lang/Exception"]).filter goodWord ++ (vx_atS RX3 178 "java/lang/IndexOutOfBoundsException" ["java/lang/RuntimeException", "java/lang/Exception"]).filter goodWord)
def wsX3_node : List Cond := .code yX3_node cX3_node 3 (some .int) :: ([.fieldLink RX3 25 "CoverTrees" "tree" "LCoverTrees$Tree;", .methodLink RX3 93 yX3_needTree, .instanceMethod yX3_needTree, .selects RX3 yX3_needTree yX3_needTree, .initialized RX3, .code yX3_needTree cX3_needTree 1 none, .classLink RX3 44 "java/lang/IllegalStateException", .initialized "java/lang/IllegalStateException", .methodLink RX3 96 yX3_needNode, .instanceMethod yX3_needNode, .selects RX3 yX3_needNode yX3_needNode, .code yX3_needNode cX3_needNode 2 none, .classLink RX3 174 "java/lang/IndexOutOfBoundsException", .initialized "java/lang/IndexOutOfBoundsException"] ++ wsX30 ++ wsX20 ++ (vx_atS RX3 48 "java/lang/IllegalStateException" ["java/lang/RuntimeException", "java/lang/Exception"]).filter goodWord ++ (vx_atS RX3 178 "java/lang/IndexOutOfBoundsException" ["java/lang/RuntimeException", "java/lang/Exception"]).filter goodWord)
def wsX3_bound_r1 : List Cond := [Cond.fieldLink RX3 25 "CoverTrees" "tree" "LCoverTrees$Tree;", Cond.methodLink RX3 93 yX3_needTree, Cond.instanceMethod yX3_needTree, Cond.selects RX3 yX3_needTree yX3_needTree, Cond.initialized RX3, Cond.code yX3_needTree cX3_needTree 1 none, Cond.classLink RX3 44 "java/lang/IllegalStateException", Cond.initialized "java/lang/IllegalStateException", Cond.methodLink RX3 67 yX3_needPlace, Cond.instanceMethod yX3_needPlace, Cond.selects RX3 yX3_needPlace yX3_needPlace, Cond.code yX3_needPlace cX3_needPlace 2 none, Cond.classLink RX3 174 "java/lang/IndexOutOfBoundsException", Cond.initialized "java/lang/IndexOutOfBoundsException", Cond.fieldLink RX3 10 "CoverTrees" "net" "LCoverTrees$Net;", Cond.methodLink RX3 116 yX2_greatestCount, Cond.instanceMethod yX2_greatestCount, Cond.selects RX2 yX2_greatestCount yX2_greatestCount, Cond.initialized RX2, Cond.code yX2_greatestCount cX2_greatestCount 4 (some .int), Cond.fieldLink RX2 47 "CoverTrees$Tree" "size" "I", Cond.fieldLink RX2 11 "CoverTrees$Tree" "markings" "[[I", Cond.methodLink RX2 94 Lib.Math.max.name, Cond.static Lib.Math.max.name]
def wsX3_bound_r2 : List Cond := [Cond.initialized "java/lang/Math", Cond.code Lib.Math.max.name Lib.Math.max.code 2 (some .int), Cond.methodLink RX3 103 yX3_asTold, Cond.static yX3_asTold, Cond.code yX3_asTold cX3_asTold 1 (some .int), Cond.constant RX3 189 (1000000)]
def wsX3_bound : List Cond := .code yX3_bound cX3_bound 2 (some .int) :: ((wsX3_bound_r1 ++ wsX3_bound_r2) ++ wsX30 ++ wsX20 ++ wsX10 ++ (vx_atS RX3 48 "java/lang/IllegalStateException" ["java/lang/RuntimeException", "java/lang/Exception"]).filter goodWord ++ (vx_atS RX3 178 "java/lang/IndexOutOfBoundsException" ["java/lang/RuntimeException", "java/lang/Exception"]).filter goodWord)
def wsX3_want : List Cond := .code yX3_want cX3_want 3 none :: ([.fieldLink RX3 16 "CoverTrees" "target" "[I", .methodLink RX3 67 yX3_needPlace, .instanceMethod yX3_needPlace, .selects RX3 yX3_needPlace yX3_needPlace, .initialized RX3, .code yX3_needPlace cX3_needPlace 2 none, .classLink RX3 174 "java/lang/IndexOutOfBoundsException", .initialized "java/lang/IndexOutOfBoundsException", .fieldLink RX3 10 "CoverTrees" "net" "LCoverTrees$Net;", .methodLink RX3 36 yX3_needRange, .static yX3_needRange, .code yX3_needRange cX3_needRange 2 none, .classLink RX3 127 "java/lang/IllegalArgumentException", .initialized "java/lang/IllegalArgumentException"] ++ wsX30 ++ wsX10 ++ (vx_atS RX3 178 "java/lang/IndexOutOfBoundsException" ["java/lang/RuntimeException", "java/lang/Exception"]).filter goodWord ++ (vx_atS RX3 131 "java/lang/IllegalArgumentException" ["java/lang/RuntimeException", "java/lang/Exception"]).filter goodWord)
def wsX3_covered : List Cond := .code yX3_covered cX3_covered 1 (some .boolean) :: ([.fieldLink RX3 25 "CoverTrees" "tree" "LCoverTrees$Tree;", .fieldLink RX3 16 "CoverTrees" "target" "[I", .methodLink RX3 93 yX3_needTree, .instanceMethod yX3_needTree, .selects RX3 yX3_needTree yX3_needTree, .initialized RX3, .code yX3_needTree cX3_needTree 1 none, .classLink RX3 44 "java/lang/IllegalStateException", .initialized "java/lang/IllegalStateException", .methodLink RX3 119 yX2_hasNodeCovering, .instanceMethod yX2_hasNodeCovering, .selects RX2 yX2_hasNodeCovering yX2_hasNodeCovering, .initialized RX2, .code yX2_hasNodeCovering cX2_hasNodeCovering 3 (some .boolean), .fieldLink RX2 47 "CoverTrees$Tree" "size" "I", .fieldLink RX2 11 "CoverTrees$Tree" "markings" "[[I", .static yX3_covers, .code yX3_covers cX3_covers 3 (some .boolean)] ++ wsX30 ++ wsX20 ++ (vx_atS RX3 48 "java/lang/IllegalStateException" ["java/lang/RuntimeException", "java/lang/Exception"]).filter goodWord)
def wsX3_possible_r1 : List Cond := [Cond.fieldLink RX3 25 "CoverTrees" "tree" "LCoverTrees$Tree;", Cond.methodLink RX3 93 yX3_needTree, Cond.instanceMethod yX3_needTree, Cond.selects RX3 yX3_needTree yX3_needTree, Cond.initialized RX3, Cond.code yX3_needTree cX3_needTree 1 none, Cond.classLink RX3 44 "java/lang/IllegalStateException", Cond.initialized "java/lang/IllegalStateException", Cond.methodLink RX3 71 yX3_needTransition, Cond.instanceMethod yX3_needTransition, Cond.selects RX3 yX3_needTransition yX3_needTransition, Cond.code yX3_needTransition cX3_needTransition 2 none, Cond.classLink RX3 174 "java/lang/IndexOutOfBoundsException", Cond.initialized "java/lang/IndexOutOfBoundsException", Cond.fieldLink RX3 10 "CoverTrees" "net" "LCoverTrees$Net;", Cond.methodLink RX3 123 yX2_hasNodeEnabling, Cond.instanceMethod yX2_hasNodeEnabling, Cond.selects RX2 yX2_hasNodeEnabling yX2_hasNodeEnabling, Cond.initialized RX2, Cond.code yX2_hasNodeEnabling cX2_hasNodeEnabling 2 (some .boolean), Cond.fieldLink RX2 30 "CoverTrees$Tree" "net" "LCoverTrees$Net;", Cond.methodLink RX2 102 yX2_hasNodeCovering, Cond.instanceMethod yX2_hasNodeCovering, Cond.selects RX2 yX2_hasNodeCovering yX2_hasNodeCovering]
def wsX3_possible_r2 : List Cond := [Cond.code yX2_hasNodeCovering cX2_hasNodeCovering 3 (some .boolean), Cond.fieldLink RX2 47 "CoverTrees$Tree" "size" "I", Cond.fieldLink RX2 11 "CoverTrees$Tree" "markings" "[[I", Cond.static yX3_covers, Cond.code yX3_covers cX3_covers 3 (some .boolean)]
def wsX3_possible : List Cond := .code yX3_possible cX3_possible 2 (some .boolean) :: ((wsX3_possible_r1 ++ wsX3_possible_r2) ++ wsX30 ++ wsX20 ++ wsX10 ++ (vx_atS RX3 48 "java/lang/IllegalStateException" ["java/lang/RuntimeException", "java/lang/Exception"]).filter goodWord ++ (vx_atS RX3 178 "java/lang/IndexOutOfBoundsException" ["java/lang/RuntimeException", "java/lang/Exception"]).filter goodWord)
def wsX3_growth : List Cond := .code yX3_growth cX3_growth 2 (some .int) :: ([.classLink RX3 127 "java/lang/IllegalArgumentException", .initialized "java/lang/IllegalArgumentException", .fieldLink RX3 25 "CoverTrees" "tree" "LCoverTrees$Tree;", .methodLink RX3 93 yX3_needTree, .instanceMethod yX3_needTree, .selects RX3 yX3_needTree yX3_needTree, .initialized RX3, .code yX3_needTree cX3_needTree 1 none, .classLink RX3 44 "java/lang/IllegalStateException", .initialized "java/lang/IllegalStateException", .methodLink RX3 132 yX2_hasEndless, .instanceMethod yX2_hasEndless, .selects RX2 yX2_hasEndless yX2_hasEndless, .initialized RX2, .code yX2_hasEndless cX2_hasEndless 1 (some .boolean), .fieldLink RX2 61 "CoverTrees$Tree" "firstEndless" "I", .methodLink RX3 138 yX2_stepToFirstEndless, .instanceMethod yX2_stepToFirstEndless, .selects RX2 yX2_stepToFirstEndless yX2_stepToFirstEndless, .code yX2_stepToFirstEndless cX2_stepToFirstEndless 4 (some .int), .fieldLink RX2 23 "CoverTrees$Tree" "depths" "[I", .fieldLink RX2 16 "CoverTrees$Tree" "parents" "[I", .fieldLink RX2 20 "CoverTrees$Tree" "cameBy" "[I"] ++ wsX30 ++ wsX20 ++ (vx_atS RX3 131 "java/lang/IllegalArgumentException" ["java/lang/RuntimeException", "java/lang/Exception"]).filter goodWord ++ (vx_atS RX3 48 "java/lang/IllegalStateException" ["java/lang/RuntimeException", "java/lang/Exception"]).filter goodWord)
def wsX3_graph_r1 : List Cond := [Cond.classLink RX3 44 "java/lang/IllegalStateException", Cond.initialized "java/lang/IllegalStateException", Cond.classLink RX3 85 "java/lang/UnsupportedOperationException", Cond.initialized "java/lang/UnsupportedOperationException", Cond.fieldLink RX3 25 "CoverTrees" "tree" "LCoverTrees$Tree;", Cond.fieldLink RX3 32 "CoverTrees" "graph" "LCoverTrees$Graph;", Cond.methodLink RX3 93 yX3_needTree, Cond.instanceMethod yX3_needTree, Cond.selects RX3 yX3_needTree yX3_needTree, Cond.initialized RX3, Cond.code yX3_needTree cX3_needTree 1 none, Cond.methodLink RX3 132 yX2_hasEndless, Cond.instanceMethod yX2_hasEndless, Cond.selects RX2 yX2_hasEndless yX2_hasEndless, Cond.initialized RX2, Cond.code yX2_hasEndless cX2_hasEndless 1 (some .boolean), Cond.fieldLink RX2 61 "CoverTrees$Tree" "firstEndless" "I", Cond.methodLink RX3 143 yX0_build, Cond.instanceMethod yX0_build, Cond.selects RX0 yX0_build yX0_build, Cond.initialized RX0, Cond.code yX0_build cX0_build 2 (some .boolean), Cond.fieldLink RX0 32 "CoverTrees$Graph" "fired" "[I", Cond.fieldLink RX0 35 "CoverTrees$Graph" "net" "LCoverTrees$Net;"]
def wsX3_graph_r2 : List Cond := [Cond.fieldLink RX0 48 "CoverTrees$Graph" "size" "I", Cond.static yX3_copyInto, Cond.code yX3_copyInto cX3_copyInto 2 none, Cond.methodLink RX3 190 arraycopyName, Cond.native arraycopyName, Cond.static arraycopyName, Cond.initialized "java/lang/System", Cond.methodLink RX0 52 yX0_addState, Cond.instanceMethod yX0_addState, Cond.selects RX0 yX0_addState yX0_addState, Cond.code yX0_addState cX0_addState 5 (some .int), Cond.fieldLink RX0 11 "CoverTrees$Graph" "markings" "[[I", Cond.fieldLink RX0 19 "CoverTrees$Graph" "cameFrom" "[I", Cond.fieldLink RX0 23 "CoverTrees$Graph" "cameBy" "[I", Cond.fieldLink RX0 26 "CoverTrees$Graph" "distances" "[I", Cond.methodLink RX0 56 yX0_follow, Cond.instanceMethod yX0_follow, Cond.selects RX0 yX0_follow yX0_follow, Cond.code yX0_follow cX0_follow 4 (some .boolean), Cond.fieldLink RX0 16 "CoverTrees$Graph" "next" "[[I", Cond.methodLink RX0 66 yX1_enables, Cond.instanceMethod yX1_enables, Cond.selects RX1 yX1_enables yX1_enables, Cond.initialized RX1]
def wsX3_graph_r3 : List Cond := [Cond.code yX1_enables cX1_enables 3 (some .boolean), Cond.fieldLink RX1 17 "CoverTrees$Net" "takes" "[[I", Cond.static yX3_covers, Cond.code yX3_covers cX3_covers 3 (some .boolean), Cond.methodLink RX0 70 yX1_fire, Cond.instanceMethod yX1_fire, Cond.selects RX1 yX1_fire yX1_fire, Cond.code yX1_fire cX1_fire 6 none, Cond.constant RX1 34 (1000000), Cond.fieldLink RX1 20 "CoverTrees$Net" "gives" "[[I", Cond.methodLink RX0 74 yX0_stateOf, Cond.instanceMethod yX0_stateOf, Cond.selects RX0 yX0_stateOf yX0_stateOf, Cond.code yX0_stateOf cX0_stateOf 3 (some .int), Cond.static yX3_same, Cond.code yX3_same cX3_same 3 (some .boolean), Cond.methodLink RX0 60 yX0_lookAhead, Cond.instanceMethod yX0_lookAhead, Cond.selects RX0 yX0_lookAhead yX0_lookAhead, Cond.code yX0_lookAhead cX0_lookAhead 5 none, Cond.fieldLink RX0 29 "CoverTrees$Graph" "ahead" "[I", Cond.methodLink RX0 78 yX0_enabledIn, Cond.instanceMethod yX0_enabledIn, Cond.selects RX0 yX0_enabledIn yX0_enabledIn]
def wsX3_graph_r4 : List Cond := [Cond.code yX0_enabledIn cX0_enabledIn 4 (some .int), Cond.methodLink RX0 82 yX0_aheadOfNext, Cond.instanceMethod yX0_aheadOfNext, Cond.selects RX0 yX0_aheadOfNext yX0_aheadOfNext, Cond.code yX0_aheadOfNext cX0_aheadOfNext 5 (some .int)]
def wsX3_graph : List Cond := .code yX3_graph cX3_graph 1 (some .int) :: ((wsX3_graph_r1 ++ (wsX3_graph_r2 ++ (wsX3_graph_r3 ++ wsX3_graph_r4))) ++ wsX30 ++ wsX00 ++ wsX20 ++ wsX10 ++ (vx_atS RX3 48 "java/lang/IllegalStateException" ["java/lang/RuntimeException", "java/lang/Exception"]).filter goodWord ++ (vx_atS RX3 89 "java/lang/UnsupportedOperationException" ["java/lang/RuntimeException", "java/lang/Exception"]).filter goodWord)
def wsX3_needGraph : List Cond := .code yX3_needGraph cX3_needGraph 1 none :: ([.classLink RX3 44 "java/lang/IllegalStateException", .initialized "java/lang/IllegalStateException", .fieldLink RX3 32 "CoverTrees" "graph" "LCoverTrees$Graph;"] ++ wsX30 ++ wsX00 ++ (vx_atS RX3 48 "java/lang/IllegalStateException" ["java/lang/RuntimeException", "java/lang/Exception"]).filter goodWord)
def wsX3_reached : List Cond := .code yX3_reached cX3_reached 1 (some .int) :: ([.fieldLink RX3 32 "CoverTrees" "graph" "LCoverTrees$Graph;", .fieldLink RX3 16 "CoverTrees" "target" "[I", .methodLink RX3 149 yX3_needGraph, .instanceMethod yX3_needGraph, .selects RX3 yX3_needGraph yX3_needGraph, .initialized RX3, .code yX3_needGraph cX3_needGraph 1 none, .classLink RX3 44 "java/lang/IllegalStateException", .initialized "java/lang/IllegalStateException", .methodLink RX3 152 yX0_stateOf, .instanceMethod yX0_stateOf, .selects RX0 yX0_stateOf yX0_stateOf, .initialized RX0, .code yX0_stateOf cX0_stateOf 3 (some .int), .fieldLink RX0 48 "CoverTrees$Graph" "size" "I", .fieldLink RX0 11 "CoverTrees$Graph" "markings" "[[I", .static yX3_same, .code yX3_same cX3_same 3 (some .boolean)] ++ wsX30 ++ wsX00 ++ (vx_atS RX3 48 "java/lang/IllegalStateException" ["java/lang/RuntimeException", "java/lang/Exception"]).filter goodWord)
def wsX3_needState : List Cond := .code yX3_needState cX3_needState 2 none :: ([.classLink RX3 174 "java/lang/IndexOutOfBoundsException", .initialized "java/lang/IndexOutOfBoundsException", .fieldLink RX3 32 "CoverTrees" "graph" "LCoverTrees$Graph;"] ++ wsX30 ++ wsX00 ++ (vx_atS RX3 178 "java/lang/IndexOutOfBoundsException" ["java/lang/RuntimeException", "java/lang/Exception"]).filter goodWord)
def wsX3_distance : List Cond := .code yX3_distance cX3_distance 2 (some .int) :: ([.fieldLink RX3 32 "CoverTrees" "graph" "LCoverTrees$Graph;", .methodLink RX3 149 yX3_needGraph, .instanceMethod yX3_needGraph, .selects RX3 yX3_needGraph yX3_needGraph, .initialized RX3, .code yX3_needGraph cX3_needGraph 1 none, .classLink RX3 44 "java/lang/IllegalStateException", .initialized "java/lang/IllegalStateException", .methodLink RX3 156 yX3_needState, .instanceMethod yX3_needState, .selects RX3 yX3_needState yX3_needState, .code yX3_needState cX3_needState 2 none, .classLink RX3 174 "java/lang/IndexOutOfBoundsException", .initialized "java/lang/IndexOutOfBoundsException"] ++ wsX30 ++ wsX00 ++ (vx_atS RX3 48 "java/lang/IllegalStateException" ["java/lang/RuntimeException", "java/lang/Exception"]).filter goodWord ++ (vx_atS RX3 178 "java/lang/IndexOutOfBoundsException" ["java/lang/RuntimeException", "java/lang/Exception"]).filter goodWord)
def wsX3_found : List Cond := .code yX3_found cX3_found 3 (some .int) :: ([.fieldLink RX3 32 "CoverTrees" "graph" "LCoverTrees$Graph;", .methodLink RX3 149 yX3_needGraph, .instanceMethod yX3_needGraph, .selects RX3 yX3_needGraph yX3_needGraph, .initialized RX3, .code yX3_needGraph cX3_needGraph 1 none, .classLink RX3 44 "java/lang/IllegalStateException", .initialized "java/lang/IllegalStateException", .methodLink RX3 156 yX3_needState, .instanceMethod yX3_needState, .selects RX3 yX3_needState yX3_needState, .code yX3_needState cX3_needState 2 none, .classLink RX3 174 "java/lang/IndexOutOfBoundsException", .initialized "java/lang/IndexOutOfBoundsException"] ++ wsX30 ++ wsX00 ++ (vx_atS RX3 48 "java/lang/IllegalStateException" ["java/lang/RuntimeException", "java/lang/Exception"]).filter goodWord ++ (vx_atS RX3 178 "java/lang/IndexOutOfBoundsException" ["java/lang/RuntimeException", "java/lang/Exception"]).filter goodWord)
def wsX3_stops : List Cond := .code yX3_stops cX3_stops 1 (some .int) :: ([.fieldLink RX3 32 "CoverTrees" "graph" "LCoverTrees$Graph;", .methodLink RX3 149 yX3_needGraph, .instanceMethod yX3_needGraph, .selects RX3 yX3_needGraph yX3_needGraph, .initialized RX3, .code yX3_needGraph cX3_needGraph 1 none, .classLink RX3 44 "java/lang/IllegalStateException", .initialized "java/lang/IllegalStateException", .methodLink RX3 166 yX0_countStops, .instanceMethod yX0_countStops, .selects RX0 yX0_countStops yX0_countStops, .initialized RX0, .code yX0_countStops cX0_countStops 3 (some .int), .fieldLink RX0 48 "CoverTrees$Graph" "size" "I", .methodLink RX0 78 yX0_enabledIn, .instanceMethod yX0_enabledIn, .selects RX0 yX0_enabledIn yX0_enabledIn, .code yX0_enabledIn cX0_enabledIn 4 (some .int), .fieldLink RX0 35 "CoverTrees$Graph" "net" "LCoverTrees$Net;", .fieldLink RX0 16 "CoverTrees$Graph" "next" "[[I"] ++ wsX30 ++ wsX00 ++ wsX10 ++ (vx_atS RX3 48 "java/lang/IllegalStateException" ["java/lang/RuntimeException", "java/lang/Exception"]).filter goodWord)
def wsX3_live : List Cond := .code yX3_live cX3_live 2 (some .boolean) :: ([.fieldLink RX3 32 "CoverTrees" "graph" "LCoverTrees$Graph;", .methodLink RX3 149 yX3_needGraph, .instanceMethod yX3_needGraph, .selects RX3 yX3_needGraph yX3_needGraph, .initialized RX3, .code yX3_needGraph cX3_needGraph 1 none, .classLink RX3 44 "java/lang/IllegalStateException", .initialized "java/lang/IllegalStateException", .methodLink RX3 71 yX3_needTransition, .instanceMethod yX3_needTransition, .selects RX3 yX3_needTransition yX3_needTransition, .code yX3_needTransition cX3_needTransition 2 none, .classLink RX3 174 "java/lang/IndexOutOfBoundsException", .initialized "java/lang/IndexOutOfBoundsException", .fieldLink RX3 10 "CoverTrees" "net" "LCoverTrees$Net;", .methodLink RX3 169 yX0_staysPossible, .instanceMethod yX0_staysPossible, .selects RX0 yX0_staysPossible yX0_staysPossible, .initialized RX0, .code yX0_staysPossible cX0_staysPossible 3 (some .boolean), .fieldLink RX0 48 "CoverTrees$Graph" "size" "I", .fieldLink RX0 29 "CoverTrees$Graph" "ahead" "[I"] ++ wsX30 ++ wsX00 ++ wsX10 ++ (vx_atS RX3 48 "java/lang/IllegalStateException" ["java/lang/RuntimeException", "java/lang/Exception"]).filter goodWord ++ (vx_atS RX3 178 "java/lang/IndexOutOfBoundsException" ["java/lang/RuntimeException", "java/lang/Exception"]).filter goodWord)
def wsX4_init : List Cond := .code yX4_init cX4_init 1 none :: ([.methodLink RX4 1 objectInit, .instanceMethod objectInit, .code objectInit ⟨#[0xb1]⟩ 1 none, .arrayClass .int, .fieldLink RX4 7 "CoverTreesModel" "first" "[I", .fieldLink RX4 13 "CoverTreesModel" "target" "[I", .fieldLink RX4 16 "CoverTreesModel" "takes" "[I", .fieldLink RX4 19 "CoverTreesModel" "gives" "[I", .fieldLink RX4 22 "CoverTreesModel" "nodes" "I", .fieldLink RX4 26 "CoverTreesModel" "marks" "[I", .fieldLink RX4 29 "CoverTreesModel" "parent" "[I", .fieldLink RX4 32 "CoverTreesModel" "by" "[I", .fieldLink RX4 35 "CoverTreesModel" "nextOf" "[I", .arrayClass .boolean, .fieldLink RX4 38 "CoverTreesModel" "copy" "[Z", .fieldLink RX4 42 "CoverTreesModel" "states" "I", .fieldLink RX4 45 "CoverTreesModel" "counts" "[I", .fieldLink RX4 48 "CoverTreesModel" "leads" "[I", .fieldLink RX4 51 "CoverTreesModel" "from" "[I", .fieldLink RX4 54 "CoverTreesModel" "way" "[I", .fieldLink RX4 57 "CoverTreesModel" "can" "[Z", .fieldLink RX4 60 "CoverTreesModel" "work" "[I"] ++ wsX40)
def wsX4_thrown : List Cond := .code yX4_thrown cX4_thrown 1 (some .int) :: ([.fieldLink RX4 63 "CoverTreesModel" "code" "I"] ++ wsX40)
def wsX4_discard : List Cond := .code yX4_discard cX4_discard 1 none :: ([.fieldLink RX4 22 "CoverTreesModel" "nodes" "I", .fieldLink RX4 42 "CoverTreesModel" "states" "I"] ++ wsX40)
def wsX4_noPlace : List Cond := .code yX4_noPlace cX4_noPlace 2 (some .boolean) :: ([.fieldLink RX4 66 "CoverTreesModel" "places" "I"] ++ wsX40)
def wsX4_noTransition : List Cond := .code yX4_noTransition cX4_noTransition 2 (some .boolean) :: ([.fieldLink RX4 69 "CoverTreesModel" "transitions" "I"] ++ wsX40)
def wsX4_place : List Cond := .code yX4_place cX4_place 3 (some .int) :: ([.fieldLink RX4 66 "CoverTreesModel" "places" "I", .fieldLink RX4 63 "CoverTreesModel" "code" "I", .fieldLink RX4 7 "CoverTreesModel" "first" "[I", .fieldLink RX4 13 "CoverTreesModel" "target" "[I", .fieldLink RX4 16 "CoverTreesModel" "takes" "[I", .fieldLink RX4 19 "CoverTreesModel" "gives" "[I", .methodLink RX4 72 yX4_discard, .instanceMethod yX4_discard, .selects RX4 yX4_discard yX4_discard, .initialized RX4, .code yX4_discard cX4_discard 1 none, .fieldLink RX4 22 "CoverTreesModel" "nodes" "I", .fieldLink RX4 42 "CoverTreesModel" "states" "I"] ++ wsX40)
def wsX4_transition : List Cond := .code yX4_transition cX4_transition 1 (some .int) :: ([.fieldLink RX4 69 "CoverTreesModel" "transitions" "I", .fieldLink RX4 63 "CoverTreesModel" "code" "I", .methodLink RX4 72 yX4_discard, .instanceMethod yX4_discard, .selects RX4 yX4_discard yX4_discard, .initialized RX4, .code yX4_discard cX4_discard 1 none, .fieldLink RX4 22 "CoverTreesModel" "nodes" "I", .fieldLink RX4 42 "CoverTreesModel" "states" "I"] ++ wsX40)
def wsX4_arc : List Cond := .code yX4_arc cX4_arc 7 (some .int) :: ([.fieldLink RX4 63 "CoverTreesModel" "code" "I", .fieldLink RX4 19 "CoverTreesModel" "gives" "[I", .fieldLink RX4 16 "CoverTreesModel" "takes" "[I", .methodLink RX4 75 yX4_noPlace, .instanceMethod yX4_noPlace, .selects RX4 yX4_noPlace yX4_noPlace, .initialized RX4, .code yX4_noPlace cX4_noPlace 2 (some .boolean), .fieldLink RX4 66 "CoverTreesModel" "places" "I", .methodLink RX4 79 yX4_noTransition, .instanceMethod yX4_noTransition, .selects RX4 yX4_noTransition yX4_noTransition, .code yX4_noTransition cX4_noTransition 2 (some .boolean), .fieldLink RX4 69 "CoverTreesModel" "transitions" "I", .methodLink RX4 72 yX4_discard, .instanceMethod yX4_discard, .selects RX4 yX4_discard yX4_discard, .code yX4_discard cX4_discard 1 none, .fieldLink RX4 22 "CoverTreesModel" "nodes" "I", .fieldLink RX4 42 "CoverTreesModel" "states" "I"] ++ wsX40)
def wsX4_tokens : List Cond := .code yX4_tokens cX4_tokens 3 none :: ([.fieldLink RX4 63 "CoverTreesModel" "code" "I", .fieldLink RX4 7 "CoverTreesModel" "first" "[I", .methodLink RX4 75 yX4_noPlace, .instanceMethod yX4_noPlace, .selects RX4 yX4_noPlace yX4_noPlace, .initialized RX4, .code yX4_noPlace cX4_noPlace 2 (some .boolean), .fieldLink RX4 66 "CoverTreesModel" "places" "I", .methodLink RX4 72 yX4_discard, .instanceMethod yX4_discard, .selects RX4 yX4_discard yX4_discard, .code yX4_discard cX4_discard 1 none, .fieldLink RX4 22 "CoverTreesModel" "nodes" "I", .fieldLink RX4 42 "CoverTreesModel" "states" "I"] ++ wsX40)
def wsX4_enabledAt : List Cond := .code yX4_enabledAt cX4_enabledAt 4 (some .boolean) :: ([.fieldLink RX4 66 "CoverTreesModel" "places" "I", .fieldLink RX4 26 "CoverTreesModel" "marks" "[I", .fieldLink RX4 16 "CoverTreesModel" "takes" "[I"] ++ wsX40)
def wsX4_below : List Cond := .code yX4_below cX4_below 5 (some .boolean) :: ([.fieldLink RX4 66 "CoverTreesModel" "places" "I", .fieldLink RX4 26 "CoverTreesModel" "marks" "[I", .fieldLink RX4 60 "CoverTreesModel" "work" "[I"] ++ wsX40)
def wsX4_sameAs : List Cond := .code yX4_sameAs cX4_sameAs 3 (some .boolean) :: ([.fieldLink RX4 66 "CoverTreesModel" "places" "I", .fieldLink RX4 26 "CoverTreesModel" "marks" "[I", .fieldLink RX4 60 "CoverTreesModel" "work" "[I"] ++ wsX40)
def wsX4_addNode : List Cond := .code yX4_addNode cX4_addNode 5 none :: ([.fieldLink RX4 22 "CoverTreesModel" "nodes" "I", .fieldLink RX4 38 "CoverTreesModel" "copy" "[Z", .fieldLink RX4 66 "CoverTreesModel" "places" "I", .fieldLink RX4 26 "CoverTreesModel" "marks" "[I", .fieldLink RX4 60 "CoverTreesModel" "work" "[I", .fieldLink RX4 29 "CoverTreesModel" "parent" "[I", .fieldLink RX4 32 "CoverTreesModel" "by" "[I", .fieldLink RX4 35 "CoverTreesModel" "nextOf" "[I", .methodLink RX4 82 yX4_sameAs, .instanceMethod yX4_sameAs, .selects RX4 yX4_sameAs yX4_sameAs, .initialized RX4, .code yX4_sameAs cX4_sameAs 3 (some .boolean)] ++ wsX40)
def wsX4_fire : List Cond := .code yX4_fire cX4_fire 5 none :: ([.fieldLink RX4 66 "CoverTreesModel" "places" "I", .fieldLink RX4 26 "CoverTreesModel" "marks" "[I", .fieldLink RX4 60 "CoverTreesModel" "work" "[I", .constant RX4 85 (1000000000), .fieldLink RX4 16 "CoverTreesModel" "takes" "[I", .fieldLink RX4 19 "CoverTreesModel" "gives" "[I", .fieldLink RX4 89 "CoverTreesModel" "grown" "I", .fieldLink RX4 22 "CoverTreesModel" "nodes" "I", .fieldLink RX4 92 "CoverTreesModel" "source" "I", .fieldLink RX4 29 "CoverTreesModel" "parent" "[I", .methodLink RX4 86 yX4_below, .instanceMethod yX4_below, .selects RX4 yX4_below yX4_below, .initialized RX4, .code yX4_below cX4_below 5 (some .boolean)] ++ wsX40)
def wsX4_explore_r1 : List Cond := [Cond.fieldLink RX4 63 "CoverTreesModel" "code" "I", Cond.fieldLink RX4 22 "CoverTreesModel" "nodes" "I", Cond.fieldLink RX4 89 "CoverTreesModel" "grown" "I", Cond.fieldLink RX4 92 "CoverTreesModel" "source" "I", Cond.fieldLink RX4 66 "CoverTreesModel" "places" "I", Cond.fieldLink RX4 60 "CoverTreesModel" "work" "[I", Cond.fieldLink RX4 7 "CoverTreesModel" "first" "[I", Cond.fieldLink RX4 38 "CoverTreesModel" "copy" "[Z", Cond.fieldLink RX4 35 "CoverTreesModel" "nextOf" "[I", Cond.fieldLink RX4 69 "CoverTreesModel" "transitions" "I", Cond.fieldLink RX4 29 "CoverTreesModel" "parent" "[I", Cond.methodLink RX4 72 yX4_discard, Cond.instanceMethod yX4_discard, Cond.selects RX4 yX4_discard yX4_discard, Cond.initialized RX4, Cond.code yX4_discard cX4_discard 1 none, Cond.fieldLink RX4 42 "CoverTreesModel" "states" "I", Cond.methodLink RX4 95 yX4_addNode, Cond.instanceMethod yX4_addNode, Cond.selects RX4 yX4_addNode yX4_addNode, Cond.code yX4_addNode cX4_addNode 5 none, Cond.fieldLink RX4 26 "CoverTreesModel" "marks" "[I", Cond.fieldLink RX4 32 "CoverTreesModel" "by" "[I", Cond.methodLink RX4 82 yX4_sameAs]
def wsX4_explore_r2 : List Cond := [Cond.instanceMethod yX4_sameAs, Cond.selects RX4 yX4_sameAs yX4_sameAs, Cond.code yX4_sameAs cX4_sameAs 3 (some .boolean), Cond.methodLink RX4 99 yX4_enabledAt, Cond.instanceMethod yX4_enabledAt, Cond.selects RX4 yX4_enabledAt yX4_enabledAt, Cond.code yX4_enabledAt cX4_enabledAt 4 (some .boolean), Cond.fieldLink RX4 16 "CoverTreesModel" "takes" "[I", Cond.methodLink RX4 103 yX4_fire, Cond.instanceMethod yX4_fire, Cond.selects RX4 yX4_fire yX4_fire, Cond.code yX4_fire cX4_fire 5 none, Cond.constant RX4 85 (1000000000), Cond.fieldLink RX4 19 "CoverTreesModel" "gives" "[I", Cond.methodLink RX4 86 yX4_below, Cond.instanceMethod yX4_below, Cond.selects RX4 yX4_below yX4_below, Cond.code yX4_below cX4_below 5 (some .boolean)]
def wsX4_explore : List Cond := .code yX4_explore cX4_explore 3 (some .int) :: ((wsX4_explore_r1 ++ wsX4_explore_r2) ++ wsX40)
def wsX4_told : List Cond := .code yX4_told cX4_told 1 (some .int) :: ([.constant RX4 85 (1000000000)])
def wsX4_count : List Cond := .code yX4_count cX4_count 3 (some .int) :: ([.fieldLink RX4 22 "CoverTreesModel" "nodes" "I", .fieldLink RX4 63 "CoverTreesModel" "code" "I", .fieldLink RX4 26 "CoverTreesModel" "marks" "[I", .methodLink RX4 75 yX4_noPlace, .instanceMethod yX4_noPlace, .selects RX4 yX4_noPlace yX4_noPlace, .initialized RX4, .code yX4_noPlace cX4_noPlace 2 (some .boolean), .fieldLink RX4 66 "CoverTreesModel" "places" "I", .methodLink RX4 106 yX4_told, .static yX4_told, .code yX4_told cX4_told 1 (some .int), .constant RX4 85 (1000000000)] ++ wsX40)
def wsX4_node : List Cond := .code yX4_node cX4_node 3 (some .int) :: ([.fieldLink RX4 22 "CoverTreesModel" "nodes" "I", .fieldLink RX4 63 "CoverTreesModel" "code" "I", .fieldLink RX4 38 "CoverTreesModel" "copy" "[Z", .fieldLink RX4 29 "CoverTreesModel" "parent" "[I", .fieldLink RX4 32 "CoverTreesModel" "by" "[I"] ++ wsX40)
def wsX4_greatest : List Cond := .code yX4_greatest cX4_greatest 4 (some .int) :: ([.fieldLink RX4 22 "CoverTreesModel" "nodes" "I", .fieldLink RX4 26 "CoverTreesModel" "marks" "[I"] ++ wsX40)
def wsX4_bound : List Cond := .code yX4_bound cX4_bound 2 (some .int) :: ([.fieldLink RX4 22 "CoverTreesModel" "nodes" "I", .fieldLink RX4 63 "CoverTreesModel" "code" "I", .methodLink RX4 75 yX4_noPlace, .instanceMethod yX4_noPlace, .selects RX4 yX4_noPlace yX4_noPlace, .initialized RX4, .code yX4_noPlace cX4_noPlace 2 (some .boolean), .fieldLink RX4 66 "CoverTreesModel" "places" "I", .methodLink RX4 110 yX4_greatest, .instanceMethod yX4_greatest, .selects RX4 yX4_greatest yX4_greatest, .code yX4_greatest cX4_greatest 4 (some .int), .fieldLink RX4 26 "CoverTreesModel" "marks" "[I", .methodLink RX4 106 yX4_told, .static yX4_told, .code yX4_told cX4_told 1 (some .int), .constant RX4 85 (1000000000)] ++ wsX40)
def wsX4_want : List Cond := .code yX4_want cX4_want 3 none :: ([.fieldLink RX4 63 "CoverTreesModel" "code" "I", .fieldLink RX4 13 "CoverTreesModel" "target" "[I", .methodLink RX4 75 yX4_noPlace, .instanceMethod yX4_noPlace, .selects RX4 yX4_noPlace yX4_noPlace, .initialized RX4, .code yX4_noPlace cX4_noPlace 2 (some .boolean), .fieldLink RX4 66 "CoverTreesModel" "places" "I"] ++ wsX40)
def wsX4_covered : List Cond := .code yX4_covered cX4_covered 5 (some .boolean) :: ([.fieldLink RX4 22 "CoverTreesModel" "nodes" "I", .fieldLink RX4 63 "CoverTreesModel" "code" "I", .fieldLink RX4 66 "CoverTreesModel" "places" "I", .fieldLink RX4 26 "CoverTreesModel" "marks" "[I", .fieldLink RX4 13 "CoverTreesModel" "target" "[I"] ++ wsX40)
def wsX4_possible : List Cond := .code yX4_possible cX4_possible 4 (some .boolean) :: ([.fieldLink RX4 22 "CoverTreesModel" "nodes" "I", .fieldLink RX4 63 "CoverTreesModel" "code" "I", .methodLink RX4 79 yX4_noTransition, .instanceMethod yX4_noTransition, .selects RX4 yX4_noTransition yX4_noTransition, .initialized RX4, .code yX4_noTransition cX4_noTransition 2 (some .boolean), .fieldLink RX4 69 "CoverTreesModel" "transitions" "I", .methodLink RX4 99 yX4_enabledAt, .instanceMethod yX4_enabledAt, .selects RX4 yX4_enabledAt yX4_enabledAt, .code yX4_enabledAt cX4_enabledAt 4 (some .boolean), .fieldLink RX4 66 "CoverTreesModel" "places" "I", .fieldLink RX4 26 "CoverTreesModel" "marks" "[I", .fieldLink RX4 16 "CoverTreesModel" "takes" "[I"] ++ wsX40)
def wsX4_depth : List Cond := .code yX4_depth cX4_depth 4 (some .int) :: ([.fieldLink RX4 29 "CoverTreesModel" "parent" "[I"] ++ wsX40)
def wsX4_growth : List Cond := .code yX4_growth cX4_growth 4 (some .int) :: ([.fieldLink RX4 22 "CoverTreesModel" "nodes" "I", .fieldLink RX4 63 "CoverTreesModel" "code" "I", .fieldLink RX4 89 "CoverTreesModel" "grown" "I", .fieldLink RX4 92 "CoverTreesModel" "source" "I", .fieldLink RX4 29 "CoverTreesModel" "parent" "[I", .fieldLink RX4 32 "CoverTreesModel" "by" "[I", .methodLink RX4 113 yX4_depth, .instanceMethod yX4_depth, .selects RX4 yX4_depth yX4_depth, .initialized RX4, .code yX4_depth cX4_depth 4 (some .int)] ++ wsX40)
def wsX4_anyEndless : List Cond := .code yX4_anyEndless cX4_anyEndless 3 (some .boolean) :: ([.fieldLink RX4 66 "CoverTreesModel" "places" "I", .constant RX4 85 (1000000000), .methodLink RX4 110 yX4_greatest, .instanceMethod yX4_greatest, .selects RX4 yX4_greatest yX4_greatest, .initialized RX4, .code yX4_greatest cX4_greatest 4 (some .int), .fieldLink RX4 22 "CoverTreesModel" "nodes" "I", .fieldLink RX4 26 "CoverTreesModel" "marks" "[I"] ++ wsX40)
def wsX4_enabledIn : List Cond := .code yX4_enabledIn cX4_enabledIn 4 (some .boolean) :: ([.fieldLink RX4 66 "CoverTreesModel" "places" "I", .fieldLink RX4 45 "CoverTreesModel" "counts" "[I", .fieldLink RX4 16 "CoverTreesModel" "takes" "[I"] ++ wsX40)
def wsX4_find : List Cond := .code yX4_find cX4_find 4 (some .int) :: ([.fieldLink RX4 42 "CoverTreesModel" "states" "I", .fieldLink RX4 66 "CoverTreesModel" "places" "I", .fieldLink RX4 45 "CoverTreesModel" "counts" "[I", .fieldLink RX4 60 "CoverTreesModel" "work" "[I"] ++ wsX40)
def wsX4_addState : List Cond := .code yX4_addState cX4_addState 4 none :: ([.fieldLink RX4 66 "CoverTreesModel" "places" "I", .fieldLink RX4 45 "CoverTreesModel" "counts" "[I", .fieldLink RX4 42 "CoverTreesModel" "states" "I", .fieldLink RX4 60 "CoverTreesModel" "work" "[I", .fieldLink RX4 51 "CoverTreesModel" "from" "[I", .fieldLink RX4 54 "CoverTreesModel" "way" "[I"] ++ wsX40)
def wsX4_graph_r1 : List Cond := [Cond.fieldLink RX4 22 "CoverTreesModel" "nodes" "I", Cond.fieldLink RX4 63 "CoverTreesModel" "code" "I", Cond.fieldLink RX4 42 "CoverTreesModel" "states" "I", Cond.fieldLink RX4 66 "CoverTreesModel" "places" "I", Cond.fieldLink RX4 60 "CoverTreesModel" "work" "[I", Cond.fieldLink RX4 7 "CoverTreesModel" "first" "[I", Cond.fieldLink RX4 69 "CoverTreesModel" "transitions" "I", Cond.fieldLink RX4 48 "CoverTreesModel" "leads" "[I", Cond.fieldLink RX4 45 "CoverTreesModel" "counts" "[I", Cond.fieldLink RX4 16 "CoverTreesModel" "takes" "[I", Cond.fieldLink RX4 19 "CoverTreesModel" "gives" "[I", Cond.methodLink RX4 116 yX4_anyEndless, Cond.instanceMethod yX4_anyEndless, Cond.selects RX4 yX4_anyEndless yX4_anyEndless, Cond.initialized RX4, Cond.code yX4_anyEndless cX4_anyEndless 3 (some .boolean), Cond.constant RX4 85 (1000000000), Cond.methodLink RX4 110 yX4_greatest, Cond.instanceMethod yX4_greatest, Cond.selects RX4 yX4_greatest yX4_greatest, Cond.code yX4_greatest cX4_greatest 4 (some .int), Cond.fieldLink RX4 26 "CoverTreesModel" "marks" "[I", Cond.methodLink RX4 120 yX4_addState, Cond.instanceMethod yX4_addState]
def wsX4_graph_r2 : List Cond := [Cond.selects RX4 yX4_addState yX4_addState, Cond.code yX4_addState cX4_addState 4 none, Cond.fieldLink RX4 51 "CoverTreesModel" "from" "[I", Cond.fieldLink RX4 54 "CoverTreesModel" "way" "[I", Cond.methodLink RX4 123 yX4_enabledIn, Cond.instanceMethod yX4_enabledIn, Cond.selects RX4 yX4_enabledIn yX4_enabledIn, Cond.code yX4_enabledIn cX4_enabledIn 4 (some .boolean), Cond.methodLink RX4 126 yX4_find, Cond.instanceMethod yX4_find, Cond.selects RX4 yX4_find yX4_find, Cond.code yX4_find cX4_find 4 (some .int)]
def wsX4_graph : List Cond := .code yX4_graph cX4_graph 4 (some .int) :: ((wsX4_graph_r1 ++ wsX4_graph_r2) ++ wsX40)
def wsX4_noState : List Cond := .code yX4_noState cX4_noState 2 (some .boolean) :: ([.fieldLink RX4 42 "CoverTreesModel" "states" "I", .fieldLink RX4 63 "CoverTreesModel" "code" "I"] ++ wsX40)
def wsX4_reached : List Cond := .code yX4_reached cX4_reached 2 (some .int) :: ([.fieldLink RX4 42 "CoverTreesModel" "states" "I", .fieldLink RX4 63 "CoverTreesModel" "code" "I", .fieldLink RX4 66 "CoverTreesModel" "places" "I", .fieldLink RX4 60 "CoverTreesModel" "work" "[I", .fieldLink RX4 13 "CoverTreesModel" "target" "[I", .methodLink RX4 126 yX4_find, .instanceMethod yX4_find, .selects RX4 yX4_find yX4_find, .initialized RX4, .code yX4_find cX4_find 4 (some .int), .fieldLink RX4 45 "CoverTreesModel" "counts" "[I"] ++ wsX40)
def wsX4_distance : List Cond := .code yX4_distance cX4_distance 4 (some .int) :: ([.fieldLink RX4 51 "CoverTreesModel" "from" "[I", .methodLink RX4 130 yX4_noState, .instanceMethod yX4_noState, .selects RX4 yX4_noState yX4_noState, .initialized RX4, .code yX4_noState cX4_noState 2 (some .boolean), .fieldLink RX4 42 "CoverTreesModel" "states" "I", .fieldLink RX4 63 "CoverTreesModel" "code" "I"] ++ wsX40)
def wsX4_found : List Cond := .code yX4_found cX4_found 3 (some .int) :: ([.fieldLink RX4 51 "CoverTreesModel" "from" "[I", .fieldLink RX4 54 "CoverTreesModel" "way" "[I", .methodLink RX4 130 yX4_noState, .instanceMethod yX4_noState, .selects RX4 yX4_noState yX4_noState, .initialized RX4, .code yX4_noState cX4_noState 2 (some .boolean), .fieldLink RX4 42 "CoverTreesModel" "states" "I", .fieldLink RX4 63 "CoverTreesModel" "code" "I"] ++ wsX40)
def wsX4_stops : List Cond := .code yX4_stops cX4_stops 5 (some .int) :: ([.fieldLink RX4 42 "CoverTreesModel" "states" "I", .fieldLink RX4 63 "CoverTreesModel" "code" "I", .fieldLink RX4 69 "CoverTreesModel" "transitions" "I", .fieldLink RX4 48 "CoverTreesModel" "leads" "[I"] ++ wsX40)
def wsX4_live : List Cond := .code yX4_live cX4_live 6 (some .boolean) :: ([.fieldLink RX4 42 "CoverTreesModel" "states" "I", .fieldLink RX4 63 "CoverTreesModel" "code" "I", .fieldLink RX4 57 "CoverTreesModel" "can" "[Z", .fieldLink RX4 48 "CoverTreesModel" "leads" "[I", .fieldLink RX4 69 "CoverTreesModel" "transitions" "I", .methodLink RX4 79 yX4_noTransition, .instanceMethod yX4_noTransition, .selects RX4 yX4_noTransition yX4_noTransition, .initialized RX4, .code yX4_noTransition cX4_noTransition 2 (some .boolean)] ++ wsX40)
def wsJ9_max_7cf53 : List Cond := .code yJ9_max_7cf53 cJ9_max_7cf53 2 (some .int) :: ([])
def wsL_place_r1 : List Cond := [Cond.classLink RL 13 "java/lang/IllegalArgumentException", Cond.classLink RL 15 "java/lang/IllegalStateException", Cond.methodLink RL 7 yX3_place, Cond.instanceMethod yX3_place, Cond.selects RX3 yX3_place yX3_place, Cond.initialized RX3, Cond.code yX3_place cX3_place 2 (some .int), Cond.classLink RX3 44 "java/lang/IllegalStateException", Cond.initialized "java/lang/IllegalStateException", Cond.fieldLink RX3 10 "CoverTrees" "net" "LCoverTrees$Net;", Cond.methodLink RX3 36 yX3_needRange, Cond.static yX3_needRange, Cond.code yX3_needRange cX3_needRange 2 none, Cond.classLink RX3 127 "java/lang/IllegalArgumentException", Cond.initialized "java/lang/IllegalArgumentException", Cond.methodLink RX3 51 yX3_discard, Cond.instanceMethod yX3_discard, Cond.selects RX3 yX3_discard yX3_discard, Cond.code yX3_discard cX3_discard 1 none, Cond.fieldLink RX3 25 "CoverTrees" "tree" "LCoverTrees$Tree;", Cond.fieldLink RX3 32 "CoverTrees" "graph" "LCoverTrees$Graph;", Cond.methodLink RX3 54 yX1_addPlace, Cond.instanceMethod yX1_addPlace, Cond.selects RX1 yX1_addPlace yX1_addPlace]
def wsL_place_r2 : List Cond := [Cond.initialized RX1, Cond.code yX1_addPlace cX1_addPlace 2 (some .int), Cond.fieldLink RX1 9 "CoverTrees$Net" "first" "[I", Cond.fieldLink RX1 23 "CoverTrees$Net" "places" "I"]
def wsL_place : List Cond := .codeWith yL_place cL_place 4 (some .int) [(0, 9, 12, 13), (0, 9, 15, 15)] :: ((wsL_place_r1 ++ wsL_place_r2) ++ wsX30 ++ wsX10 ++ wsX20 ++ wsX00 ++ (vx_atS RX3 48 "java/lang/IllegalStateException" ["java/lang/RuntimeException", "java/lang/Exception"]).filter goodWord ++ (vx_atS RX3 131 "java/lang/IllegalArgumentException" ["java/lang/RuntimeException", "java/lang/Exception"]).filter goodWord)
def wsL_transition : List Cond := .codeWith yL_transition cL_transition 3 (some .int) [(0, 8, 11, 15)] :: ([.classLink RL 15 "java/lang/IllegalStateException", .methodLink RL 17 yX3_transition, .instanceMethod yX3_transition, .selects RX3 yX3_transition yX3_transition, .initialized RX3, .code yX3_transition cX3_transition 1 (some .int), .classLink RX3 44 "java/lang/IllegalStateException", .initialized "java/lang/IllegalStateException", .fieldLink RX3 10 "CoverTrees" "net" "LCoverTrees$Net;", .methodLink RX3 51 yX3_discard, .instanceMethod yX3_discard, .selects RX3 yX3_discard yX3_discard, .code yX3_discard cX3_discard 1 none, .fieldLink RX3 25 "CoverTrees" "tree" "LCoverTrees$Tree;", .fieldLink RX3 32 "CoverTrees" "graph" "LCoverTrees$Graph;", .methodLink RX3 63 yX1_addTransition, .instanceMethod yX1_addTransition, .selects RX1 yX1_addTransition yX1_addTransition, .initialized RX1, .code yX1_addTransition cX1_addTransition 1 (some .int), .fieldLink RX1 27 "CoverTrees$Net" "transitions" "I"] ++ wsX30 ++ wsX10 ++ wsX20 ++ wsX00 ++ (vx_atS RX3 48 "java/lang/IllegalStateException" ["java/lang/RuntimeException", "java/lang/Exception"]).filter goodWord)
def wsL_arc_r1 : List Cond := [Cond.classLink RL 25 "java/lang/IndexOutOfBoundsException", Cond.classLink RL 13 "java/lang/IllegalArgumentException", Cond.methodLink RL 21 yX3_arc, Cond.instanceMethod yX3_arc, Cond.selects RX3 yX3_arc yX3_arc, Cond.initialized RX3, Cond.code yX3_arc cX3_arc 5 (some .int), Cond.fieldLink RX3 10 "CoverTrees" "net" "LCoverTrees$Net;", Cond.methodLink RX3 67 yX3_needPlace, Cond.instanceMethod yX3_needPlace, Cond.selects RX3 yX3_needPlace yX3_needPlace, Cond.code yX3_needPlace cX3_needPlace 2 none, Cond.classLink RX3 174 "java/lang/IndexOutOfBoundsException", Cond.initialized "java/lang/IndexOutOfBoundsException", Cond.methodLink RX3 71 yX3_needTransition, Cond.instanceMethod yX3_needTransition, Cond.selects RX3 yX3_needTransition yX3_needTransition, Cond.code yX3_needTransition cX3_needTransition 2 none, Cond.methodLink RX3 36 yX3_needRange, Cond.static yX3_needRange, Cond.code yX3_needRange cX3_needRange 2 none, Cond.classLink RX3 127 "java/lang/IllegalArgumentException", Cond.initialized "java/lang/IllegalArgumentException", Cond.methodLink RX3 51 yX3_discard]
def wsL_arc_r2 : List Cond := [Cond.instanceMethod yX3_discard, Cond.selects RX3 yX3_discard yX3_discard, Cond.code yX3_discard cX3_discard 1 none, Cond.fieldLink RX3 25 "CoverTrees" "tree" "LCoverTrees$Tree;", Cond.fieldLink RX3 32 "CoverTrees" "graph" "LCoverTrees$Graph;", Cond.methodLink RX3 74 yX1_setArc, Cond.instanceMethod yX1_setArc, Cond.selects RX1 yX1_setArc yX1_setArc, Cond.initialized RX1, Cond.code yX1_setArc cX1_setArc 7 (some .int), Cond.fieldLink RX1 20 "CoverTrees$Net" "gives" "[[I", Cond.fieldLink RX1 17 "CoverTrees$Net" "takes" "[[I"]
def wsL_arc : List Cond := .codeWith yL_arc cL_arc 7 (some .int) [(0, 14, 17, 25), (0, 14, 21, 13)] :: ((wsL_arc_r1 ++ wsL_arc_r2) ++ wsX30 ++ wsX10 ++ wsX20 ++ wsX00 ++ (vx_atS RX3 178 "java/lang/IndexOutOfBoundsException" ["java/lang/RuntimeException", "java/lang/Exception"]).filter goodWord ++ (vx_atS RX3 131 "java/lang/IllegalArgumentException" ["java/lang/RuntimeException", "java/lang/Exception"]).filter goodWord)
def wsL_tokens_r1 : List Cond := [Cond.classLink RL 25 "java/lang/IndexOutOfBoundsException", Cond.classLink RL 13 "java/lang/IllegalArgumentException", Cond.methodLink RL 27 yX3_tokens, Cond.instanceMethod yX3_tokens, Cond.selects RX3 yX3_tokens yX3_tokens, Cond.initialized RX3, Cond.code yX3_tokens cX3_tokens 3 none, Cond.fieldLink RX3 10 "CoverTrees" "net" "LCoverTrees$Net;", Cond.methodLink RX3 67 yX3_needPlace, Cond.instanceMethod yX3_needPlace, Cond.selects RX3 yX3_needPlace yX3_needPlace, Cond.code yX3_needPlace cX3_needPlace 2 none, Cond.classLink RX3 174 "java/lang/IndexOutOfBoundsException", Cond.initialized "java/lang/IndexOutOfBoundsException", Cond.methodLink RX3 36 yX3_needRange, Cond.static yX3_needRange, Cond.code yX3_needRange cX3_needRange 2 none, Cond.classLink RX3 127 "java/lang/IllegalArgumentException", Cond.initialized "java/lang/IllegalArgumentException", Cond.methodLink RX3 51 yX3_discard, Cond.instanceMethod yX3_discard, Cond.selects RX3 yX3_discard yX3_discard, Cond.code yX3_discard cX3_discard 1 none, Cond.fieldLink RX3 25 "CoverTrees" "tree" "LCoverTrees$Tree;"]
def wsL_tokens_r2 : List Cond := [Cond.fieldLink RX3 32 "CoverTrees" "graph" "LCoverTrees$Graph;"]
def wsL_tokens : List Cond := .codeWith yL_tokens cL_tokens 4 (some .int) [(0, 6, 9, 25), (0, 6, 12, 13)] :: ((wsL_tokens_r1 ++ wsL_tokens_r2) ++ wsX30 ++ wsX10 ++ wsX20 ++ wsX00 ++ (vx_atS RX3 178 "java/lang/IndexOutOfBoundsException" ["java/lang/RuntimeException", "java/lang/Exception"]).filter goodWord ++ (vx_atS RX3 131 "java/lang/IllegalArgumentException" ["java/lang/RuntimeException", "java/lang/Exception"]).filter goodWord)
def wsL_explore_r1 : List Cond := [Cond.classLink RL 34 "java/lang/UnsupportedOperationException", Cond.methodLink RL 31 yX3_explore, Cond.instanceMethod yX3_explore, Cond.selects RX3 yX3_explore yX3_explore, Cond.initialized RX3, Cond.code yX3_explore cX3_explore 1 (some .int), Cond.classLink RX3 85 "java/lang/UnsupportedOperationException", Cond.initialized "java/lang/UnsupportedOperationException", Cond.fieldLink RX3 25 "CoverTrees" "tree" "LCoverTrees$Tree;", Cond.methodLink RX3 51 yX3_discard, Cond.instanceMethod yX3_discard, Cond.selects RX3 yX3_discard yX3_discard, Cond.code yX3_discard cX3_discard 1 none, Cond.fieldLink RX3 32 "CoverTrees" "graph" "LCoverTrees$Graph;", Cond.methodLink RX3 81 yX2_grow, Cond.instanceMethod yX2_grow, Cond.selects RX2 yX2_grow yX2_grow, Cond.initialized RX2, Cond.code yX2_grow cX2_grow 4 (some .boolean), Cond.fieldLink RX2 26 "CoverTrees$Tree" "copies" "[Z", Cond.fieldLink RX2 30 "CoverTrees$Tree" "net" "LCoverTrees$Net;", Cond.fieldLink RX2 20 "CoverTrees$Tree" "cameBy" "[I", Cond.fieldLink RX2 16 "CoverTrees$Tree" "parents" "[I", Cond.fieldLink RX2 11 "CoverTrees$Tree" "markings" "[[I"]
def wsL_explore_r2 : List Cond := [Cond.fieldLink RX2 47 "CoverTrees$Tree" "size" "I", Cond.methodLink RX2 34 yX2_addRoot, Cond.instanceMethod yX2_addRoot, Cond.selects RX2 yX2_addRoot yX2_addRoot, Cond.code yX2_addRoot cX2_addRoot 1 none, Cond.fieldLink RX2 23 "CoverTrees$Tree" "depths" "[I", Cond.fieldLink RX2 61 "CoverTrees$Tree" "firstEndless" "I", Cond.static yX3_copyInto, Cond.code yX3_copyInto cX3_copyInto 2 none, Cond.methodLink RX3 190 arraycopyName, Cond.native arraycopyName, Cond.static arraycopyName, Cond.initialized "java/lang/System", Cond.methodLink RX2 43 yX1_enables, Cond.instanceMethod yX1_enables, Cond.selects RX1 yX1_enables yX1_enables, Cond.initialized RX1, Cond.code yX1_enables cX1_enables 3 (some .boolean), Cond.fieldLink RX1 17 "CoverTrees$Net" "takes" "[[I", Cond.static yX3_covers, Cond.code yX3_covers cX3_covers 3 (some .boolean), Cond.methodLink RX2 50 yX2_addChild, Cond.instanceMethod yX2_addChild, Cond.selects RX2 yX2_addChild yX2_addChild]
def wsL_explore_r3 : List Cond := [Cond.code yX2_addChild cX2_addChild 4 (some .int), Cond.methodLink RX2 64 yX1_fire, Cond.instanceMethod yX1_fire, Cond.selects RX1 yX1_fire yX1_fire, Cond.code yX1_fire cX1_fire 6 none, Cond.constant RX1 34 (1000000), Cond.fieldLink RX1 20 "CoverTrees$Net" "gives" "[[I", Cond.methodLink RX2 68 yX2_makeEndlessWhatRepeats, Cond.instanceMethod yX2_makeEndlessWhatRepeats, Cond.selects RX2 yX2_makeEndlessWhatRepeats yX2_makeEndlessWhatRepeats, Cond.code yX2_makeEndlessWhatRepeats cX2_makeEndlessWhatRepeats 6 none, Cond.static yX3_same, Cond.code yX3_same cX3_same 3 (some .boolean), Cond.methodLink RX2 83 yX2_makeEndlessWhereMore, Cond.instanceMethod yX2_makeEndlessWhereMore, Cond.selects RX2 yX2_makeEndlessWhereMore yX2_makeEndlessWhereMore, Cond.code yX2_makeEndlessWhereMore cX2_makeEndlessWhereMore 4 none, Cond.constant RX2 90 (1000000), Cond.methodLink RX2 86 yX2_noteFirstEndless, Cond.instanceMethod yX2_noteFirstEndless, Cond.selects RX2 yX2_noteFirstEndless yX2_noteFirstEndless, Cond.code yX2_noteFirstEndless cX2_noteFirstEndless 3 none, Cond.fieldLink RX2 91 "CoverTrees$Tree" "depthOfRepeat" "I", Cond.methodLink RX2 72 yX2_isAmongEarlier]
def wsL_explore_r4 : List Cond := [Cond.instanceMethod yX2_isAmongEarlier, Cond.selects RX2 yX2_isAmongEarlier yX2_isAmongEarlier, Cond.code yX2_isAmongEarlier cX2_isAmongEarlier 3 (some .boolean)]
def wsL_explore : List Cond := .codeWith yL_explore cL_explore 3 (some .int) [(0, 8, 11, 34)] :: ((wsL_explore_r1 ++ (wsL_explore_r2 ++ (wsL_explore_r3 ++ wsL_explore_r4))) ++ wsX30 ++ wsX20 ++ wsX00 ++ wsX10 ++ (vx_atS RX3 89 "java/lang/UnsupportedOperationException" ["java/lang/RuntimeException", "java/lang/Exception"]).filter goodWord)
def wsL_count_r1 : List Cond := [Cond.classLink RL 15 "java/lang/IllegalStateException", Cond.classLink RL 25 "java/lang/IndexOutOfBoundsException", Cond.methodLink RL 36 yX3_count, Cond.instanceMethod yX3_count, Cond.selects RX3 yX3_count yX3_count, Cond.initialized RX3, Cond.code yX3_count cX3_count 3 (some .int), Cond.fieldLink RX3 25 "CoverTrees" "tree" "LCoverTrees$Tree;", Cond.methodLink RX3 93 yX3_needTree, Cond.instanceMethod yX3_needTree, Cond.selects RX3 yX3_needTree yX3_needTree, Cond.code yX3_needTree cX3_needTree 1 none, Cond.classLink RX3 44 "java/lang/IllegalStateException", Cond.initialized "java/lang/IllegalStateException", Cond.methodLink RX3 96 yX3_needNode, Cond.instanceMethod yX3_needNode, Cond.selects RX3 yX3_needNode yX3_needNode, Cond.code yX3_needNode cX3_needNode 2 none, Cond.classLink RX3 174 "java/lang/IndexOutOfBoundsException", Cond.initialized "java/lang/IndexOutOfBoundsException", Cond.methodLink RX3 67 yX3_needPlace, Cond.instanceMethod yX3_needPlace, Cond.selects RX3 yX3_needPlace yX3_needPlace, Cond.code yX3_needPlace cX3_needPlace 2 none]
def wsL_count_r2 : List Cond := [Cond.fieldLink RX3 10 "CoverTrees" "net" "LCoverTrees$Net;", Cond.methodLink RX3 103 yX3_asTold, Cond.static yX3_asTold, Cond.code yX3_asTold cX3_asTold 1 (some .int), Cond.constant RX3 189 (1000000)]
def wsL_count : List Cond := .codeWith yL_count cL_count 5 (some .int) [(0, 10, 13, 15), (0, 10, 17, 25)] :: ((wsL_count_r1 ++ wsL_count_r2) ++ wsX30 ++ wsX20 ++ wsX10 ++ (vx_atS RX3 48 "java/lang/IllegalStateException" ["java/lang/RuntimeException", "java/lang/Exception"]).filter goodWord ++ (vx_atS RX3 178 "java/lang/IndexOutOfBoundsException" ["java/lang/RuntimeException", "java/lang/Exception"]).filter goodWord)
def wsL_node : List Cond := .codeWith yL_node cL_node 5 (some .int) [(0, 10, 13, 15), (0, 10, 17, 25)] :: ([.classLink RL 15 "java/lang/IllegalStateException", .classLink RL 25 "java/lang/IndexOutOfBoundsException", .methodLink RL 40 yX3_node, .instanceMethod yX3_node, .selects RX3 yX3_node yX3_node, .initialized RX3, .code yX3_node cX3_node 3 (some .int), .fieldLink RX3 25 "CoverTrees" "tree" "LCoverTrees$Tree;", .methodLink RX3 93 yX3_needTree, .instanceMethod yX3_needTree, .selects RX3 yX3_needTree yX3_needTree, .code yX3_needTree cX3_needTree 1 none, .classLink RX3 44 "java/lang/IllegalStateException", .initialized "java/lang/IllegalStateException", .methodLink RX3 96 yX3_needNode, .instanceMethod yX3_needNode, .selects RX3 yX3_needNode yX3_needNode, .code yX3_needNode cX3_needNode 2 none, .classLink RX3 174 "java/lang/IndexOutOfBoundsException", .initialized "java/lang/IndexOutOfBoundsException"] ++ wsX30 ++ wsX20 ++ (vx_atS RX3 48 "java/lang/IllegalStateException" ["java/lang/RuntimeException", "java/lang/Exception"]).filter goodWord ++ (vx_atS RX3 178 "java/lang/IndexOutOfBoundsException" ["java/lang/RuntimeException", "java/lang/Exception"]).filter goodWord)
def wsL_bound_r1 : List Cond := [Cond.classLink RL 15 "java/lang/IllegalStateException", Cond.classLink RL 25 "java/lang/IndexOutOfBoundsException", Cond.methodLink RL 43 yX3_bound, Cond.instanceMethod yX3_bound, Cond.selects RX3 yX3_bound yX3_bound, Cond.initialized RX3, Cond.code yX3_bound cX3_bound 2 (some .int), Cond.fieldLink RX3 25 "CoverTrees" "tree" "LCoverTrees$Tree;", Cond.methodLink RX3 93 yX3_needTree, Cond.instanceMethod yX3_needTree, Cond.selects RX3 yX3_needTree yX3_needTree, Cond.code yX3_needTree cX3_needTree 1 none, Cond.classLink RX3 44 "java/lang/IllegalStateException", Cond.initialized "java/lang/IllegalStateException", Cond.methodLink RX3 67 yX3_needPlace, Cond.instanceMethod yX3_needPlace, Cond.selects RX3 yX3_needPlace yX3_needPlace, Cond.code yX3_needPlace cX3_needPlace 2 none, Cond.classLink RX3 174 "java/lang/IndexOutOfBoundsException", Cond.initialized "java/lang/IndexOutOfBoundsException", Cond.fieldLink RX3 10 "CoverTrees" "net" "LCoverTrees$Net;", Cond.methodLink RX3 116 yX2_greatestCount, Cond.instanceMethod yX2_greatestCount, Cond.selects RX2 yX2_greatestCount yX2_greatestCount]
def wsL_bound_r2 : List Cond := [Cond.initialized RX2, Cond.code yX2_greatestCount cX2_greatestCount 4 (some .int), Cond.fieldLink RX2 47 "CoverTrees$Tree" "size" "I", Cond.fieldLink RX2 11 "CoverTrees$Tree" "markings" "[[I", Cond.methodLink RX2 94 Lib.Math.max.name, Cond.static Lib.Math.max.name, Cond.initialized "java/lang/Math", Cond.code Lib.Math.max.name Lib.Math.max.code 2 (some .int), Cond.methodLink RX3 103 yX3_asTold, Cond.static yX3_asTold, Cond.code yX3_asTold cX3_asTold 1 (some .int), Cond.constant RX3 189 (1000000)]
def wsL_bound : List Cond := .codeWith yL_bound cL_bound 4 (some .int) [(0, 9, 12, 15), (0, 9, 15, 25)] :: ((wsL_bound_r1 ++ wsL_bound_r2) ++ wsX30 ++ wsX20 ++ wsX10 ++ (vx_atS RX3 48 "java/lang/IllegalStateException" ["java/lang/RuntimeException", "java/lang/Exception"]).filter goodWord ++ (vx_atS RX3 178 "java/lang/IndexOutOfBoundsException" ["java/lang/RuntimeException", "java/lang/Exception"]).filter goodWord)
def wsL_want : List Cond := .codeWith yL_want cL_want 4 (some .int) [(0, 6, 9, 25), (0, 6, 12, 13)] :: ([.classLink RL 25 "java/lang/IndexOutOfBoundsException", .classLink RL 13 "java/lang/IllegalArgumentException", .methodLink RL 46 yX3_want, .instanceMethod yX3_want, .selects RX3 yX3_want yX3_want, .initialized RX3, .code yX3_want cX3_want 3 none, .fieldLink RX3 16 "CoverTrees" "target" "[I", .methodLink RX3 67 yX3_needPlace, .instanceMethod yX3_needPlace, .selects RX3 yX3_needPlace yX3_needPlace, .code yX3_needPlace cX3_needPlace 2 none, .classLink RX3 174 "java/lang/IndexOutOfBoundsException", .initialized "java/lang/IndexOutOfBoundsException", .fieldLink RX3 10 "CoverTrees" "net" "LCoverTrees$Net;", .methodLink RX3 36 yX3_needRange, .static yX3_needRange, .code yX3_needRange cX3_needRange 2 none, .classLink RX3 127 "java/lang/IllegalArgumentException", .initialized "java/lang/IllegalArgumentException"] ++ wsX30 ++ wsX10 ++ (vx_atS RX3 178 "java/lang/IndexOutOfBoundsException" ["java/lang/RuntimeException", "java/lang/Exception"]).filter goodWord ++ (vx_atS RX3 131 "java/lang/IllegalArgumentException" ["java/lang/RuntimeException", "java/lang/Exception"]).filter goodWord)
def wsL_covered : List Cond := .codeWith yL_covered cL_covered 3 (some .int) [(0, 15, 18, 15)] :: ([.classLink RL 15 "java/lang/IllegalStateException", .methodLink RL 49 yX3_covered, .instanceMethod yX3_covered, .selects RX3 yX3_covered yX3_covered, .initialized RX3, .code yX3_covered cX3_covered 1 (some .boolean), .fieldLink RX3 25 "CoverTrees" "tree" "LCoverTrees$Tree;", .fieldLink RX3 16 "CoverTrees" "target" "[I", .methodLink RX3 93 yX3_needTree, .instanceMethod yX3_needTree, .selects RX3 yX3_needTree yX3_needTree, .code yX3_needTree cX3_needTree 1 none, .classLink RX3 44 "java/lang/IllegalStateException", .initialized "java/lang/IllegalStateException", .methodLink RX3 119 yX2_hasNodeCovering, .instanceMethod yX2_hasNodeCovering, .selects RX2 yX2_hasNodeCovering yX2_hasNodeCovering, .initialized RX2, .code yX2_hasNodeCovering cX2_hasNodeCovering 3 (some .boolean), .fieldLink RX2 47 "CoverTrees$Tree" "size" "I", .fieldLink RX2 11 "CoverTrees$Tree" "markings" "[[I", .static yX3_covers, .code yX3_covers cX3_covers 3 (some .boolean)] ++ wsX30 ++ wsX20 ++ (vx_atS RX3 48 "java/lang/IllegalStateException" ["java/lang/RuntimeException", "java/lang/Exception"]).filter goodWord)
def wsL_possible_r1 : List Cond := [Cond.classLink RL 15 "java/lang/IllegalStateException", Cond.classLink RL 25 "java/lang/IndexOutOfBoundsException", Cond.methodLink RL 53 yX3_possible, Cond.instanceMethod yX3_possible, Cond.selects RX3 yX3_possible yX3_possible, Cond.initialized RX3, Cond.code yX3_possible cX3_possible 2 (some .boolean), Cond.fieldLink RX3 25 "CoverTrees" "tree" "LCoverTrees$Tree;", Cond.methodLink RX3 93 yX3_needTree, Cond.instanceMethod yX3_needTree, Cond.selects RX3 yX3_needTree yX3_needTree, Cond.code yX3_needTree cX3_needTree 1 none, Cond.classLink RX3 44 "java/lang/IllegalStateException", Cond.initialized "java/lang/IllegalStateException", Cond.methodLink RX3 71 yX3_needTransition, Cond.instanceMethod yX3_needTransition, Cond.selects RX3 yX3_needTransition yX3_needTransition, Cond.code yX3_needTransition cX3_needTransition 2 none, Cond.classLink RX3 174 "java/lang/IndexOutOfBoundsException", Cond.initialized "java/lang/IndexOutOfBoundsException", Cond.fieldLink RX3 10 "CoverTrees" "net" "LCoverTrees$Net;", Cond.methodLink RX3 123 yX2_hasNodeEnabling, Cond.instanceMethod yX2_hasNodeEnabling, Cond.selects RX2 yX2_hasNodeEnabling yX2_hasNodeEnabling]
def wsL_possible_r2 : List Cond := [Cond.initialized RX2, Cond.code yX2_hasNodeEnabling cX2_hasNodeEnabling 2 (some .boolean), Cond.fieldLink RX2 30 "CoverTrees$Tree" "net" "LCoverTrees$Net;", Cond.methodLink RX2 102 yX2_hasNodeCovering, Cond.instanceMethod yX2_hasNodeCovering, Cond.selects RX2 yX2_hasNodeCovering yX2_hasNodeCovering, Cond.code yX2_hasNodeCovering cX2_hasNodeCovering 3 (some .boolean), Cond.fieldLink RX2 47 "CoverTrees$Tree" "size" "I", Cond.fieldLink RX2 11 "CoverTrees$Tree" "markings" "[[I", Cond.static yX3_covers, Cond.code yX3_covers cX3_covers 3 (some .boolean)]
def wsL_possible : List Cond := .codeWith yL_possible cL_possible 4 (some .int) [(0, 16, 19, 15), (0, 16, 22, 25)] :: ((wsL_possible_r1 ++ wsL_possible_r2) ++ wsX30 ++ wsX20 ++ wsX10 ++ (vx_atS RX3 48 "java/lang/IllegalStateException" ["java/lang/RuntimeException", "java/lang/Exception"]).filter goodWord ++ (vx_atS RX3 178 "java/lang/IndexOutOfBoundsException" ["java/lang/RuntimeException", "java/lang/Exception"]).filter goodWord)
def wsL_growth_r1 : List Cond := [Cond.classLink RL 15 "java/lang/IllegalStateException", Cond.classLink RL 13 "java/lang/IllegalArgumentException", Cond.methodLink RL 57 yX3_growth, Cond.instanceMethod yX3_growth, Cond.selects RX3 yX3_growth yX3_growth, Cond.initialized RX3, Cond.code yX3_growth cX3_growth 2 (some .int), Cond.classLink RX3 127 "java/lang/IllegalArgumentException", Cond.initialized "java/lang/IllegalArgumentException", Cond.fieldLink RX3 25 "CoverTrees" "tree" "LCoverTrees$Tree;", Cond.methodLink RX3 93 yX3_needTree, Cond.instanceMethod yX3_needTree, Cond.selects RX3 yX3_needTree yX3_needTree, Cond.code yX3_needTree cX3_needTree 1 none, Cond.classLink RX3 44 "java/lang/IllegalStateException", Cond.initialized "java/lang/IllegalStateException", Cond.methodLink RX3 132 yX2_hasEndless, Cond.instanceMethod yX2_hasEndless, Cond.selects RX2 yX2_hasEndless yX2_hasEndless, Cond.initialized RX2, Cond.code yX2_hasEndless cX2_hasEndless 1 (some .boolean), Cond.fieldLink RX2 61 "CoverTrees$Tree" "firstEndless" "I", Cond.methodLink RX3 138 yX2_stepToFirstEndless, Cond.instanceMethod yX2_stepToFirstEndless]
def wsL_growth_r2 : List Cond := [Cond.selects RX2 yX2_stepToFirstEndless yX2_stepToFirstEndless, Cond.code yX2_stepToFirstEndless cX2_stepToFirstEndless 4 (some .int), Cond.fieldLink RX2 23 "CoverTrees$Tree" "depths" "[I", Cond.fieldLink RX2 16 "CoverTrees$Tree" "parents" "[I", Cond.fieldLink RX2 20 "CoverTrees$Tree" "cameBy" "[I"]
def wsL_growth : List Cond := .codeWith yL_growth cL_growth 4 (some .int) [(0, 9, 12, 15), (0, 9, 15, 13)] :: ((wsL_growth_r1 ++ wsL_growth_r2) ++ wsX30 ++ wsX20 ++ (vx_atS RX3 131 "java/lang/IllegalArgumentException" ["java/lang/RuntimeException", "java/lang/Exception"]).filter goodWord ++ (vx_atS RX3 48 "java/lang/IllegalStateException" ["java/lang/RuntimeException", "java/lang/Exception"]).filter goodWord)
def wsL_graph_r1 : List Cond := [Cond.classLink RL 15 "java/lang/IllegalStateException", Cond.classLink RL 34 "java/lang/UnsupportedOperationException", Cond.methodLink RL 60 yX3_graph, Cond.instanceMethod yX3_graph, Cond.selects RX3 yX3_graph yX3_graph, Cond.initialized RX3, Cond.code yX3_graph cX3_graph 1 (some .int), Cond.classLink RX3 44 "java/lang/IllegalStateException", Cond.initialized "java/lang/IllegalStateException", Cond.classLink RX3 85 "java/lang/UnsupportedOperationException", Cond.initialized "java/lang/UnsupportedOperationException", Cond.fieldLink RX3 25 "CoverTrees" "tree" "LCoverTrees$Tree;", Cond.fieldLink RX3 32 "CoverTrees" "graph" "LCoverTrees$Graph;", Cond.methodLink RX3 93 yX3_needTree, Cond.instanceMethod yX3_needTree, Cond.selects RX3 yX3_needTree yX3_needTree, Cond.code yX3_needTree cX3_needTree 1 none, Cond.methodLink RX3 132 yX2_hasEndless, Cond.instanceMethod yX2_hasEndless, Cond.selects RX2 yX2_hasEndless yX2_hasEndless, Cond.initialized RX2, Cond.code yX2_hasEndless cX2_hasEndless 1 (some .boolean), Cond.fieldLink RX2 61 "CoverTrees$Tree" "firstEndless" "I", Cond.methodLink RX3 143 yX0_build]
def wsL_graph_r2 : List Cond := [Cond.instanceMethod yX0_build, Cond.selects RX0 yX0_build yX0_build, Cond.initialized RX0, Cond.code yX0_build cX0_build 2 (some .boolean), Cond.fieldLink RX0 32 "CoverTrees$Graph" "fired" "[I", Cond.fieldLink RX0 35 "CoverTrees$Graph" "net" "LCoverTrees$Net;", Cond.fieldLink RX0 48 "CoverTrees$Graph" "size" "I", Cond.static yX3_copyInto, Cond.code yX3_copyInto cX3_copyInto 2 none, Cond.methodLink RX3 190 arraycopyName, Cond.native arraycopyName, Cond.static arraycopyName, Cond.initialized "java/lang/System", Cond.methodLink RX0 52 yX0_addState, Cond.instanceMethod yX0_addState, Cond.selects RX0 yX0_addState yX0_addState, Cond.code yX0_addState cX0_addState 5 (some .int), Cond.fieldLink RX0 11 "CoverTrees$Graph" "markings" "[[I", Cond.fieldLink RX0 19 "CoverTrees$Graph" "cameFrom" "[I", Cond.fieldLink RX0 23 "CoverTrees$Graph" "cameBy" "[I", Cond.fieldLink RX0 26 "CoverTrees$Graph" "distances" "[I", Cond.methodLink RX0 56 yX0_follow, Cond.instanceMethod yX0_follow, Cond.selects RX0 yX0_follow yX0_follow]
def wsL_graph_r3 : List Cond := [Cond.code yX0_follow cX0_follow 4 (some .boolean), Cond.fieldLink RX0 16 "CoverTrees$Graph" "next" "[[I", Cond.methodLink RX0 66 yX1_enables, Cond.instanceMethod yX1_enables, Cond.selects RX1 yX1_enables yX1_enables, Cond.initialized RX1, Cond.code yX1_enables cX1_enables 3 (some .boolean), Cond.fieldLink RX1 17 "CoverTrees$Net" "takes" "[[I", Cond.static yX3_covers, Cond.code yX3_covers cX3_covers 3 (some .boolean), Cond.methodLink RX0 70 yX1_fire, Cond.instanceMethod yX1_fire, Cond.selects RX1 yX1_fire yX1_fire, Cond.code yX1_fire cX1_fire 6 none, Cond.constant RX1 34 (1000000), Cond.fieldLink RX1 20 "CoverTrees$Net" "gives" "[[I", Cond.methodLink RX0 74 yX0_stateOf, Cond.instanceMethod yX0_stateOf, Cond.selects RX0 yX0_stateOf yX0_stateOf, Cond.code yX0_stateOf cX0_stateOf 3 (some .int), Cond.static yX3_same, Cond.code yX3_same cX3_same 3 (some .boolean), Cond.methodLink RX0 60 yX0_lookAhead, Cond.instanceMethod yX0_lookAhead]
def wsL_graph_r4 : List Cond := [Cond.selects RX0 yX0_lookAhead yX0_lookAhead, Cond.code yX0_lookAhead cX0_lookAhead 5 none, Cond.fieldLink RX0 29 "CoverTrees$Graph" "ahead" "[I", Cond.methodLink RX0 78 yX0_enabledIn, Cond.instanceMethod yX0_enabledIn, Cond.selects RX0 yX0_enabledIn yX0_enabledIn, Cond.code yX0_enabledIn cX0_enabledIn 4 (some .int), Cond.methodLink RX0 82 yX0_aheadOfNext, Cond.instanceMethod yX0_aheadOfNext, Cond.selects RX0 yX0_aheadOfNext yX0_aheadOfNext, Cond.code yX0_aheadOfNext cX0_aheadOfNext 5 (some .int)]
def wsL_graph : List Cond := .codeWith yL_graph cL_graph 3 (some .int) [(0, 8, 11, 15), (0, 8, 14, 34)] :: ((wsL_graph_r1 ++ (wsL_graph_r2 ++ (wsL_graph_r3 ++ wsL_graph_r4))) ++ wsX30 ++ wsX00 ++ wsX20 ++ wsX10 ++ (vx_atS RX3 48 "java/lang/IllegalStateException" ["java/lang/RuntimeException", "java/lang/Exception"]).filter goodWord ++ (vx_atS RX3 89 "java/lang/UnsupportedOperationException" ["java/lang/RuntimeException", "java/lang/Exception"]).filter goodWord)
def wsL_reached : List Cond := .codeWith yL_reached cL_reached 3 (some .int) [(0, 8, 11, 15)] :: ([.classLink RL 15 "java/lang/IllegalStateException", .methodLink RL 63 yX3_reached, .instanceMethod yX3_reached, .selects RX3 yX3_reached yX3_reached, .initialized RX3, .code yX3_reached cX3_reached 1 (some .int), .fieldLink RX3 32 "CoverTrees" "graph" "LCoverTrees$Graph;", .fieldLink RX3 16 "CoverTrees" "target" "[I", .methodLink RX3 149 yX3_needGraph, .instanceMethod yX3_needGraph, .selects RX3 yX3_needGraph yX3_needGraph, .code yX3_needGraph cX3_needGraph 1 none, .classLink RX3 44 "java/lang/IllegalStateException", .initialized "java/lang/IllegalStateException", .methodLink RX3 152 yX0_stateOf, .instanceMethod yX0_stateOf, .selects RX0 yX0_stateOf yX0_stateOf, .initialized RX0, .code yX0_stateOf cX0_stateOf 3 (some .int), .fieldLink RX0 48 "CoverTrees$Graph" "size" "I", .fieldLink RX0 11 "CoverTrees$Graph" "markings" "[[I", .static yX3_same, .code yX3_same cX3_same 3 (some .boolean)] ++ wsX30 ++ wsX00 ++ (vx_atS RX3 48 "java/lang/IllegalStateException" ["java/lang/RuntimeException", "java/lang/Exception"]).filter goodWord)
def wsL_distance : List Cond := .codeWith yL_distance cL_distance 4 (some .int) [(0, 9, 12, 15), (0, 9, 15, 25)] :: ([.classLink RL 15 "java/lang/IllegalStateException", .classLink RL 25 "java/lang/IndexOutOfBoundsException", .methodLink RL 66 yX3_distance, .instanceMethod yX3_distance, .selects RX3 yX3_distance yX3_distance, .initialized RX3, .code yX3_distance cX3_distance 2 (some .int), .fieldLink RX3 32 "CoverTrees" "graph" "LCoverTrees$Graph;", .methodLink RX3 149 yX3_needGraph, .instanceMethod yX3_needGraph, .selects RX3 yX3_needGraph yX3_needGraph, .code yX3_needGraph cX3_needGraph 1 none, .classLink RX3 44 "java/lang/IllegalStateException", .initialized "java/lang/IllegalStateException", .methodLink RX3 156 yX3_needState, .instanceMethod yX3_needState, .selects RX3 yX3_needState yX3_needState, .code yX3_needState cX3_needState 2 none, .classLink RX3 174 "java/lang/IndexOutOfBoundsException", .initialized "java/lang/IndexOutOfBoundsException"] ++ wsX30 ++ wsX00 ++ (vx_atS RX3 48 "java/lang/IllegalStateException" ["java/lang/RuntimeException", "java/lang/Exception"]).filter goodWord ++ (vx_atS RX3 178 "java/lang/IndexOutOfBoundsException" ["java/lang/RuntimeException", "java/lang/Exception"]).filter goodWord)
def wsL_found : List Cond := .codeWith yL_found cL_found 5 (some .int) [(0, 10, 13, 15), (0, 10, 17, 25)] :: ([.classLink RL 15 "java/lang/IllegalStateException", .classLink RL 25 "java/lang/IndexOutOfBoundsException", .methodLink RL 69 yX3_found, .instanceMethod yX3_found, .selects RX3 yX3_found yX3_found, .initialized RX3, .code yX3_found cX3_found 3 (some .int), .fieldLink RX3 32 "CoverTrees" "graph" "LCoverTrees$Graph;", .methodLink RX3 149 yX3_needGraph, .instanceMethod yX3_needGraph, .selects RX3 yX3_needGraph yX3_needGraph, .code yX3_needGraph cX3_needGraph 1 none, .classLink RX3 44 "java/lang/IllegalStateException", .initialized "java/lang/IllegalStateException", .methodLink RX3 156 yX3_needState, .instanceMethod yX3_needState, .selects RX3 yX3_needState yX3_needState, .code yX3_needState cX3_needState 2 none, .classLink RX3 174 "java/lang/IndexOutOfBoundsException", .initialized "java/lang/IndexOutOfBoundsException"] ++ wsX30 ++ wsX00 ++ (vx_atS RX3 48 "java/lang/IllegalStateException" ["java/lang/RuntimeException", "java/lang/Exception"]).filter goodWord ++ (vx_atS RX3 178 "java/lang/IndexOutOfBoundsException" ["java/lang/RuntimeException", "java/lang/Exception"]).filter goodWord)
def wsL_stops_r1 : List Cond := [Cond.classLink RL 15 "java/lang/IllegalStateException", Cond.methodLink RL 73 yX3_stops, Cond.instanceMethod yX3_stops, Cond.selects RX3 yX3_stops yX3_stops, Cond.initialized RX3, Cond.code yX3_stops cX3_stops 1 (some .int), Cond.fieldLink RX3 32 "CoverTrees" "graph" "LCoverTrees$Graph;", Cond.methodLink RX3 149 yX3_needGraph, Cond.instanceMethod yX3_needGraph, Cond.selects RX3 yX3_needGraph yX3_needGraph, Cond.code yX3_needGraph cX3_needGraph 1 none, Cond.classLink RX3 44 "java/lang/IllegalStateException", Cond.initialized "java/lang/IllegalStateException", Cond.methodLink RX3 166 yX0_countStops, Cond.instanceMethod yX0_countStops, Cond.selects RX0 yX0_countStops yX0_countStops, Cond.initialized RX0, Cond.code yX0_countStops cX0_countStops 3 (some .int), Cond.fieldLink RX0 48 "CoverTrees$Graph" "size" "I", Cond.methodLink RX0 78 yX0_enabledIn, Cond.instanceMethod yX0_enabledIn, Cond.selects RX0 yX0_enabledIn yX0_enabledIn, Cond.code yX0_enabledIn cX0_enabledIn 4 (some .int), Cond.fieldLink RX0 35 "CoverTrees$Graph" "net" "LCoverTrees$Net;"]
def wsL_stops_r2 : List Cond := [Cond.fieldLink RX0 16 "CoverTrees$Graph" "next" "[[I"]
def wsL_stops : List Cond := .codeWith yL_stops cL_stops 3 (some .int) [(0, 8, 11, 15)] :: ((wsL_stops_r1 ++ wsL_stops_r2) ++ wsX30 ++ wsX00 ++ wsX10 ++ (vx_atS RX3 48 "java/lang/IllegalStateException" ["java/lang/RuntimeException", "java/lang/Exception"]).filter goodWord)
def wsL_live_r1 : List Cond := [Cond.classLink RL 15 "java/lang/IllegalStateException", Cond.classLink RL 25 "java/lang/IndexOutOfBoundsException", Cond.methodLink RL 76 yX3_live, Cond.instanceMethod yX3_live, Cond.selects RX3 yX3_live yX3_live, Cond.initialized RX3, Cond.code yX3_live cX3_live 2 (some .boolean), Cond.fieldLink RX3 32 "CoverTrees" "graph" "LCoverTrees$Graph;", Cond.methodLink RX3 149 yX3_needGraph, Cond.instanceMethod yX3_needGraph, Cond.selects RX3 yX3_needGraph yX3_needGraph, Cond.code yX3_needGraph cX3_needGraph 1 none, Cond.classLink RX3 44 "java/lang/IllegalStateException", Cond.initialized "java/lang/IllegalStateException", Cond.methodLink RX3 71 yX3_needTransition, Cond.instanceMethod yX3_needTransition, Cond.selects RX3 yX3_needTransition yX3_needTransition, Cond.code yX3_needTransition cX3_needTransition 2 none, Cond.classLink RX3 174 "java/lang/IndexOutOfBoundsException", Cond.initialized "java/lang/IndexOutOfBoundsException", Cond.fieldLink RX3 10 "CoverTrees" "net" "LCoverTrees$Net;", Cond.methodLink RX3 169 yX0_staysPossible, Cond.instanceMethod yX0_staysPossible, Cond.selects RX0 yX0_staysPossible yX0_staysPossible]
def wsL_live_r2 : List Cond := [Cond.initialized RX0, Cond.code yX0_staysPossible cX0_staysPossible 3 (some .boolean), Cond.fieldLink RX0 48 "CoverTrees$Graph" "size" "I", Cond.fieldLink RX0 29 "CoverTrees$Graph" "ahead" "[I"]
def wsL_live : List Cond := .codeWith yL_live cL_live 4 (some .int) [(0, 16, 19, 15), (0, 16, 22, 25)] :: ((wsL_live_r1 ++ wsL_live_r2) ++ wsX30 ++ wsX00 ++ wsX10 ++ (vx_atS RX3 48 "java/lang/IllegalStateException" ["java/lang/RuntimeException", "java/lang/Exception"]).filter goodWord ++ (vx_atS RX3 178 "java/lang/IndexOutOfBoundsException" ["java/lang/RuntimeException", "java/lang/Exception"]).filter goodWord)
def wsL_law0_r1 : List Cond := [Cond.classLink RL 8 RX3, Cond.instantiable RX3 4, Cond.initialized RX3, Cond.classLink RL 80 RX4, Cond.instantiable RX4 22, Cond.initialized RX4, Cond.arrayClass .long, Cond.methodLink RL 79 yX3_init, Cond.instanceMethod yX3_init, Cond.code yX3_init cX3_init 1 none, Cond.methodLink RX3 1 objectInit, Cond.instanceMethod objectInit, Cond.code objectInit ⟨#[0xb1]⟩ 1 none, Cond.classLink RX3 7 RX1, Cond.instantiable RX1 5, Cond.initialized RX1, Cond.fieldLink RX3 10 "CoverTrees" "net" "LCoverTrees$Net;", Cond.arrayClass .int, Cond.fieldLink RX3 16 "CoverTrees" "target" "[I", Cond.classLink RX3 20 RX2, Cond.instantiable RX2 9, Cond.initialized RX2, Cond.fieldLink RX3 25 "CoverTrees" "tree" "LCoverTrees$Tree;", Cond.classLink RX3 29 RX0]
def wsL_law0_r2 : List Cond := [Cond.instantiable RX0 9, Cond.initialized RX0, Cond.fieldLink RX3 32 "CoverTrees" "graph" "LCoverTrees$Graph;", Cond.instanceMethod yX1_init, Cond.code yX1_init cX1_init 1 none, Cond.methodLink RX1 3 objectInit, Cond.fieldLink RX1 9 "CoverTrees$Net" "first" "[I", Cond.classLink RX1 15 "[[I", Cond.fieldLink RX1 17 "CoverTrees$Net" "takes" "[[I", Cond.fieldLink RX1 20 "CoverTrees$Net" "gives" "[[I", Cond.methodLink RX3 22 yX2_init, Cond.instanceMethod yX2_init, Cond.code yX2_init cX2_init 2 none, Cond.methodLink RX2 3 objectInit, Cond.classLink RX2 9 "[[I", Cond.fieldLink RX2 11 "CoverTrees$Tree" "markings" "[[I", Cond.fieldLink RX2 16 "CoverTrees$Tree" "parents" "[I", Cond.fieldLink RX2 20 "CoverTrees$Tree" "cameBy" "[I", Cond.fieldLink RX2 23 "CoverTrees$Tree" "depths" "[I", Cond.arrayClass .boolean, Cond.fieldLink RX2 26 "CoverTrees$Tree" "copies" "[Z", Cond.fieldLink RX2 30 "CoverTrees$Tree" "net" "LCoverTrees$Net;", Cond.methodLink RX3 31 yX0_init, Cond.instanceMethod yX0_init]
def wsL_law0_r3 : List Cond := [Cond.code yX0_init cX0_init 2 none, Cond.methodLink RX0 3 objectInit, Cond.classLink RX0 9 "[[I", Cond.fieldLink RX0 11 "CoverTrees$Graph" "markings" "[[I", Cond.fieldLink RX0 16 "CoverTrees$Graph" "next" "[[I", Cond.fieldLink RX0 19 "CoverTrees$Graph" "cameFrom" "[I", Cond.fieldLink RX0 23 "CoverTrees$Graph" "cameBy" "[I", Cond.fieldLink RX0 26 "CoverTrees$Graph" "distances" "[I", Cond.fieldLink RX0 29 "CoverTrees$Graph" "ahead" "[I", Cond.fieldLink RX0 32 "CoverTrees$Graph" "fired" "[I", Cond.fieldLink RX0 35 "CoverTrees$Graph" "net" "LCoverTrees$Net;", Cond.methodLink RL 82 yX4_init, Cond.instanceMethod yX4_init, Cond.code yX4_init cX4_init 1 none, Cond.methodLink RX4 1 objectInit, Cond.fieldLink RX4 7 "CoverTreesModel" "first" "[I", Cond.fieldLink RX4 13 "CoverTreesModel" "target" "[I", Cond.fieldLink RX4 16 "CoverTreesModel" "takes" "[I", Cond.fieldLink RX4 19 "CoverTreesModel" "gives" "[I", Cond.fieldLink RX4 22 "CoverTreesModel" "nodes" "I", Cond.fieldLink RX4 26 "CoverTreesModel" "marks" "[I", Cond.fieldLink RX4 29 "CoverTreesModel" "parent" "[I", Cond.fieldLink RX4 32 "CoverTreesModel" "by" "[I", Cond.fieldLink RX4 35 "CoverTreesModel" "nextOf" "[I"]
def wsL_law0_r4 : List Cond := [Cond.fieldLink RX4 38 "CoverTreesModel" "copy" "[Z", Cond.fieldLink RX4 42 "CoverTreesModel" "states" "I", Cond.fieldLink RX4 45 "CoverTreesModel" "counts" "[I", Cond.fieldLink RX4 48 "CoverTreesModel" "leads" "[I", Cond.fieldLink RX4 51 "CoverTreesModel" "from" "[I", Cond.fieldLink RX4 54 "CoverTreesModel" "way" "[I", Cond.fieldLink RX4 57 "CoverTreesModel" "can" "[Z", Cond.fieldLink RX4 60 "CoverTreesModel" "work" "[I", Cond.methodLink RL 83 yL_place, Cond.static yL_place, Cond.initialized RL, Cond.codeWith yL_place cL_place 4 (some .int) [(0, 9, 12, 13), (0, 9, 15, 15)], Cond.classLink RL 13 "java/lang/IllegalArgumentException", Cond.classLink RL 15 "java/lang/IllegalStateException", Cond.methodLink RL 7 yX3_place, Cond.instanceMethod yX3_place, Cond.selects RX3 yX3_place yX3_place, Cond.code yX3_place cX3_place 2 (some .int), Cond.classLink RX3 44 "java/lang/IllegalStateException", Cond.initialized "java/lang/IllegalStateException", Cond.methodLink RX3 36 yX3_needRange, Cond.static yX3_needRange, Cond.code yX3_needRange cX3_needRange 2 none, Cond.classLink RX3 127 "java/lang/IllegalArgumentException"]
def wsL_law0_r5 : List Cond := [Cond.initialized "java/lang/IllegalArgumentException", Cond.methodLink RX3 51 yX3_discard, Cond.instanceMethod yX3_discard, Cond.selects RX3 yX3_discard yX3_discard, Cond.code yX3_discard cX3_discard 1 none, Cond.methodLink RX3 54 yX1_addPlace, Cond.instanceMethod yX1_addPlace, Cond.selects RX1 yX1_addPlace yX1_addPlace, Cond.code yX1_addPlace cX1_addPlace 2 (some .int), Cond.fieldLink RX1 23 "CoverTrees$Net" "places" "I", Cond.methodLink RL 88 yX4_place, Cond.instanceMethod yX4_place, Cond.selects RX4 yX4_place yX4_place, Cond.code yX4_place cX4_place 3 (some .int), Cond.fieldLink RX4 66 "CoverTreesModel" "places" "I", Cond.fieldLink RX4 63 "CoverTreesModel" "code" "I", Cond.methodLink RX4 72 yX4_discard, Cond.instanceMethod yX4_discard, Cond.selects RX4 yX4_discard yX4_discard, Cond.code yX4_discard cX4_discard 1 none, Cond.methodLink RL 89 yX4_thrown, Cond.instanceMethod yX4_thrown, Cond.selects RX4 yX4_thrown yX4_thrown, Cond.code yX4_thrown cX4_thrown 1 (some .int)]
def wsL_law0_r6 : List Cond := [Cond.methodLink RL 92 yL_transition, Cond.static yL_transition, Cond.codeWith yL_transition cL_transition 3 (some .int) [(0, 8, 11, 15)], Cond.methodLink RL 17 yX3_transition, Cond.instanceMethod yX3_transition, Cond.selects RX3 yX3_transition yX3_transition, Cond.code yX3_transition cX3_transition 1 (some .int), Cond.methodLink RX3 63 yX1_addTransition, Cond.instanceMethod yX1_addTransition, Cond.selects RX1 yX1_addTransition yX1_addTransition, Cond.code yX1_addTransition cX1_addTransition 1 (some .int), Cond.fieldLink RX1 27 "CoverTrees$Net" "transitions" "I", Cond.methodLink RL 95 yX4_transition, Cond.instanceMethod yX4_transition, Cond.selects RX4 yX4_transition yX4_transition, Cond.code yX4_transition cX4_transition 1 (some .int), Cond.fieldLink RX4 69 "CoverTreesModel" "transitions" "I", Cond.methodLink RL 96 yL_arc, Cond.static yL_arc, Cond.codeWith yL_arc cL_arc 7 (some .int) [(0, 14, 17, 25), (0, 14, 21, 13)], Cond.classLink RL 25 "java/lang/IndexOutOfBoundsException", Cond.methodLink RL 21 yX3_arc, Cond.instanceMethod yX3_arc, Cond.selects RX3 yX3_arc yX3_arc]
def wsL_law0_r7 : List Cond := [Cond.code yX3_arc cX3_arc 5 (some .int), Cond.methodLink RX3 67 yX3_needPlace, Cond.instanceMethod yX3_needPlace, Cond.selects RX3 yX3_needPlace yX3_needPlace, Cond.code yX3_needPlace cX3_needPlace 2 none, Cond.classLink RX3 174 "java/lang/IndexOutOfBoundsException", Cond.initialized "java/lang/IndexOutOfBoundsException", Cond.methodLink RX3 71 yX3_needTransition, Cond.instanceMethod yX3_needTransition, Cond.selects RX3 yX3_needTransition yX3_needTransition, Cond.code yX3_needTransition cX3_needTransition 2 none, Cond.methodLink RX3 74 yX1_setArc, Cond.instanceMethod yX1_setArc, Cond.selects RX1 yX1_setArc yX1_setArc, Cond.code yX1_setArc cX1_setArc 7 (some .int), Cond.methodLink RL 99 yX4_arc, Cond.instanceMethod yX4_arc, Cond.selects RX4 yX4_arc yX4_arc, Cond.code yX4_arc cX4_arc 7 (some .int), Cond.methodLink RX4 75 yX4_noPlace, Cond.instanceMethod yX4_noPlace, Cond.selects RX4 yX4_noPlace yX4_noPlace, Cond.code yX4_noPlace cX4_noPlace 2 (some .boolean), Cond.methodLink RX4 79 yX4_noTransition]
def wsL_law0_r8 : List Cond := [Cond.instanceMethod yX4_noTransition, Cond.selects RX4 yX4_noTransition yX4_noTransition, Cond.code yX4_noTransition cX4_noTransition 2 (some .boolean), Cond.methodLink RL 100 yL_tokens, Cond.static yL_tokens, Cond.codeWith yL_tokens cL_tokens 4 (some .int) [(0, 6, 9, 25), (0, 6, 12, 13)], Cond.methodLink RL 27 yX3_tokens, Cond.instanceMethod yX3_tokens, Cond.selects RX3 yX3_tokens yX3_tokens, Cond.code yX3_tokens cX3_tokens 3 none, Cond.methodLink RL 103 yX4_tokens, Cond.instanceMethod yX4_tokens, Cond.selects RX4 yX4_tokens yX4_tokens, Cond.code yX4_tokens cX4_tokens 3 none, Cond.methodLink RL 104 yL_explore, Cond.static yL_explore, Cond.codeWith yL_explore cL_explore 3 (some .int) [(0, 8, 11, 34)], Cond.classLink RL 34 "java/lang/UnsupportedOperationException", Cond.methodLink RL 31 yX3_explore, Cond.instanceMethod yX3_explore, Cond.selects RX3 yX3_explore yX3_explore, Cond.code yX3_explore cX3_explore 1 (some .int), Cond.classLink RX3 85 "java/lang/UnsupportedOperationException", Cond.initialized "java/lang/UnsupportedOperationException"]
def wsL_law0_r9 : List Cond := [Cond.methodLink RX3 81 yX2_grow, Cond.instanceMethod yX2_grow, Cond.selects RX2 yX2_grow yX2_grow, Cond.code yX2_grow cX2_grow 4 (some .boolean), Cond.fieldLink RX2 47 "CoverTrees$Tree" "size" "I", Cond.methodLink RX2 34 yX2_addRoot, Cond.instanceMethod yX2_addRoot, Cond.selects RX2 yX2_addRoot yX2_addRoot, Cond.code yX2_addRoot cX2_addRoot 1 none, Cond.fieldLink RX2 61 "CoverTrees$Tree" "firstEndless" "I", Cond.static yX3_copyInto, Cond.code yX3_copyInto cX3_copyInto 2 none, Cond.methodLink RX3 190 arraycopyName, Cond.native arraycopyName, Cond.static arraycopyName, Cond.initialized "java/lang/System", Cond.methodLink RX2 43 yX1_enables, Cond.instanceMethod yX1_enables, Cond.selects RX1 yX1_enables yX1_enables, Cond.code yX1_enables cX1_enables 3 (some .boolean), Cond.static yX3_covers, Cond.code yX3_covers cX3_covers 3 (some .boolean), Cond.methodLink RX2 50 yX2_addChild, Cond.instanceMethod yX2_addChild]
def wsL_law0_r10 : List Cond := [Cond.selects RX2 yX2_addChild yX2_addChild, Cond.code yX2_addChild cX2_addChild 4 (some .int), Cond.methodLink RX2 64 yX1_fire, Cond.instanceMethod yX1_fire, Cond.selects RX1 yX1_fire yX1_fire, Cond.code yX1_fire cX1_fire 6 none, Cond.constant RX1 34 (1000000), Cond.methodLink RX2 68 yX2_makeEndlessWhatRepeats, Cond.instanceMethod yX2_makeEndlessWhatRepeats, Cond.selects RX2 yX2_makeEndlessWhatRepeats yX2_makeEndlessWhatRepeats, Cond.code yX2_makeEndlessWhatRepeats cX2_makeEndlessWhatRepeats 6 none, Cond.static yX3_same, Cond.code yX3_same cX3_same 3 (some .boolean), Cond.methodLink RX2 83 yX2_makeEndlessWhereMore, Cond.instanceMethod yX2_makeEndlessWhereMore, Cond.selects RX2 yX2_makeEndlessWhereMore yX2_makeEndlessWhereMore, Cond.code yX2_makeEndlessWhereMore cX2_makeEndlessWhereMore 4 none, Cond.constant RX2 90 (1000000), Cond.methodLink RX2 86 yX2_noteFirstEndless, Cond.instanceMethod yX2_noteFirstEndless, Cond.selects RX2 yX2_noteFirstEndless yX2_noteFirstEndless, Cond.code yX2_noteFirstEndless cX2_noteFirstEndless 3 none, Cond.fieldLink RX2 91 "CoverTrees$Tree" "depthOfRepeat" "I", Cond.methodLink RX2 72 yX2_isAmongEarlier]
def wsL_law0_r11 : List Cond := [Cond.instanceMethod yX2_isAmongEarlier, Cond.selects RX2 yX2_isAmongEarlier yX2_isAmongEarlier, Cond.code yX2_isAmongEarlier cX2_isAmongEarlier 3 (some .boolean), Cond.methodLink RL 106 yX4_explore, Cond.instanceMethod yX4_explore, Cond.selects RX4 yX4_explore yX4_explore, Cond.code yX4_explore cX4_explore 3 (some .int), Cond.fieldLink RX4 89 "CoverTreesModel" "grown" "I", Cond.fieldLink RX4 92 "CoverTreesModel" "source" "I", Cond.methodLink RX4 95 yX4_addNode, Cond.instanceMethod yX4_addNode, Cond.selects RX4 yX4_addNode yX4_addNode, Cond.code yX4_addNode cX4_addNode 5 none, Cond.methodLink RX4 82 yX4_sameAs, Cond.instanceMethod yX4_sameAs, Cond.selects RX4 yX4_sameAs yX4_sameAs, Cond.code yX4_sameAs cX4_sameAs 3 (some .boolean), Cond.methodLink RX4 99 yX4_enabledAt, Cond.instanceMethod yX4_enabledAt, Cond.selects RX4 yX4_enabledAt yX4_enabledAt, Cond.code yX4_enabledAt cX4_enabledAt 4 (some .boolean), Cond.methodLink RX4 103 yX4_fire, Cond.instanceMethod yX4_fire, Cond.selects RX4 yX4_fire yX4_fire]
def wsL_law0_r12 : List Cond := [Cond.code yX4_fire cX4_fire 5 none, Cond.constant RX4 85 (1000000000), Cond.methodLink RX4 86 yX4_below, Cond.instanceMethod yX4_below, Cond.selects RX4 yX4_below yX4_below, Cond.code yX4_below cX4_below 5 (some .boolean), Cond.methodLink RL 107 yL_count, Cond.static yL_count, Cond.codeWith yL_count cL_count 5 (some .int) [(0, 10, 13, 15), (0, 10, 17, 25)], Cond.methodLink RL 36 yX3_count, Cond.instanceMethod yX3_count, Cond.selects RX3 yX3_count yX3_count, Cond.code yX3_count cX3_count 3 (some .int), Cond.methodLink RX3 93 yX3_needTree, Cond.instanceMethod yX3_needTree, Cond.selects RX3 yX3_needTree yX3_needTree, Cond.code yX3_needTree cX3_needTree 1 none, Cond.methodLink RX3 96 yX3_needNode, Cond.instanceMethod yX3_needNode, Cond.selects RX3 yX3_needNode yX3_needNode, Cond.code yX3_needNode cX3_needNode 2 none, Cond.methodLink RX3 103 yX3_asTold, Cond.static yX3_asTold, Cond.code yX3_asTold cX3_asTold 1 (some .int)]
def wsL_law0_r13 : List Cond := [Cond.constant RX3 189 (1000000), Cond.methodLink RL 110 yX4_count, Cond.instanceMethod yX4_count, Cond.selects RX4 yX4_count yX4_count, Cond.code yX4_count cX4_count 3 (some .int), Cond.methodLink RX4 106 yX4_told, Cond.static yX4_told, Cond.code yX4_told cX4_told 1 (some .int), Cond.methodLink RL 111 yL_node, Cond.static yL_node, Cond.codeWith yL_node cL_node 5 (some .int) [(0, 10, 13, 15), (0, 10, 17, 25)], Cond.methodLink RL 40 yX3_node, Cond.instanceMethod yX3_node, Cond.selects RX3 yX3_node yX3_node, Cond.code yX3_node cX3_node 3 (some .int), Cond.methodLink RL 113 yX4_node, Cond.instanceMethod yX4_node, Cond.selects RX4 yX4_node yX4_node, Cond.code yX4_node cX4_node 3 (some .int), Cond.methodLink RL 114 yL_bound, Cond.static yL_bound, Cond.codeWith yL_bound cL_bound 4 (some .int) [(0, 9, 12, 15), (0, 9, 15, 25)], Cond.methodLink RL 43 yX3_bound, Cond.instanceMethod yX3_bound]
def wsL_law0_r14 : List Cond := [Cond.selects RX3 yX3_bound yX3_bound, Cond.code yX3_bound cX3_bound 2 (some .int), Cond.methodLink RX3 116 yX2_greatestCount, Cond.instanceMethod yX2_greatestCount, Cond.selects RX2 yX2_greatestCount yX2_greatestCount, Cond.code yX2_greatestCount cX2_greatestCount 4 (some .int), Cond.methodLink RX2 94 Lib.Math.max.name, Cond.static Lib.Math.max.name, Cond.initialized "java/lang/Math", Cond.code Lib.Math.max.name Lib.Math.max.code 2 (some .int), Cond.methodLink RL 116 yX4_bound, Cond.instanceMethod yX4_bound, Cond.selects RX4 yX4_bound yX4_bound, Cond.code yX4_bound cX4_bound 2 (some .int), Cond.methodLink RX4 110 yX4_greatest, Cond.instanceMethod yX4_greatest, Cond.selects RX4 yX4_greatest yX4_greatest, Cond.code yX4_greatest cX4_greatest 4 (some .int), Cond.methodLink RL 117 yL_want, Cond.static yL_want, Cond.codeWith yL_want cL_want 4 (some .int) [(0, 6, 9, 25), (0, 6, 12, 13)], Cond.methodLink RL 46 yX3_want, Cond.instanceMethod yX3_want, Cond.selects RX3 yX3_want yX3_want]
def wsL_law0_r15 : List Cond := [Cond.code yX3_want cX3_want 3 none, Cond.methodLink RL 119 yX4_want, Cond.instanceMethod yX4_want, Cond.selects RX4 yX4_want yX4_want, Cond.code yX4_want cX4_want 3 none, Cond.methodLink RL 120 yL_covered, Cond.static yL_covered, Cond.codeWith yL_covered cL_covered 3 (some .int) [(0, 15, 18, 15)], Cond.methodLink RL 49 yX3_covered, Cond.instanceMethod yX3_covered, Cond.selects RX3 yX3_covered yX3_covered, Cond.code yX3_covered cX3_covered 1 (some .boolean), Cond.methodLink RX3 119 yX2_hasNodeCovering, Cond.instanceMethod yX2_hasNodeCovering, Cond.selects RX2 yX2_hasNodeCovering yX2_hasNodeCovering, Cond.code yX2_hasNodeCovering cX2_hasNodeCovering 3 (some .boolean), Cond.methodLink RL 122 yX4_covered, Cond.instanceMethod yX4_covered, Cond.selects RX4 yX4_covered yX4_covered, Cond.code yX4_covered cX4_covered 5 (some .boolean), Cond.methodLink RL 123 yL_possible, Cond.static yL_possible, Cond.codeWith yL_possible cL_possible 4 (some .int) [(0, 16, 19, 15), (0, 16, 22, 25)], Cond.methodLink RL 53 yX3_possible]
def wsL_law0_r16 : List Cond := [Cond.instanceMethod yX3_possible, Cond.selects RX3 yX3_possible yX3_possible, Cond.code yX3_possible cX3_possible 2 (some .boolean), Cond.methodLink RX3 123 yX2_hasNodeEnabling, Cond.instanceMethod yX2_hasNodeEnabling, Cond.selects RX2 yX2_hasNodeEnabling yX2_hasNodeEnabling, Cond.code yX2_hasNodeEnabling cX2_hasNodeEnabling 2 (some .boolean), Cond.methodLink RX2 102 yX2_hasNodeCovering, Cond.methodLink RL 125 yX4_possible, Cond.instanceMethod yX4_possible, Cond.selects RX4 yX4_possible yX4_possible, Cond.code yX4_possible cX4_possible 4 (some .boolean), Cond.methodLink RL 126 yL_growth, Cond.static yL_growth, Cond.codeWith yL_growth cL_growth 4 (some .int) [(0, 9, 12, 15), (0, 9, 15, 13)], Cond.methodLink RL 57 yX3_growth, Cond.instanceMethod yX3_growth, Cond.selects RX3 yX3_growth yX3_growth, Cond.code yX3_growth cX3_growth 2 (some .int), Cond.methodLink RX3 132 yX2_hasEndless, Cond.instanceMethod yX2_hasEndless, Cond.selects RX2 yX2_hasEndless yX2_hasEndless, Cond.code yX2_hasEndless cX2_hasEndless 1 (some .boolean), Cond.methodLink RX3 138 yX2_stepToFirstEndless]
def wsL_law0_r17 : List Cond := [Cond.instanceMethod yX2_stepToFirstEndless, Cond.selects RX2 yX2_stepToFirstEndless yX2_stepToFirstEndless, Cond.code yX2_stepToFirstEndless cX2_stepToFirstEndless 4 (some .int), Cond.methodLink RL 128 yX4_growth, Cond.instanceMethod yX4_growth, Cond.selects RX4 yX4_growth yX4_growth, Cond.code yX4_growth cX4_growth 4 (some .int), Cond.methodLink RX4 113 yX4_depth, Cond.instanceMethod yX4_depth, Cond.selects RX4 yX4_depth yX4_depth, Cond.code yX4_depth cX4_depth 4 (some .int), Cond.methodLink RL 129 yL_graph, Cond.static yL_graph, Cond.codeWith yL_graph cL_graph 3 (some .int) [(0, 8, 11, 15), (0, 8, 14, 34)], Cond.methodLink RL 60 yX3_graph, Cond.instanceMethod yX3_graph, Cond.selects RX3 yX3_graph yX3_graph, Cond.code yX3_graph cX3_graph 1 (some .int), Cond.methodLink RX3 143 yX0_build, Cond.instanceMethod yX0_build, Cond.selects RX0 yX0_build yX0_build, Cond.code yX0_build cX0_build 2 (some .boolean), Cond.fieldLink RX0 48 "CoverTrees$Graph" "size" "I", Cond.methodLink RX0 52 yX0_addState]
def wsL_law0_r18 : List Cond := [Cond.instanceMethod yX0_addState, Cond.selects RX0 yX0_addState yX0_addState, Cond.code yX0_addState cX0_addState 5 (some .int), Cond.methodLink RX0 56 yX0_follow, Cond.instanceMethod yX0_follow, Cond.selects RX0 yX0_follow yX0_follow, Cond.code yX0_follow cX0_follow 4 (some .boolean), Cond.methodLink RX0 66 yX1_enables, Cond.methodLink RX0 70 yX1_fire, Cond.methodLink RX0 74 yX0_stateOf, Cond.instanceMethod yX0_stateOf, Cond.selects RX0 yX0_stateOf yX0_stateOf, Cond.code yX0_stateOf cX0_stateOf 3 (some .int), Cond.methodLink RX0 60 yX0_lookAhead, Cond.instanceMethod yX0_lookAhead, Cond.selects RX0 yX0_lookAhead yX0_lookAhead, Cond.code yX0_lookAhead cX0_lookAhead 5 none, Cond.methodLink RX0 78 yX0_enabledIn, Cond.instanceMethod yX0_enabledIn, Cond.selects RX0 yX0_enabledIn yX0_enabledIn, Cond.code yX0_enabledIn cX0_enabledIn 4 (some .int), Cond.methodLink RX0 82 yX0_aheadOfNext, Cond.instanceMethod yX0_aheadOfNext, Cond.selects RX0 yX0_aheadOfNext yX0_aheadOfNext]
def wsL_law0_r19 : List Cond := [Cond.code yX0_aheadOfNext cX0_aheadOfNext 5 (some .int), Cond.methodLink RL 131 yX4_graph, Cond.instanceMethod yX4_graph, Cond.selects RX4 yX4_graph yX4_graph, Cond.code yX4_graph cX4_graph 4 (some .int), Cond.methodLink RX4 116 yX4_anyEndless, Cond.instanceMethod yX4_anyEndless, Cond.selects RX4 yX4_anyEndless yX4_anyEndless, Cond.code yX4_anyEndless cX4_anyEndless 3 (some .boolean), Cond.methodLink RX4 120 yX4_addState, Cond.instanceMethod yX4_addState, Cond.selects RX4 yX4_addState yX4_addState, Cond.code yX4_addState cX4_addState 4 none, Cond.methodLink RX4 123 yX4_enabledIn, Cond.instanceMethod yX4_enabledIn, Cond.selects RX4 yX4_enabledIn yX4_enabledIn, Cond.code yX4_enabledIn cX4_enabledIn 4 (some .boolean), Cond.methodLink RX4 126 yX4_find, Cond.instanceMethod yX4_find, Cond.selects RX4 yX4_find yX4_find, Cond.code yX4_find cX4_find 4 (some .int), Cond.methodLink RL 132 yL_reached, Cond.static yL_reached, Cond.codeWith yL_reached cL_reached 3 (some .int) [(0, 8, 11, 15)]]
def wsL_law0_r20 : List Cond := [Cond.methodLink RL 63 yX3_reached, Cond.instanceMethod yX3_reached, Cond.selects RX3 yX3_reached yX3_reached, Cond.code yX3_reached cX3_reached 1 (some .int), Cond.methodLink RX3 149 yX3_needGraph, Cond.instanceMethod yX3_needGraph, Cond.selects RX3 yX3_needGraph yX3_needGraph, Cond.code yX3_needGraph cX3_needGraph 1 none, Cond.methodLink RX3 152 yX0_stateOf, Cond.methodLink RL 134 yX4_reached, Cond.instanceMethod yX4_reached, Cond.selects RX4 yX4_reached yX4_reached, Cond.code yX4_reached cX4_reached 2 (some .int), Cond.methodLink RL 135 yL_distance, Cond.static yL_distance, Cond.codeWith yL_distance cL_distance 4 (some .int) [(0, 9, 12, 15), (0, 9, 15, 25)], Cond.methodLink RL 66 yX3_distance, Cond.instanceMethod yX3_distance, Cond.selects RX3 yX3_distance yX3_distance, Cond.code yX3_distance cX3_distance 2 (some .int), Cond.methodLink RX3 156 yX3_needState, Cond.instanceMethod yX3_needState, Cond.selects RX3 yX3_needState yX3_needState, Cond.code yX3_needState cX3_needState 2 none]
def wsL_law0_r21 : List Cond := [Cond.methodLink RL 137 yX4_distance, Cond.instanceMethod yX4_distance, Cond.selects RX4 yX4_distance yX4_distance, Cond.code yX4_distance cX4_distance 4 (some .int), Cond.methodLink RX4 130 yX4_noState, Cond.instanceMethod yX4_noState, Cond.selects RX4 yX4_noState yX4_noState, Cond.code yX4_noState cX4_noState 2 (some .boolean), Cond.methodLink RL 138 yL_found, Cond.static yL_found, Cond.codeWith yL_found cL_found 5 (some .int) [(0, 10, 13, 15), (0, 10, 17, 25)], Cond.methodLink RL 69 yX3_found, Cond.instanceMethod yX3_found, Cond.selects RX3 yX3_found yX3_found, Cond.code yX3_found cX3_found 3 (some .int), Cond.methodLink RL 141 yX4_found, Cond.instanceMethod yX4_found, Cond.selects RX4 yX4_found yX4_found, Cond.code yX4_found cX4_found 3 (some .int), Cond.methodLink RL 142 yL_stops, Cond.static yL_stops, Cond.codeWith yL_stops cL_stops 3 (some .int) [(0, 8, 11, 15)], Cond.methodLink RL 73 yX3_stops, Cond.instanceMethod yX3_stops]
def wsL_law0_r22 : List Cond := [Cond.selects RX3 yX3_stops yX3_stops, Cond.code yX3_stops cX3_stops 1 (some .int), Cond.methodLink RX3 166 yX0_countStops, Cond.instanceMethod yX0_countStops, Cond.selects RX0 yX0_countStops yX0_countStops, Cond.code yX0_countStops cX0_countStops 3 (some .int), Cond.methodLink RL 144 yX4_stops, Cond.instanceMethod yX4_stops, Cond.selects RX4 yX4_stops yX4_stops, Cond.code yX4_stops cX4_stops 5 (some .int), Cond.methodLink RL 145 yL_live, Cond.static yL_live, Cond.codeWith yL_live cL_live 4 (some .int) [(0, 16, 19, 15), (0, 16, 22, 25)], Cond.methodLink RL 76 yX3_live, Cond.instanceMethod yX3_live, Cond.selects RX3 yX3_live yX3_live, Cond.code yX3_live cX3_live 2 (some .boolean), Cond.methodLink RX3 169 yX0_staysPossible, Cond.instanceMethod yX0_staysPossible, Cond.selects RX0 yX0_staysPossible yX0_staysPossible, Cond.code yX0_staysPossible cX0_staysPossible 3 (some .boolean), Cond.methodLink RL 147 yX4_live, Cond.instanceMethod yX4_live, Cond.selects RX4 yX4_live yX4_live]
def wsL_law0_r23 : List Cond := [Cond.code yX4_live cX4_live 6 (some .boolean)]
def wsL_law0 : List Cond := (wsL_law0_r1 ++ (wsL_law0_r2 ++ (wsL_law0_r3 ++ (wsL_law0_r4 ++ (wsL_law0_r5 ++ (wsL_law0_r6 ++ (wsL_law0_r7 ++ (wsL_law0_r8 ++ (wsL_law0_r9 ++ (wsL_law0_r10 ++ (wsL_law0_r11 ++ (wsL_law0_r12 ++ (wsL_law0_r13 ++ (wsL_law0_r14 ++ (wsL_law0_r15 ++ (wsL_law0_r16 ++ (wsL_law0_r17 ++ (wsL_law0_r18 ++ (wsL_law0_r19 ++ (wsL_law0_r20 ++ (wsL_law0_r21 ++ (wsL_law0_r22 ++ wsL_law0_r23)))))))))))))))))))))) ++ wsX30 ++ wsX40 ++ wsX10 ++ wsX20 ++ wsX00 ++ ([] : List Cond)
def wsL_law : List Cond := wsL_law0 ++ (vx_atS RX3 48 "java/lang/IllegalStateException" ["java/lang/RuntimeException", "java/lang/Exception"]).filter goodWord ++ (vx_atS RX3 131 "java/lang/IllegalArgumentException" ["java/lang/RuntimeException", "java/lang/Exception"]).filter goodWord ++ (vx_atS RX3 178 "java/lang/IndexOutOfBoundsException" ["java/lang/RuntimeException", "java/lang/Exception"]).filter goodWord ++ (vx_atS RX3 89 "java/lang/UnsupportedOperationException" ["java/lang/RuntimeException", "java/lang/Exception"]).filter goodWord
end
section
set_option maxRecDepth 20000 in
theorem in_wsL_law0_r1 : ∀ w ∈ wsL_law0_r1, w ∈ lw_tbl := fun w h => (goodIn_p wsL_law0_r1 [53, 56] (by decide +kernel) (by decide +kernel) w h).1
set_option maxRecDepth 20000 in
theorem in_wsL_law0_r2 : ∀ w ∈ wsL_law0_r2, w ∈ lw_tbl := fun w h => (goodIn_p wsL_law0_r2 [61, 94] (by decide +kernel) (by decide +kernel) w h).1
set_option maxRecDepth 20000 in
theorem in_wsL_law0_r3 : ∀ w ∈ wsL_law0_r3, w ∈ lw_tbl := fun w h => (goodIn_p wsL_law0_r3 [136, 607] (by decide +kernel) (by decide +kernel) w h).1
set_option maxRecDepth 20000 in
theorem in_wsL_law0_r4 : ∀ w ∈ wsL_law0_r4, w ∈ lw_tbl := fun w h => (goodIn_p wsL_law0_r4 [192, 195] (by decide +kernel) (by decide +kernel) w h).1
set_option maxRecDepth 20000 in
theorem in_wsL_law0_r5 : ∀ w ∈ wsL_law0_r5, w ∈ lw_tbl := fun w h => (goodIn_p wsL_law0_r5 [284, 288, 683, 687, 679] (by decide +kernel) (by decide +kernel) w h).1
set_option maxRecDepth 20000 in
theorem in_wsL_law0_r6 : ∀ w ∈ wsL_law0_r6, w ∈ lw_tbl := fun w h => (goodIn_p wsL_law0_r6 [295, 300, 691] (by decide +kernel) (by decide +kernel) w h).1
set_option maxRecDepth 20000 in
theorem in_wsL_law0_r7 : ∀ w ∈ wsL_law0_r7, w ∈ lw_tbl := fun w h => (goodIn_p wsL_law0_r7 [308, 312, 332, 337, 695, 699] (by decide +kernel) (by decide +kernel) w h).1
set_option maxRecDepth 20000 in
theorem in_wsL_law0_r8 : ∀ w ∈ wsL_law0_r8, w ∈ lw_tbl := fun w h => (goodIn_p wsL_law0_r8 [703, 344, 707, 352] (by decide +kernel) (by decide +kernel) w h).1
set_option maxRecDepth 20000 in
theorem in_wsL_law0_r9 : ∀ w ∈ wsL_law0_r9, w ∈ lw_tbl := fun w h => (goodIn_p wsL_law0_r9 [356, 360, 363, 370, 373] (by decide +kernel) (by decide +kernel) w h).1
set_option maxRecDepth 20000 in
theorem in_wsL_law0_r10 : ∀ w ∈ wsL_law0_r10, w ∈ lw_tbl := fun w h => (goodIn_p wsL_law0_r10 [377, 381, 386, 390, 394, 399] (by decide +kernel) (by decide +kernel) w h).1
set_option maxRecDepth 20000 in
theorem in_wsL_law0_r11 : ∀ w ∈ wsL_law0_r11, w ∈ lw_tbl := fun w h => (goodIn_p wsL_law0_r11 [403, 711, 715, 719, 723] (by decide +kernel) (by decide +kernel) w h).1
set_option maxRecDepth 20000 in
theorem in_wsL_law0_r12 : ∀ w ∈ wsL_law0_r12, w ∈ lw_tbl := fun w h => (goodIn_p wsL_law0_r12 [727, 732, 426, 430, 435, 439] (by decide +kernel) (by decide +kernel) w h).1
set_option maxRecDepth 20000 in
theorem in_wsL_law0_r13 : ∀ w ∈ wsL_law0_r13, w ∈ lw_tbl := fun w h => (goodIn_p wsL_law0_r13 [736, 739, 447, 743] (by decide +kernel) (by decide +kernel) w h).1
end
section
set_option maxRecDepth 20000 in
theorem in_wsL_law0_r14 : ∀ w ∈ wsL_law0_r14, w ∈ lw_tbl := fun w h => (goodIn_p wsL_law0_r14 [454, 458, 461, 747, 751] (by decide +kernel) (by decide +kernel) w h).1
set_option maxRecDepth 20000 in
theorem in_wsL_law0_r15 : ∀ w ∈ wsL_law0_r15, w ∈ lw_tbl := fun w h => (goodIn_p wsL_law0_r15 [468, 755, 475, 479, 759] (by decide +kernel) (by decide +kernel) w h).1
set_option maxRecDepth 20000 in
theorem in_wsL_law0_r16 : ∀ w ∈ wsL_law0_r16, w ∈ lw_tbl := fun w h => (goodIn_p wsL_law0_r16 [486, 490, 763, 498, 503] (by decide +kernel) (by decide +kernel) w h).1
set_option maxRecDepth 20000 in
theorem in_wsL_law0_r17 : ∀ w ∈ wsL_law0_r17, w ∈ lw_tbl := fun w h => (goodIn_p wsL_law0_r17 [507, 767, 771, 514, 519] (by decide +kernel) (by decide +kernel) w h).1
set_option maxRecDepth 20000 in
theorem in_wsL_law0_r18 : ∀ w ∈ wsL_law0_r18, w ∈ lw_tbl := fun w h => (goodIn_p wsL_law0_r18 [524, 528, 534, 539, 543] (by decide +kernel) (by decide +kernel) w h).1
set_option maxRecDepth 20000 in
theorem in_wsL_law0_r19 : ∀ w ∈ wsL_law0_r19, w ∈ lw_tbl := fun w h => (goodIn_p wsL_law0_r19 [547, 775, 779, 783, 787, 791] (by decide +kernel) (by decide +kernel) w h).1
set_option maxRecDepth 20000 in
theorem in_wsL_law0_r20 : ∀ w ∈ wsL_law0_r20, w ∈ lw_tbl := fun w h => (goodIn_p wsL_law0_r20 [555, 559, 795, 568, 572] (by decide +kernel) (by decide +kernel) w h).1
set_option maxRecDepth 20000 in
theorem in_wsL_law0_r21 : ∀ w ∈ wsL_law0_r21, w ∈ lw_tbl := fun w h => (goodIn_p wsL_law0_r21 [799, 803, 580, 807] (by decide +kernel) (by decide +kernel) w h).1
set_option maxRecDepth 20000 in
theorem in_wsL_law0_r22 : ∀ w ∈ wsL_law0_r22, w ∈ lw_tbl := fun w h => (goodIn_p wsL_law0_r22 [587, 591, 811, 598, 602] (by decide +kernel) (by decide +kernel) w h).1
set_option maxRecDepth 20000 in
theorem in_wsL_law0_r23 : ∀ w ∈ wsL_law0_r23, w ∈ lw_tbl := fun w h => (goodIn_p wsL_law0_r23 [815] (by decide +kernel) (by decide +kernel) w h).1
theorem in_wsX309 : ∀ w ∈ wsX30, w ∈ lw_tbl := by decide +kernel
theorem in_wsX409 : ∀ w ∈ wsX40, w ∈ lw_tbl := by decide +kernel
theorem in_wsX109 : ∀ w ∈ wsX10, w ∈ lw_tbl := by decide +kernel
theorem in_wsX209 : ∀ w ∈ wsX20, w ∈ lw_tbl := by decide +kernel
theorem in_wsX009 : ∀ w ∈ wsX00, w ∈ lw_tbl := by decide +kernel
theorem in_NIL9 : ∀ w ∈ ([] : List Cond), w ∈ lw_tbl := by decide +kernel
theorem wsL_law_in0 : ∀ w ∈ wsL_law0, w ∈ lw_tbl := List.forall_mem_append.mpr ⟨List.forall_mem_append.mpr ⟨List.forall_mem_append.mpr ⟨List.forall_mem_append.mpr ⟨List.forall_mem_append.mpr ⟨List.forall_mem_append.mpr ⟨List.forall_mem_append.mpr ⟨in_wsL_law0_r1, List.forall_mem_append.mpr ⟨in_wsL_law0_r2, List.forall_mem_append.mpr ⟨in_wsL_law0_r3, List.forall_mem_append.mpr ⟨in_wsL_law0_r4, List.forall_mem_append.mpr ⟨in_wsL_law0_r5, List.forall_mem_append.mpr ⟨in_wsL_law0_r6, List.forall_mem_append.mpr ⟨in_wsL_law0_r7, List.forall_mem_append.mpr ⟨in_wsL_law0_r8, List.forall_mem_append.mpr ⟨in_wsL_law0_r9, List.forall_mem_append.mpr ⟨in_wsL_law0_r10, List.forall_mem_append.mpr ⟨in_wsL_law0_r11, List.forall_mem_append.mpr ⟨in_wsL_law0_r12, List.forall_mem_append.mpr ⟨in_wsL_law0_r13, List.forall_mem_append.mpr ⟨in_wsL_law0_r14, List.forall_mem_append.mpr ⟨in_wsL_law0_r15, List.forall_mem_append.mpr ⟨in_wsL_law0_r16, List.forall_mem_append.mpr ⟨in_wsL_law0_r17, List.forall_mem_append.mpr ⟨in_wsL_law0_r18, List.forall_mem_append.mpr ⟨in_wsL_law0_r19, List.forall_mem_append.mpr ⟨in_wsL_law0_r20, List.forall_mem_append.mpr ⟨in_wsL_law0_r21, List.forall_mem_append.mpr ⟨in_wsL_law0_r22, in_wsL_law0_r23⟩⟩⟩⟩⟩⟩⟩⟩⟩⟩⟩⟩⟩⟩⟩⟩⟩⟩⟩⟩⟩⟩, in_wsX309⟩, in_wsX409⟩, in_wsX109⟩, in_wsX209⟩, in_wsX009⟩, in_NIL9⟩
theorem wsL_law_x0 : ∀ w ∈ (vx_atS RX3 48 "java/lang/IllegalStateException" ["java/lang/RuntimeException", "java/lang/Exception"]).filter goodWord, w ∈ lw_tbl := by decide +kernel
theorem wsL_law_x1 : ∀ w ∈ (vx_atS RX3 131 "java/lang/IllegalArgumentException" ["java/lang/RuntimeException", "java/lang/Exception"]).filter goodWord, w ∈ lw_tbl := by decide +kernel
theorem wsL_law_x2 : ∀ w ∈ (vx_atS RX3 178 "java/lang/IndexOutOfBoundsException" ["java/lang/RuntimeException", "java/lang/Exception"]).filter goodWord, w ∈ lw_tbl := by decide +kernel
theorem wsL_law_x3 : ∀ w ∈ (vx_atS RX3 89 "java/lang/UnsupportedOperationException" ["java/lang/RuntimeException", "java/lang/Exception"]).filter goodWord, w ∈ lw_tbl := by decide +kernel
theorem wsL_law_in : ∀ w ∈ wsL_law, w ∈ lw_tbl := fun w h => (List.mem_append.mp h).elim (fun h => (List.mem_append.mp h).elim (fun h => (List.mem_append.mp h).elim (fun h => (List.mem_append.mp h).elim (fun h => wsL_law_in0 w h) (fun h => wsL_law_x0 w h)) (fun h => wsL_law_x1 w h)) (fun h => wsL_law_x2 w h)) (fun h => wsL_law_x3 w h)
theorem inlX0 : ∀ w ∈ wsX00, w ∈ wsL_law := fun _ h => List.mem_append_left _ (List.mem_append_left _ (List.mem_append_left _ (List.mem_append_left _ (List.mem_append_left _ (List.mem_append_right _ h)))))
theorem inX0 : ∀ w ∈ wsX00, w ∈ lw_tbl := fun w h => wsL_law_in w (inlX0 w h)
theorem inlX1 : ∀ w ∈ wsX10, w ∈ wsL_law := fun _ h => List.mem_append_left _ (List.mem_append_left _ (List.mem_append_left _ (List.mem_append_left _ (List.mem_append_left _ (List.mem_append_left _ (List.mem_append_left _ (List.mem_append_right _ h)))))))
theorem inX1 : ∀ w ∈ wsX10, w ∈ lw_tbl := fun w h => wsL_law_in w (inlX1 w h)
theorem inlX2 : ∀ w ∈ wsX20, w ∈ wsL_law := fun _ h => List.mem_append_left _ (List.mem_append_left _ (List.mem_append_left _ (List.mem_append_left _ (List.mem_append_left _ (List.mem_append_left _ (List.mem_append_right _ h))))))
theorem inX2 : ∀ w ∈ wsX20, w ∈ lw_tbl := fun w h => wsL_law_in w (inlX2 w h)
theorem inlX3 : ∀ w ∈ wsX30, w ∈ wsL_law := fun _ h => List.mem_append_left _ (List.mem_append_left _ (List.mem_append_left _ (List.mem_append_left _ (List.mem_append_left _ (List.mem_append_left _ (List.mem_append_left _ (List.mem_append_left _ (List.mem_append_left _ (List.mem_append_right _ h)))))))))
theorem inX3 : ∀ w ∈ wsX30, w ∈ lw_tbl := fun w h => wsL_law_in w (inlX3 w h)
theorem inlX4 : ∀ w ∈ wsX40, w ∈ wsL_law := fun _ h => List.mem_append_left _ (List.mem_append_left _ (List.mem_append_left _ (List.mem_append_left _ (List.mem_append_left _ (List.mem_append_left _ (List.mem_append_left _ (List.mem_append_left _ (List.mem_append_right _ h))))))))
theorem inX4 : ∀ w ∈ wsX40, w ∈ lw_tbl := fun w h => wsL_law_in w (inlX4 w h)
theorem inJ9 : ∀ w ∈ wsJ90, w ∈ lw_tbl := by decide +kernel
theorem inJ0 : ∀ w ∈ wsJ00, w ∈ lw_tbl := by decide +kernel
theorem inJ10 : ∀ w ∈ wsJ100, w ∈ lw_tbl := by decide +kernel
end
section
set_option maxRecDepth 20000 in
theorem ggX0_build_X3_copyInto : GoodIn wsX0_build wsX3_copyInto := goodIn_r _ [6, 7, 8, 9, 10] (by decide +kernel) (by decide +kernel)
set_option maxRecDepth 20000 in
theorem gX0_build_X3_copyInto_n44 : GoodIn wsX0_build (wsX3_copyInto) := ggX0_build_X3_copyInto
set_option maxRecDepth 20000 in
theorem ggX0_build_X0_addState : GoodIn wsX0_build wsX0_addState := goodIn_r _ [15, 3, 16, 1, 17, 18, 19, 4, 5, 6, 7, 8, 9, 10, 58, 59, 60, 61, 62, 63, 64, 65, 66] (by decide +kernel) (by decide +kernel)
set_option maxRecDepth 20000 in
theorem gX0_build_X0_addState : GoodIn wsX0_build (wsV RX0 52 RX0 yX0_addState wsX0_addState) := goodIn_app (goodIn_of _ (by decide +kernel)) ggX0_build_X0_addState
set_option maxRecDepth 20000 in
theorem ggX0_build_X0_follow : GoodIn wsX0_build wsX0_follow := goodIn_r _ [23, 2, 24, 16, 1, 3, 19, 25, 26, 27, 28, 29, 30, 31, 5, 32, 33, 34, 35, 36, 37, 38, 39, 40, 41, 14, 42, 43, 44, 11, 12, 13, 15, 17, 18, 4, 6, 7, 8, 9, 10, 58, 59, 60, 61, 62, 63, 64, 65, 66, 67, 68, 69, 70, 71] (by decide +kernel) (by decide +kernel)
set_option maxRecDepth 20000 in
theorem gX0_build_X0_follow : GoodIn wsX0_build (wsV RX0 56 RX0 yX0_follow wsX0_follow) := goodIn_app (goodIn_of _ (by decide +kernel)) ggX0_build_X0_follow
set_option maxRecDepth 20000 in
theorem ggX0_build_X0_lookAhead : GoodIn wsX0_build wsX0_lookAhead := goodIn_r _ [48, 3, 49, 50, 51, 52, 14, 53, 2, 24, 54, 55, 56, 57, 58, 59, 60, 61, 62, 63, 64, 65, 66, 67, 68, 69, 70, 71] (by decide +kernel) (by decide +kernel)
set_option maxRecDepth 20000 in
theorem gX0_build_X0_lookAhead : GoodIn wsX0_build (wsV RX0 60 RX0 yX0_lookAhead wsX0_lookAhead) := goodIn_app (goodIn_of _ (by decide +kernel)) ggX0_build_X0_lookAhead
set_option maxRecDepth 20000 in
theorem ggX0_follow_X1_enables : GoodIn wsX0_follow wsX1_enables := goodIn_r _ [11, 12, 13, 14, 15, 50, 51, 52, 53, 54] (by decide +kernel) (by decide +kernel)
set_option maxRecDepth 20000 in
theorem gX0_follow_X1_enables : GoodIn wsX0_follow (wsV RX0 66 RX1 yX1_enables wsX1_enables) := goodIn_app (goodIn_of _ (by decide +kernel)) ggX0_follow_X1_enables
set_option maxRecDepth 20000 in
theorem ggX0_follow_X1_fire : GoodIn wsX0_follow wsX1_fire := goodIn_r _ [19, 20, 12, 21, 50, 51, 52, 53, 54] (by decide +kernel) (by decide +kernel)
set_option maxRecDepth 20000 in
theorem gX0_follow_X1_fire : GoodIn wsX0_follow (wsV RX0 70 RX1 yX1_fire wsX1_fire) := goodIn_app (goodIn_of _ (by decide +kernel)) ggX0_follow_X1_fire
set_option maxRecDepth 20000 in
theorem ggX0_follow_X0_stateOf : GoodIn wsX0_follow wsX0_stateOf := goodIn_r _ [26, 5, 3, 27, 14, 28, 41, 42, 43, 44, 45, 46, 47, 48, 49] (by decide +kernel) (by decide +kernel)
set_option maxRecDepth 20000 in
theorem gX0_follow_X0_stateOf : GoodIn wsX0_follow (wsV RX0 74 RX0 yX0_stateOf wsX0_stateOf) := goodIn_app (goodIn_of _ (by decide +kernel)) ggX0_follow_X0_stateOf
set_option maxRecDepth 20000 in
theorem ggX0_follow_X0_addState : GoodIn wsX0_follow wsX0_addState := goodIn_r _ [32, 5, 3, 4, 33, 34, 6, 35, 14, 36, 37, 38, 39, 40, 41, 42, 43, 44, 45, 46, 47, 48, 49] (by decide +kernel) (by decide +kernel)
set_option maxRecDepth 20000 in
theorem gX0_follow_X0_addState : GoodIn wsX0_follow (wsV RX0 52 RX0 yX0_addState wsX0_addState) := goodIn_app (goodIn_of _ (by decide +kernel)) ggX0_follow_X0_addState
set_option maxRecDepth 20000 in
theorem ggX0_addState_X3_copyInto : GoodIn wsX0_addState wsX3_copyInto := goodIn_r _ [9, 10, 11, 12, 13] (by decide +kernel) (by decide +kernel)
set_option maxRecDepth 20000 in
theorem gX0_addState_X3_copyInto_n44 : GoodIn wsX0_addState (wsX3_copyInto) := ggX0_addState_X3_copyInto
set_option maxRecDepth 20000 in
theorem ggX0_lookAhead_X0_enabledIn : GoodIn wsX0_lookAhead wsX0_enabledIn := goodIn_r _ [7, 8, 9, 14, 15, 16, 17, 18, 19, 20, 21, 22, 23, 24, 25, 26, 27] (by decide +kernel) (by decide +kernel)
set_option maxRecDepth 20000 in
theorem gX0_lookAhead_X0_enabledIn : GoodIn wsX0_lookAhead (wsV RX0 78 RX0 yX0_enabledIn wsX0_enabledIn) := goodIn_app (goodIn_of _ (by decide +kernel)) ggX0_lookAhead_X0_enabledIn
set_option maxRecDepth 20000 in
theorem ggX0_lookAhead_X0_aheadOfNext : GoodIn wsX0_lookAhead wsX0_aheadOfNext := goodIn_r _ [13, 8, 9, 2, 14, 15, 16, 17, 18, 19, 20, 21, 22, 23, 24, 25, 26, 27] (by decide +kernel) (by decide +kernel)
set_option maxRecDepth 20000 in
theorem gX0_lookAhead_X0_aheadOfNext : GoodIn wsX0_lookAhead (wsV RX0 82 RX0 yX0_aheadOfNext wsX0_aheadOfNext) := goodIn_app (goodIn_of _ (by decide +kernel)) ggX0_lookAhead_X0_aheadOfNext
set_option maxRecDepth 20000 in
theorem ggX0_stateOf_X3_same : GoodIn wsX0_stateOf wsX3_same := goodIn_r _ [5] (by decide +kernel) (by decide +kernel)
set_option maxRecDepth 20000 in
theorem gX0_stateOf_X3_same_n85 : GoodIn wsX0_stateOf (wsX3_same) := ggX0_stateOf_X3_same
set_option maxRecDepth 20000 in
theorem ggX0_countStops_X0_enabledIn : GoodIn wsX0_countStops wsX0_enabledIn := goodIn_r _ [6, 7, 8, 9, 10, 11, 12, 13, 14, 15, 16, 17, 18, 19, 20, 21, 22] (by decide +kernel) (by decide +kernel)
set_option maxRecDepth 20000 in
theorem gX0_countStops_X0_enabledIn : GoodIn wsX0_countStops (wsV RX0 78 RX0 yX0_enabledIn wsX0_enabledIn) := goodIn_app (goodIn_of _ (by decide +kernel)) ggX0_countStops_X0_enabledIn
set_option maxRecDepth 20000 in
theorem ggX1_enables_X3_covers : GoodIn wsX1_enables wsX3_covers := goodIn_r _ [4] (by decide +kernel) (by decide +kernel)
set_option maxRecDepth 20000 in
theorem gX1_enables_X3_covers_n30 : GoodIn wsX1_enables (wsX3_covers) := ggX1_enables_X3_covers
set_option maxRecDepth 20000 in
theorem ggX2_grow_X2_addRoot : GoodIn wsX2_grow wsX2_addRoot := goodIn_r _ [11, 5, 2, 4, 3, 12, 1, 13, 6, 14, 15, 16, 17, 18, 19, 20, 59, 60, 61, 62, 63, 64, 65, 66, 67, 68, 69, 70, 71, 72] (by decide +kernel) (by decide +kernel)
set_option maxRecDepth 20000 in
theorem gX2_grow_X2_addRoot : GoodIn wsX2_grow (wsV RX2 34 RX2 yX2_addRoot wsX2_addRoot) := goodIn_app (goodIn_of _ (by decide +kernel)) ggX2_grow_X2_addRoot
set_option maxRecDepth 20000 in
theorem ggX2_grow_X1_enables : GoodIn wsX2_grow wsX1_enables := goodIn_r _ [25, 26, 27, 15, 28, 68, 69, 70, 71, 72] (by decide +kernel) (by decide +kernel)
set_option maxRecDepth 20000 in
theorem gX2_grow_X1_enables : GoodIn wsX2_grow (wsV RX2 43 RX1 yX1_enables wsX1_enables) := goodIn_app (goodIn_of _ (by decide +kernel)) ggX2_grow_X1_enables
set_option maxRecDepth 20000 in
theorem ggX2_grow_X2_addChild : GoodIn wsX2_grow wsX2_addChild := goodIn_r _ [32, 6, 2, 5, 4, 3, 12, 1, 33, 34, 35, 24, 36, 37, 26, 38, 39, 40, 41, 10, 42, 27, 15, 28, 43, 44, 45, 46, 47, 48, 49, 50, 51, 52, 53, 13, 54, 55, 56, 57, 58, 59, 60, 61, 62, 63, 64, 65, 66, 67, 68, 69, 70, 71, 72] (by decide +kernel) (by decide +kernel)
set_option maxRecDepth 20000 in
theorem gX2_grow_X2_addChild : GoodIn wsX2_grow (wsV RX2 50 RX2 yX2_addChild wsX2_addChild) := goodIn_app (goodIn_of _ (by decide +kernel)) ggX2_grow_X2_addChild
set_option maxRecDepth 20000 in
theorem ggX2_addRoot_X3_copyInto : GoodIn wsX2_addRoot wsX3_copyInto := goodIn_r _ [11, 12, 13, 14, 15] (by decide +kernel) (by decide +kernel)
set_option maxRecDepth 20000 in
theorem gX2_addRoot_X3_copyInto_n57 : GoodIn wsX2_addRoot (wsX3_copyInto) := ggX2_addRoot_X3_copyInto
set_option maxRecDepth 20000 in
theorem ggX2_addChild_X1_fire : GoodIn wsX2_addChild wsX1_fire := goodIn_r _ [12, 13, 14, 15, 50, 51, 52, 53, 54] (by decide +kernel) (by decide +kernel)
set_option maxRecDepth 20000 in
theorem gX2_addChild_X1_fire : GoodIn wsX2_addChild (wsV RX2 64 RX1 yX1_fire wsX1_fire) := goodIn_app (goodIn_of _ (by decide +kernel)) ggX2_addChild_X1_fire
set_option maxRecDepth 20000 in
theorem ggX2_addChild_X2_makeEndlessWhatRepeats : GoodIn wsX2_addChild wsX2_makeEndlessWhatRepeats := goodIn_r _ [20, 3, 4, 6, 21, 22, 23, 24, 25, 26, 27, 28, 19, 29, 30, 31, 32, 33, 34, 35, 36, 41, 42, 43, 44, 45, 46, 47, 48, 49] (by decide +kernel) (by decide +kernel)
set_option maxRecDepth 20000 in
theorem gX2_addChild_X2_makeEndlessWhatRepeats : GoodIn wsX2_addChild (wsV RX2 68 RX2 yX2_makeEndlessWhatRepeats wsX2_makeEndlessWhatRepeats) := goodIn_app (goodIn_of _ (by decide +kernel)) ggX2_addChild_X2_makeEndlessWhatRepeats
set_option maxRecDepth 20000 in
theorem ggX2_addChild_X2_isAmongEarlier : GoodIn wsX2_addChild wsX2_isAmongEarlier := goodIn_r _ [40, 3, 24, 22, 25, 41, 42, 43, 44, 45, 46, 47, 48, 49] (by decide +kernel) (by decide +kernel)
set_option maxRecDepth 20000 in
theorem gX2_addChild_X2_isAmongEarlier : GoodIn wsX2_addChild (wsV RX2 72 RX2 yX2_isAmongEarlier wsX2_isAmongEarlier) := goodIn_app (goodIn_of _ (by decide +kernel)) ggX2_addChild_X2_isAmongEarlier
set_option maxRecDepth 20000 in
theorem ggX2_makeEndlessWhatRepeats_X3_covers : GoodIn wsX2_makeEndlessWhatRepeats wsX3_covers := goodIn_r _ [6] (by decide +kernel) (by decide +kernel)
set_option maxRecDepth 20000 in
theorem gX2_makeEndlessWhatRepeats_X3_covers_n76 : GoodIn wsX2_makeEndlessWhatRepeats (wsX3_covers) := ggX2_makeEndlessWhatRepeats_X3_covers
set_option maxRecDepth 20000 in
theorem ggX2_makeEndlessWhatRepeats_X3_same : GoodIn wsX2_makeEndlessWhatRepeats wsX3_same := goodIn_r _ [8] (by decide +kernel) (by decide +kernel)
set_option maxRecDepth 20000 in
theorem gX2_makeEndlessWhatRepeats_X3_same_n80 : GoodIn wsX2_makeEndlessWhatRepeats (wsX3_same) := ggX2_makeEndlessWhatRepeats_X3_same
set_option maxRecDepth 20000 in
theorem ggX2_makeEndlessWhatRepeats_X2_makeEndlessWhereMore : GoodIn wsX2_makeEndlessWhatRepeats wsX2_makeEndlessWhereMore := goodIn_r _ [13, 14] (by decide +kernel) (by decide +kernel)
set_option maxRecDepth 20000 in
theorem gX2_makeEndlessWhatRepeats_X2_makeEndlessWhereMore : GoodIn wsX2_makeEndlessWhatRepeats (wsV RX2 83 RX2 yX2_makeEndlessWhereMore wsX2_makeEndlessWhereMore) := goodIn_app (goodIn_of _ (by decide +kernel)) ggX2_makeEndlessWhatRepeats_X2_makeEndlessWhereMore
set_option maxRecDepth 20000 in
theorem ggX2_makeEndlessWhatRepeats_X2_noteFirstEndless : GoodIn wsX2_makeEndlessWhatRepeats wsX2_noteFirstEndless := goodIn_r _ [18, 19, 20, 21, 22, 23, 24, 25, 26, 27, 28, 29] (by decide +kernel) (by decide +kernel)
set_option maxRecDepth 20000 in
theorem gX2_makeEndlessWhatRepeats_X2_noteFirstEndless : GoodIn wsX2_makeEndlessWhatRepeats (wsV RX2 86 RX2 yX2_noteFirstEndless wsX2_noteFirstEndless) := goodIn_app (goodIn_of _ (by decide +kernel)) ggX2_makeEndlessWhatRepeats_X2_noteFirstEndless
set_option maxRecDepth 20000 in
theorem ggX2_isAmongEarlier_X3_same : GoodIn wsX2_isAmongEarlier wsX3_same := goodIn_r _ [4] (by decide +kernel) (by decide +kernel)
set_option maxRecDepth 20000 in
theorem gX2_isAmongEarlier_X3_same_n80 : GoodIn wsX2_isAmongEarlier (wsX3_same) := ggX2_isAmongEarlier_X3_same
set_option maxRecDepth 20000 in
theorem ggX2_hasNodeCovering_X3_covers : GoodIn wsX2_hasNodeCovering wsX3_covers := goodIn_r _ [5] (by decide +kernel) (by decide +kernel)
set_option maxRecDepth 20000 in
theorem gX2_hasNodeCovering_X3_covers_n76 : GoodIn wsX2_hasNodeCovering (wsX3_covers) := ggX2_hasNodeCovering_X3_covers
set_option maxRecDepth 20000 in
theorem ggX2_hasNodeEnabling_X2_hasNodeCovering : GoodIn wsX2_hasNodeEnabling wsX2_hasNodeCovering := goodIn_r _ [6, 7, 8, 9, 10, 11, 12, 13, 14, 15, 16, 17, 18, 19, 20] (by decide +kernel) (by decide +kernel)
set_option maxRecDepth 20000 in
theorem gX2_hasNodeEnabling_X2_hasNodeCovering : GoodIn wsX2_hasNodeEnabling (wsV RX2 102 RX2 yX2_hasNodeCovering wsX2_hasNodeCovering) := goodIn_app (goodIn_of _ (by decide +kernel)) ggX2_hasNodeEnabling_X2_hasNodeCovering
set_option maxRecDepth 20000 in
theorem ggX3_init_X1_init : GoodIn wsX3_init wsX1_init := goodIn_r _ [19, 20, 2, 3, 8, 21, 22, 23, 24, 50, 51, 52, 53, 54] (by decide +kernel) (by decide +kernel)
set_option maxRecDepth 20000 in
theorem gX3_init_X1_init_n9 : GoodIn wsX3_init (wsX1_init) := ggX3_init_X1_init
set_option maxRecDepth 20000 in
theorem ggX3_init_X2_init : GoodIn wsX3_init wsX2_init := goodIn_r _ [27, 28, 2, 3, 29, 8, 30, 31, 32, 33, 34, 35, 36, 59, 60, 61, 62, 63, 64, 65, 66, 67] (by decide +kernel) (by decide +kernel)
set_option maxRecDepth 20000 in
theorem gX3_init_X2_init : GoodIn wsX3_init (wsX2_init) := ggX3_init_X2_init
set_option maxRecDepth 20000 in
theorem ggX3_init_X0_init : GoodIn wsX3_init wsX0_init := goodIn_r _ [39, 40, 2, 3, 41, 8, 42, 43, 44, 45, 46, 47, 48, 49, 68, 69, 70, 71, 72, 73, 74, 75, 76] (by decide +kernel) (by decide +kernel)
set_option maxRecDepth 20000 in
theorem gX3_init_X0_init : GoodIn wsX3_init (wsX0_init) := ggX3_init_X0_init
set_option maxRecDepth 20000 in
theorem ggX3_place_X3_needRange : GoodIn wsX3_place wsX3_needRange := goodIn_ca (goodIn_r _ [7, 8, 9] (by decide +kernel) (by decide +kernel)) (goodIn_sub (fun _ h => List.mem_cons_of_mem _ (List.mem_append_right _ h)) (by decide +kernel))
set_option maxRecDepth 20000 in
theorem gX3_place_X3_needRange : GoodIn wsX3_place (va_wsS RX3 36 yX3_needRange wsX3_needRange) := goodIn_app (goodIn_of _ (by decide +kernel)) ggX3_place_X3_needRange
set_option maxRecDepth 20000 in
theorem ggX3_place_X3_discard : GoodIn wsX3_place wsX3_discard := goodIn_r _ [13, 14, 15, 23, 24, 25, 26, 32, 33, 34, 35, 36, 37, 38, 39, 40, 41, 42, 43, 44, 45, 46, 47, 48, 49] (by decide +kernel) (by decide +kernel)
set_option maxRecDepth 20000 in
theorem gX3_place_X3_discard : GoodIn wsX3_place (wsV RX3 51 RX3 yX3_discard wsX3_discard) := goodIn_app (goodIn_of _ (by decide +kernel)) ggX3_place_X3_discard
set_option maxRecDepth 20000 in
theorem ggX3_place_X1_addPlace : GoodIn wsX3_place wsX1_addPlace := goodIn_r _ [20, 21, 22, 27, 28, 29, 30, 31] (by decide +kernel) (by decide +kernel)
set_option maxRecDepth 20000 in
theorem gX3_place_X1_addPlace : GoodIn wsX3_place (wsV RX3 54 RX1 yX1_addPlace wsX1_addPlace) := goodIn_app (goodIn_of _ (by decide +kernel)) ggX3_place_X1_addPlace
set_option maxRecDepth 20000 in
theorem ggX3_transition_X3_discard : GoodIn wsX3_transition wsX3_discard := goodIn_r _ [8, 9, 10, 17, 18, 19, 20, 26, 27, 28, 29, 30, 31, 32, 33, 34, 35, 36, 37, 38, 39, 40, 41, 42, 43] (by decide +kernel) (by decide +kernel)
set_option maxRecDepth 20000 in
theorem gX3_transition_X3_discard : GoodIn wsX3_transition (wsV RX3 51 RX3 yX3_discard wsX3_discard) := goodIn_app (goodIn_of _ (by decide +kernel)) ggX3_transition_X3_discard
set_option maxRecDepth 20000 in
theorem ggX3_transition_X1_addTransition : GoodIn wsX3_transition wsX1_addTransition := goodIn_r _ [15, 16, 21, 22, 23, 24, 25] (by decide +kernel) (by decide +kernel)
set_option maxRecDepth 20000 in
theorem gX3_transition_X1_addTransition : GoodIn wsX3_transition (wsV RX3 63 RX1 yX1_addTransition wsX1_addTransition) := goodIn_app (goodIn_of _ (by decide +kernel)) ggX3_transition_X1_addTransition
set_option maxRecDepth 20000 in
theorem ggX3_arc_X3_needPlace : GoodIn wsX3_arc wsX3_needPlace := goodIn_ca (goodIn_r _ [6, 7, 8, 1, 31, 32, 33, 34, 35, 36, 37, 38, 39] (by decide +kernel) (by decide +kernel)) (goodIn_sub (fun _ h => List.mem_cons_of_mem _ (List.mem_append_left _ (List.mem_append_right _ h))) (by decide +kernel))
set_option maxRecDepth 20000 in
theorem gX3_arc_X3_needPlace : GoodIn wsX3_arc (wsV RX3 67 RX3 yX3_needPlace wsX3_needPlace) := goodIn_app (goodIn_of _ (by decide +kernel)) ggX3_arc_X3_needPlace
set_option maxRecDepth 20000 in
theorem ggX3_arc_X3_needTransition : GoodIn wsX3_arc wsX3_needTransition := goodIn_ca (goodIn_r _ [12, 7, 8, 1, 31, 32, 33, 34, 35, 36, 37, 38, 39] (by decide +kernel) (by decide +kernel)) (goodIn_sub (fun _ h => List.mem_cons_of_mem _ (List.mem_append_left _ (List.mem_append_right _ h))) (by decide +kernel))
set_option maxRecDepth 20000 in
theorem gX3_arc_X3_needTransition : GoodIn wsX3_arc (wsV RX3 71 RX3 yX3_needTransition wsX3_needTransition) := goodIn_app (goodIn_of _ (by decide +kernel)) ggX3_arc_X3_needTransition
set_option maxRecDepth 20000 in
theorem ggX3_arc_X3_needRange : GoodIn wsX3_arc wsX3_needRange := goodIn_ca (goodIn_r _ [15, 16, 17] (by decide +kernel) (by decide +kernel)) (goodIn_sub (fun _ h => List.mem_cons_of_mem _ (List.mem_append_right _ h)) (by decide +kernel))
set_option maxRecDepth 20000 in
theorem gX3_arc_X3_needRange : GoodIn wsX3_arc (va_wsS RX3 36 yX3_needRange wsX3_needRange) := goodIn_app (goodIn_of _ (by decide +kernel)) ggX3_arc_X3_needRange
set_option maxRecDepth 20000 in
theorem ggX3_arc_X3_discard : GoodIn wsX3_arc wsX3_discard := goodIn_r _ [21, 22, 23, 31, 32, 33, 34, 40, 41, 42, 43, 44, 45, 46, 47, 48, 49, 50, 51, 52, 53, 54, 55, 56, 57] (by decide +kernel) (by decide +kernel)
set_option maxRecDepth 20000 in
theorem gX3_arc_X3_discard : GoodIn wsX3_arc (wsV RX3 51 RX3 yX3_discard wsX3_discard) := goodIn_app (goodIn_of _ (by decide +kernel)) ggX3_arc_X3_discard
set_option maxRecDepth 20000 in
theorem ggX3_arc_X1_setArc : GoodIn wsX3_arc wsX1_setArc := goodIn_r _ [28, 29, 30, 35, 36, 37, 38, 39] (by decide +kernel) (by decide +kernel)
set_option maxRecDepth 20000 in
theorem gX3_arc_X1_setArc : GoodIn wsX3_arc (wsV RX3 74 RX1 yX1_setArc wsX1_setArc) := goodIn_app (goodIn_of _ (by decide +kernel)) ggX3_arc_X1_setArc
set_option maxRecDepth 20000 in
theorem ggX3_tokens_X3_needPlace : GoodIn wsX3_tokens wsX3_needPlace := goodIn_ca (goodIn_r _ [6, 7, 8, 1, 20, 21, 22, 23, 24, 25, 26, 27, 28] (by decide +kernel) (by decide +kernel)) (goodIn_sub (fun _ h => List.mem_cons_of_mem _ (List.mem_append_left _ (List.mem_append_right _ h))) (by decide +kernel))
set_option maxRecDepth 20000 in
theorem gX3_tokens_X3_needPlace : GoodIn wsX3_tokens (wsV RX3 67 RX3 yX3_needPlace wsX3_needPlace) := goodIn_app (goodIn_of _ (by decide +kernel)) ggX3_tokens_X3_needPlace
set_option maxRecDepth 20000 in
theorem ggX3_tokens_X3_needRange : GoodIn wsX3_tokens wsX3_needRange := goodIn_ca (goodIn_r _ [11, 12, 13] (by decide +kernel) (by decide +kernel)) (goodIn_sub (fun _ h => List.mem_cons_of_mem _ (List.mem_append_right _ h)) (by decide +kernel))
set_option maxRecDepth 20000 in
theorem gX3_tokens_X3_needRange : GoodIn wsX3_tokens (va_wsS RX3 36 yX3_needRange wsX3_needRange) := goodIn_app (goodIn_of _ (by decide +kernel)) ggX3_tokens_X3_needRange
set_option maxRecDepth 20000 in
theorem ggX3_tokens_X3_discard : GoodIn wsX3_tokens wsX3_discard := goodIn_r _ [17, 18, 19, 20, 21, 22, 23, 29, 30, 31, 32, 33, 34, 35, 36, 37, 38, 39, 40, 41, 42, 43, 44, 45, 46] (by decide +kernel) (by decide +kernel)
set_option maxRecDepth 20000 in
theorem gX3_tokens_X3_discard : GoodIn wsX3_tokens (wsV RX3 51 RX3 yX3_discard wsX3_discard) := goodIn_app (goodIn_of _ (by decide +kernel)) ggX3_tokens_X3_discard
set_option maxRecDepth 20000 in
theorem ggX3_explore_X3_discard : GoodIn wsX3_explore wsX3_discard := goodIn_r _ [8, 3, 9, 71, 72, 73, 74, 75, 76, 77, 78, 79, 80, 81, 82, 83, 84, 85, 86, 87, 88, 89, 90, 91, 92] (by decide +kernel) (by decide +kernel)
set_option maxRecDepth 20000 in
theorem gX3_explore_X3_discard : GoodIn wsX3_explore (wsV RX3 51 RX3 yX3_discard wsX3_discard) := goodIn_app (goodIn_of _ (by decide +kernel)) ggX3_explore_X3_discard
set_option maxRecDepth 20000 in
theorem ggX3_explore_X2_grow : GoodIn wsX3_explore wsX2_grow := goodIn_r _ [14, 15, 16, 17, 18, 19, 20, 21, 22, 23, 13, 24, 25, 26, 27, 7, 28, 29, 30, 31, 32, 33, 34, 35, 36, 37, 38, 39, 40, 41, 42, 43, 44, 45, 46, 47, 48, 49, 50, 51, 52, 53, 54, 55, 56, 57, 58, 59, 60, 61, 62, 63, 64, 65, 66, 67, 68, 69, 70, 75, 76, 77, 78, 79, 80, 81, 82, 83, 93, 94, 95, 96, 97] (by decide +kernel) (by decide +kernel)
set_option maxRecDepth 20000 in
theorem gX3_explore_X2_grow : GoodIn wsX3_explore (wsV RX3 81 RX2 yX2_grow wsX2_grow) := goodIn_app (goodIn_of _ (by decide +kernel)) ggX3_explore_X2_grow
set_option maxRecDepth 20000 in
theorem ggX3_count_X3_needTree : GoodIn wsX3_count wsX3_needTree := goodIn_ca (goodIn_r _ [6, 7, 8, 1, 24, 25, 26, 27, 28, 29, 30, 31, 32, 33, 34, 35, 36] (by decide +kernel) (by decide +kernel)) (goodIn_sub (fun _ h => List.mem_cons_of_mem _ (List.mem_append_left _ (List.mem_append_right _ h))) (by decide +kernel))
set_option maxRecDepth 20000 in
theorem gX3_count_X3_needTree : GoodIn wsX3_count (wsV RX3 93 RX3 yX3_needTree wsX3_needTree) := goodIn_app (goodIn_of _ (by decide +kernel)) ggX3_count_X3_needTree
set_option maxRecDepth 20000 in
theorem ggX3_count_X3_needNode : GoodIn wsX3_count wsX3_needNode := goodIn_ca (goodIn_r _ [12, 13, 14, 1, 24, 25, 26, 27, 28, 29, 30, 31, 32, 33, 34, 35, 36] (by decide +kernel) (by decide +kernel)) (goodIn_sub (fun _ h => List.mem_cons_of_mem _ (List.mem_append_right _ h)) (by decide +kernel))
set_option maxRecDepth 20000 in
theorem gX3_count_X3_needNode : GoodIn wsX3_count (wsV RX3 96 RX3 yX3_needNode wsX3_needNode) := goodIn_app (goodIn_of _ (by decide +kernel)) ggX3_count_X3_needNode
set_option maxRecDepth 20000 in
theorem ggX3_count_X3_needPlace : GoodIn wsX3_count wsX3_needPlace := goodIn_ca (goodIn_r _ [18, 13, 14, 19, 24, 25, 26, 27, 37, 38, 39, 40, 41] (by decide +kernel) (by decide +kernel)) (goodIn_sub (fun _ h => List.mem_cons_of_mem _ (List.mem_append_right _ h)) (by decide +kernel))
set_option maxRecDepth 20000 in
theorem gX3_count_X3_needPlace : GoodIn wsX3_count (wsV RX3 67 RX3 yX3_needPlace wsX3_needPlace) := goodIn_app (goodIn_of _ (by decide +kernel)) ggX3_count_X3_needPlace
set_option maxRecDepth 20000 in
theorem ggX3_count_X3_asTold : GoodIn wsX3_count wsX3_asTold := goodIn_r _ [22, 23] (by decide +kernel) (by decide +kernel)
set_option maxRecDepth 20000 in
theorem gX3_count_X3_asTold : GoodIn wsX3_count (va_wsS RX3 103 yX3_asTold wsX3_asTold) := goodIn_app (goodIn_of _ (by decide +kernel)) ggX3_count_X3_asTold
set_option maxRecDepth 20000 in
theorem ggX3_node_X3_needTree : GoodIn wsX3_node wsX3_needTree := goodIn_ca (goodIn_r _ [6, 7, 8, 1, 15, 16, 17, 18, 19, 20, 21, 22, 23, 24, 25, 26, 27] (by decide +kernel) (by decide +kernel)) (goodIn_sub (fun _ h => List.mem_cons_of_mem _ (List.mem_append_left _ (List.mem_append_right _ h))) (by decide +kernel))
set_option maxRecDepth 20000 in
theorem gX3_node_X3_needTree : GoodIn wsX3_node (wsV RX3 93 RX3 yX3_needTree wsX3_needTree) := goodIn_app (goodIn_of _ (by decide +kernel)) ggX3_node_X3_needTree
set_option maxRecDepth 20000 in
theorem ggX3_node_X3_needNode : GoodIn wsX3_node wsX3_needNode := goodIn_ca (goodIn_r _ [12, 13, 14, 1, 15, 16, 17, 18, 19, 20, 21, 22, 23, 24, 25, 26, 27] (by decide +kernel) (by decide +kernel)) (goodIn_sub (fun _ h => List.mem_cons_of_mem _ (List.mem_append_right _ h)) (by decide +kernel))
set_option maxRecDepth 20000 in
theorem gX3_node_X3_needNode : GoodIn wsX3_node (wsV RX3 96 RX3 yX3_needNode wsX3_needNode) := goodIn_app (goodIn_of _ (by decide +kernel)) ggX3_node_X3_needNode
set_option maxRecDepth 20000 in
theorem ggX3_bound_X3_needTree : GoodIn wsX3_bound wsX3_needTree := goodIn_ca (goodIn_r _ [6, 7, 8, 1, 31, 32, 33, 34, 35, 36, 37, 38, 39, 40, 41, 42, 43] (by decide +kernel) (by decide +kernel)) (goodIn_sub (fun _ h => List.mem_cons_of_mem _ (List.mem_append_left _ (List.mem_append_right _ h))) (by decide +kernel))
set_option maxRecDepth 20000 in
theorem gX3_bound_X3_needTree : GoodIn wsX3_bound (wsV RX3 93 RX3 yX3_needTree wsX3_needTree) := goodIn_app (goodIn_of _ (by decide +kernel)) ggX3_bound_X3_needTree
set_option maxRecDepth 20000 in
theorem ggX3_bound_X3_needPlace : GoodIn wsX3_bound wsX3_needPlace := goodIn_ca (goodIn_r _ [12, 13, 14, 15, 31, 32, 33, 34, 44, 45, 46, 47, 48] (by decide +kernel) (by decide +kernel)) (goodIn_sub (fun _ h => List.mem_cons_of_mem _ (List.mem_append_right _ h)) (by decide +kernel))
set_option maxRecDepth 20000 in
theorem gX3_bound_X3_needPlace : GoodIn wsX3_bound (wsV RX3 67 RX3 yX3_needPlace wsX3_needPlace) := goodIn_app (goodIn_of _ (by decide +kernel)) ggX3_bound_X3_needPlace
set_option maxRecDepth 20000 in
theorem ggX3_bound_X2_greatestCount : GoodIn wsX3_bound wsX2_greatestCount := goodIn_r _ [20, 21, 22, 23, 24, 25, 26, 35, 36, 37, 38, 39, 40, 41, 42, 43] (by decide +kernel) (by decide +kernel)
set_option maxRecDepth 20000 in
theorem gX3_bound_X2_greatestCount : GoodIn wsX3_bound (wsV RX3 116 RX2 yX2_greatestCount wsX2_greatestCount) := goodIn_app (goodIn_of _ (by decide +kernel)) ggX3_bound_X2_greatestCount
set_option maxRecDepth 20000 in
theorem ggX3_bound_X3_asTold : GoodIn wsX3_bound wsX3_asTold := goodIn_r _ [29, 30] (by decide +kernel) (by decide +kernel)
set_option maxRecDepth 20000 in
theorem gX3_bound_X3_asTold : GoodIn wsX3_bound (va_wsS RX3 103 yX3_asTold wsX3_asTold) := goodIn_app (goodIn_of _ (by decide +kernel)) ggX3_bound_X3_asTold
end
section
set_option maxRecDepth 20000 in
theorem ggX3_want_X3_needPlace : GoodIn wsX3_want wsX3_needPlace := goodIn_ca (goodIn_r _ [6, 7, 8, 9, 15, 16, 17, 18, 19, 20, 21, 22, 23] (by decide +kernel) (by decide +kernel)) (goodIn_sub (fun _ h => List.mem_cons_of_mem _ (List.mem_append_left _ (List.mem_append_right _ h))) (by decide +kernel))
set_option maxRecDepth 20000 in
theorem gX3_want_X3_needPlace : GoodIn wsX3_want (wsV RX3 67 RX3 yX3_needPlace wsX3_needPlace) := goodIn_app (goodIn_of _ (by decide +kernel)) ggX3_want_X3_needPlace
set_option maxRecDepth 20000 in
theorem ggX3_want_X3_needRange : GoodIn wsX3_want wsX3_needRange := goodIn_ca (goodIn_r _ [12, 13, 14] (by decide +kernel) (by decide +kernel)) (goodIn_sub (fun _ h => List.mem_cons_of_mem _ (List.mem_append_right _ h)) (by decide +kernel))
set_option maxRecDepth 20000 in
theorem gX3_want_X3_needRange : GoodIn wsX3_want (va_wsS RX3 36 yX3_needRange wsX3_needRange) := goodIn_app (goodIn_of _ (by decide +kernel)) ggX3_want_X3_needRange
set_option maxRecDepth 20000 in
theorem ggX3_covered_X3_needTree : GoodIn wsX3_covered wsX3_needTree := goodIn_ca (goodIn_r _ [7, 8, 9, 1, 19, 20, 21, 22, 23, 24, 25, 26, 27, 28, 29, 30, 31] (by decide +kernel) (by decide +kernel)) (goodIn_sub (fun _ h => List.mem_cons_of_mem _ (List.mem_append_right _ h)) (by decide +kernel))
set_option maxRecDepth 20000 in
theorem gX3_covered_X3_needTree : GoodIn wsX3_covered (wsV RX3 93 RX3 yX3_needTree wsX3_needTree) := goodIn_app (goodIn_of _ (by decide +kernel)) ggX3_covered_X3_needTree
set_option maxRecDepth 20000 in
theorem ggX3_covered_X2_hasNodeCovering : GoodIn wsX3_covered wsX2_hasNodeCovering := goodIn_r _ [14, 15, 16, 17, 6, 18, 23, 24, 25, 26, 27, 28, 29, 30, 31] (by decide +kernel) (by decide +kernel)
set_option maxRecDepth 20000 in
theorem gX3_covered_X2_hasNodeCovering : GoodIn wsX3_covered (wsV RX3 119 RX2 yX2_hasNodeCovering wsX2_hasNodeCovering) := goodIn_app (goodIn_of _ (by decide +kernel)) ggX3_covered_X2_hasNodeCovering
set_option maxRecDepth 20000 in
theorem ggX3_possible_X3_needTree : GoodIn wsX3_possible wsX3_needTree := goodIn_ca (goodIn_r _ [6, 7, 8, 1, 30, 31, 32, 33, 34, 35, 36, 37, 38, 39, 40, 41, 42] (by decide +kernel) (by decide +kernel)) (goodIn_sub (fun _ h => List.mem_cons_of_mem _ (List.mem_append_left _ (List.mem_append_right _ h))) (by decide +kernel))
set_option maxRecDepth 20000 in
theorem gX3_possible_X3_needTree : GoodIn wsX3_possible (wsV RX3 93 RX3 yX3_needTree wsX3_needTree) := goodIn_app (goodIn_of _ (by decide +kernel)) ggX3_possible_X3_needTree
set_option maxRecDepth 20000 in
theorem ggX3_possible_X3_needTransition : GoodIn wsX3_possible wsX3_needTransition := goodIn_ca (goodIn_r _ [12, 13, 14, 15, 30, 31, 32, 33, 43, 44, 45, 46, 47] (by decide +kernel) (by decide +kernel)) (goodIn_sub (fun _ h => List.mem_cons_of_mem _ (List.mem_append_right _ h)) (by decide +kernel))
set_option maxRecDepth 20000 in
theorem gX3_possible_X3_needTransition : GoodIn wsX3_possible (wsV RX3 71 RX3 yX3_needTransition wsX3_needTransition) := goodIn_app (goodIn_of _ (by decide +kernel)) ggX3_possible_X3_needTransition
set_option maxRecDepth 20000 in
theorem ggX3_possible_X2_hasNodeEnabling : GoodIn wsX3_possible wsX2_hasNodeEnabling := goodIn_r _ [20, 21, 22, 23, 24, 19, 25, 26, 27, 28, 5, 29, 34, 35, 36, 37, 38, 39, 40, 41, 42, 43, 44, 45, 46, 47] (by decide +kernel) (by decide +kernel)
set_option maxRecDepth 20000 in
theorem gX3_possible_X2_hasNodeEnabling : GoodIn wsX3_possible (wsV RX3 123 RX2 yX2_hasNodeEnabling wsX2_hasNodeEnabling) := goodIn_app (goodIn_of _ (by decide +kernel)) ggX3_possible_X2_hasNodeEnabling
set_option maxRecDepth 20000 in
theorem ggX3_growth_X3_needTree : GoodIn wsX3_growth wsX3_needTree := goodIn_ca (goodIn_r _ [8, 9, 10, 3, 24, 25, 26, 27, 28, 29, 30, 31, 32, 33, 34, 35, 36] (by decide +kernel) (by decide +kernel)) (goodIn_sub (fun _ h => List.mem_cons_of_mem _ (List.mem_append_right _ h)) (by decide +kernel))
set_option maxRecDepth 20000 in
theorem gX3_growth_X3_needTree : GoodIn wsX3_growth (wsV RX3 93 RX3 yX3_needTree wsX3_needTree) := goodIn_app (goodIn_of _ (by decide +kernel)) ggX3_growth_X3_needTree
set_option maxRecDepth 20000 in
theorem ggX3_growth_X2_hasEndless : GoodIn wsX3_growth wsX2_hasEndless := goodIn_r _ [15, 16, 28, 29, 30, 31, 32, 33, 34, 35, 36] (by decide +kernel) (by decide +kernel)
set_option maxRecDepth 20000 in
theorem gX3_growth_X2_hasEndless : GoodIn wsX3_growth (wsV RX3 132 RX2 yX2_hasEndless wsX2_hasEndless) := goodIn_app (goodIn_of _ (by decide +kernel)) ggX3_growth_X2_hasEndless
set_option maxRecDepth 20000 in
theorem ggX3_growth_X2_stepToFirstEndless : GoodIn wsX3_growth wsX2_stepToFirstEndless := goodIn_r _ [20, 16, 21, 22, 23, 28, 29, 30, 31, 32, 33, 34, 35, 36] (by decide +kernel) (by decide +kernel)
set_option maxRecDepth 20000 in
theorem gX3_growth_X2_stepToFirstEndless : GoodIn wsX3_growth (wsV RX3 138 RX2 yX2_stepToFirstEndless wsX2_stepToFirstEndless) := goodIn_app (goodIn_of _ (by decide +kernel)) ggX3_growth_X2_stepToFirstEndless
set_option maxRecDepth 20000 in
theorem ggX3_graph_X3_needTree : GoodIn wsX3_graph wsX3_needTree := goodIn_ca (goodIn_r _ [11, 1, 2, 5, 78, 79, 80, 81, 91, 92, 93, 94, 95, 96, 97, 98, 99] (by decide +kernel) (by decide +kernel)) (goodIn_sub (fun _ h => List.mem_cons_of_mem _ (List.mem_append_left _ (List.mem_append_right _ h))) (by decide +kernel))
set_option maxRecDepth 20000 in
theorem gX3_graph_X3_needTree : GoodIn wsX3_graph (wsV RX3 93 RX3 yX3_needTree wsX3_needTree) := goodIn_app (goodIn_of _ (by decide +kernel)) ggX3_graph_X3_needTree
set_option maxRecDepth 20000 in
theorem ggX3_graph_X2_hasEndless : GoodIn wsX3_graph wsX2_hasEndless := goodIn_r _ [16, 17, 91, 92, 93, 94, 95, 96, 97, 98, 99] (by decide +kernel) (by decide +kernel)
set_option maxRecDepth 20000 in
theorem gX3_graph_X2_hasEndless : GoodIn wsX3_graph (wsV RX3 132 RX2 yX2_hasEndless wsX2_hasEndless) := goodIn_app (goodIn_of _ (by decide +kernel)) ggX3_graph_X2_hasEndless
set_option maxRecDepth 20000 in
theorem ggX3_graph_X0_build : GoodIn wsX3_graph wsX0_build := goodIn_r _ [22, 23, 24, 25, 26, 10, 27, 28, 29, 30, 31, 32, 33, 34, 21, 35, 36, 37, 38, 39, 40, 41, 42, 43, 44, 45, 46, 47, 48, 49, 50, 51, 52, 53, 54, 55, 56, 57, 58, 59, 60, 61, 62, 63, 64, 65, 66, 67, 68, 69, 70, 71, 72, 73, 74, 75, 76, 77, 82, 83, 84, 85, 86, 87, 88, 89, 90, 100, 101, 102, 103, 104] (by decide +kernel) (by decide +kernel)
set_option maxRecDepth 20000 in
theorem gX3_graph_X0_build : GoodIn wsX3_graph (wsV RX3 143 RX0 yX0_build wsX0_build) := goodIn_app (goodIn_of _ (by decide +kernel)) ggX3_graph_X0_build
set_option maxRecDepth 20000 in
theorem ggX3_reached_X3_needGraph : GoodIn wsX3_reached wsX3_needGraph := goodIn_ca (goodIn_r _ [7, 8, 9, 1, 19, 20, 21, 22, 23, 24, 25, 26, 27, 28, 29, 30, 31] (by decide +kernel) (by decide +kernel)) (goodIn_sub (fun _ h => List.mem_cons_of_mem _ (List.mem_append_right _ h)) (by decide +kernel))
set_option maxRecDepth 20000 in
theorem gX3_reached_X3_needGraph : GoodIn wsX3_reached (wsV RX3 149 RX3 yX3_needGraph wsX3_needGraph) := goodIn_app (goodIn_of _ (by decide +kernel)) ggX3_reached_X3_needGraph
set_option maxRecDepth 20000 in
theorem ggX3_reached_X0_stateOf : GoodIn wsX3_reached wsX0_stateOf := goodIn_r _ [14, 15, 16, 17, 6, 18, 23, 24, 25, 26, 27, 28, 29, 30, 31] (by decide +kernel) (by decide +kernel)
set_option maxRecDepth 20000 in
theorem gX3_reached_X0_stateOf : GoodIn wsX3_reached (wsV RX3 152 RX0 yX0_stateOf wsX0_stateOf) := goodIn_app (goodIn_of _ (by decide +kernel)) ggX3_reached_X0_stateOf
set_option maxRecDepth 20000 in
theorem ggX3_distance_X3_needGraph : GoodIn wsX3_distance wsX3_needGraph := goodIn_ca (goodIn_r _ [6, 7, 8, 1, 15, 16, 17, 18, 19, 20, 21, 22, 23, 24, 25, 26, 27] (by decide +kernel) (by decide +kernel)) (goodIn_sub (fun _ h => List.mem_cons_of_mem _ (List.mem_append_left _ (List.mem_append_right _ h))) (by decide +kernel))
set_option maxRecDepth 20000 in
theorem gX3_distance_X3_needGraph : GoodIn wsX3_distance (wsV RX3 149 RX3 yX3_needGraph wsX3_needGraph) := goodIn_app (goodIn_of _ (by decide +kernel)) ggX3_distance_X3_needGraph
set_option maxRecDepth 20000 in
theorem ggX3_distance_X3_needState : GoodIn wsX3_distance wsX3_needState := goodIn_ca (goodIn_r _ [12, 13, 14, 1, 15, 16, 17, 18, 19, 20, 21, 22, 23, 24, 25, 26, 27] (by decide +kernel) (by decide +kernel)) (goodIn_sub (fun _ h => List.mem_cons_of_mem _ (List.mem_append_right _ h)) (by decide +kernel))
set_option maxRecDepth 20000 in
theorem gX3_distance_X3_needState : GoodIn wsX3_distance (wsV RX3 156 RX3 yX3_needState wsX3_needState) := goodIn_app (goodIn_of _ (by decide +kernel)) ggX3_distance_X3_needState
set_option maxRecDepth 20000 in
theorem ggX3_found_X3_needGraph : GoodIn wsX3_found wsX3_needGraph := goodIn_ca (goodIn_r _ [6, 7, 8, 1, 15, 16, 17, 18, 19, 20, 21, 22, 23, 24, 25, 26, 27] (by decide +kernel) (by decide +kernel)) (goodIn_sub (fun _ h => List.mem_cons_of_mem _ (List.mem_append_left _ (List.mem_append_right _ h))) (by decide +kernel))
set_option maxRecDepth 20000 in
theorem gX3_found_X3_needGraph : GoodIn wsX3_found (wsV RX3 149 RX3 yX3_needGraph wsX3_needGraph) := goodIn_app (goodIn_of _ (by decide +kernel)) ggX3_found_X3_needGraph
set_option maxRecDepth 20000 in
theorem ggX3_found_X3_needState : GoodIn wsX3_found wsX3_needState := goodIn_ca (goodIn_r _ [12, 13, 14, 1, 15, 16, 17, 18, 19, 20, 21, 22, 23, 24, 25, 26, 27] (by decide +kernel) (by decide +kernel)) (goodIn_sub (fun _ h => List.mem_cons_of_mem _ (List.mem_append_right _ h)) (by decide +kernel))
set_option maxRecDepth 20000 in
theorem gX3_found_X3_needState : GoodIn wsX3_found (wsV RX3 156 RX3 yX3_needState wsX3_needState) := goodIn_app (goodIn_of _ (by decide +kernel)) ggX3_found_X3_needState
set_option maxRecDepth 20000 in
theorem ggX3_stops_X3_needGraph : GoodIn wsX3_stops wsX3_needGraph := goodIn_ca (goodIn_r _ [6, 7, 8, 1, 21, 22, 23, 24, 25, 26, 27, 28, 29, 30, 31, 32, 33] (by decide +kernel) (by decide +kernel)) (goodIn_sub (fun _ h => List.mem_cons_of_mem _ (List.mem_append_right _ h)) (by decide +kernel))
set_option maxRecDepth 20000 in
theorem gX3_stops_X3_needGraph : GoodIn wsX3_stops (wsV RX3 149 RX3 yX3_needGraph wsX3_needGraph) := goodIn_app (goodIn_of _ (by decide +kernel)) ggX3_stops_X3_needGraph
set_option maxRecDepth 20000 in
theorem ggX3_stops_X0_countStops : GoodIn wsX3_stops wsX0_countStops := goodIn_r _ [13, 14, 15, 16, 17, 12, 18, 19, 20, 25, 26, 27, 28, 29, 30, 31, 32, 33, 34, 35, 36, 37, 38] (by decide +kernel) (by decide +kernel)
set_option maxRecDepth 20000 in
theorem gX3_stops_X0_countStops : GoodIn wsX3_stops (wsV RX3 166 RX0 yX0_countStops wsX0_countStops) := goodIn_app (goodIn_of _ (by decide +kernel)) ggX3_stops_X0_countStops
set_option maxRecDepth 20000 in
theorem ggX3_live_X3_needGraph : GoodIn wsX3_live wsX3_needGraph := goodIn_ca (goodIn_r _ [6, 7, 8, 1, 23, 24, 25, 26, 27, 28, 29, 30, 31, 32, 33, 34, 35] (by decide +kernel) (by decide +kernel)) (goodIn_sub (fun _ h => List.mem_cons_of_mem _ (List.mem_append_left _ (List.mem_append_right _ h))) (by decide +kernel))
set_option maxRecDepth 20000 in
theorem gX3_live_X3_needGraph : GoodIn wsX3_live (wsV RX3 149 RX3 yX3_needGraph wsX3_needGraph) := goodIn_app (goodIn_of _ (by decide +kernel)) ggX3_live_X3_needGraph
set_option maxRecDepth 20000 in
theorem ggX3_live_X3_needTransition : GoodIn wsX3_live wsX3_needTransition := goodIn_ca (goodIn_r _ [12, 13, 14, 15, 23, 24, 25, 26, 36, 37, 38, 39, 40] (by decide +kernel) (by decide +kernel)) (goodIn_sub (fun _ h => List.mem_cons_of_mem _ (List.mem_append_right _ h)) (by decide +kernel))
set_option maxRecDepth 20000 in
theorem gX3_live_X3_needTransition : GoodIn wsX3_live (wsV RX3 71 RX3 yX3_needTransition wsX3_needTransition) := goodIn_app (goodIn_of _ (by decide +kernel)) ggX3_live_X3_needTransition
set_option maxRecDepth 20000 in
theorem ggX3_live_X0_staysPossible : GoodIn wsX3_live wsX0_staysPossible := goodIn_r _ [20, 21, 22, 27, 28, 29, 30, 31, 32, 33, 34, 35] (by decide +kernel) (by decide +kernel)
set_option maxRecDepth 20000 in
theorem gX3_live_X0_staysPossible : GoodIn wsX3_live (wsV RX3 169 RX0 yX0_staysPossible wsX0_staysPossible) := goodIn_app (goodIn_of _ (by decide +kernel)) ggX3_live_X0_staysPossible
set_option maxRecDepth 20000 in
theorem ggX4_place_X4_discard : GoodIn wsX4_place wsX4_discard := goodIn_r _ [11, 12, 13, 14, 15, 16, 17, 18, 19, 20, 21, 22, 23, 24, 25, 26, 27, 28, 29, 30, 31, 32, 33, 34, 35] (by decide +kernel) (by decide +kernel)
set_option maxRecDepth 20000 in
theorem gX4_place_X4_discard : GoodIn wsX4_place (wsV RX4 72 RX4 yX4_discard wsX4_discard) := goodIn_app (goodIn_of _ (by decide +kernel)) ggX4_place_X4_discard
set_option maxRecDepth 20000 in
theorem ggX4_transition_X4_discard : GoodIn wsX4_transition wsX4_discard := goodIn_r _ [7, 8, 9, 10, 11, 12, 13, 14, 15, 16, 17, 18, 19, 20, 21, 22, 23, 24, 25, 26, 27, 28, 29, 30, 31] (by decide +kernel) (by decide +kernel)
set_option maxRecDepth 20000 in
theorem gX4_transition_X4_discard : GoodIn wsX4_transition (wsV RX4 72 RX4 yX4_discard wsX4_discard) := goodIn_app (goodIn_of _ (by decide +kernel)) ggX4_transition_X4_discard
set_option maxRecDepth 20000 in
theorem ggX4_arc_X4_noPlace : GoodIn wsX4_arc wsX4_noPlace := goodIn_r _ [8, 9, 21, 22, 23, 24, 25, 26, 27, 28, 29, 30, 31, 32, 33, 34, 35, 36, 37, 38, 39, 40, 41, 42] (by decide +kernel) (by decide +kernel)
set_option maxRecDepth 20000 in
theorem gX4_arc_X4_noPlace : GoodIn wsX4_arc (wsV RX4 75 RX4 yX4_noPlace wsX4_noPlace) := goodIn_app (goodIn_of _ (by decide +kernel)) ggX4_arc_X4_noPlace
set_option maxRecDepth 20000 in
theorem ggX4_arc_X4_noTransition : GoodIn wsX4_arc wsX4_noTransition := goodIn_r _ [13, 14, 21, 22, 23, 24, 25, 26, 27, 28, 29, 30, 31, 32, 33, 34, 35, 36, 37, 38, 39, 40, 41, 42] (by decide +kernel) (by decide +kernel)
set_option maxRecDepth 20000 in
theorem gX4_arc_X4_noTransition : GoodIn wsX4_arc (wsV RX4 79 RX4 yX4_noTransition wsX4_noTransition) := goodIn_app (goodIn_of _ (by decide +kernel)) ggX4_arc_X4_noTransition
set_option maxRecDepth 20000 in
theorem ggX4_arc_X4_discard : GoodIn wsX4_arc wsX4_discard := goodIn_r _ [18, 19, 20, 21, 22, 23, 24, 25, 26, 27, 28, 29, 30, 31, 32, 33, 34, 35, 36, 37, 38, 39, 40, 41, 42] (by decide +kernel) (by decide +kernel)
set_option maxRecDepth 20000 in
theorem gX4_arc_X4_discard : GoodIn wsX4_arc (wsV RX4 72 RX4 yX4_discard wsX4_discard) := goodIn_app (goodIn_of _ (by decide +kernel)) ggX4_arc_X4_discard
set_option maxRecDepth 20000 in
theorem ggX4_tokens_X4_noPlace : GoodIn wsX4_tokens wsX4_noPlace := goodIn_r _ [7, 8, 15, 16, 17, 18, 19, 20, 21, 22, 23, 24, 25, 26, 27, 28, 29, 30, 31, 32, 33, 34, 35, 36] (by decide +kernel) (by decide +kernel)
set_option maxRecDepth 20000 in
theorem gX4_tokens_X4_noPlace : GoodIn wsX4_tokens (wsV RX4 75 RX4 yX4_noPlace wsX4_noPlace) := goodIn_app (goodIn_of _ (by decide +kernel)) ggX4_tokens_X4_noPlace
set_option maxRecDepth 20000 in
theorem ggX4_tokens_X4_discard : GoodIn wsX4_tokens wsX4_discard := goodIn_r _ [12, 13, 14, 15, 16, 17, 18, 19, 20, 21, 22, 23, 24, 25, 26, 27, 28, 29, 30, 31, 32, 33, 34, 35, 36] (by decide +kernel) (by decide +kernel)
set_option maxRecDepth 20000 in
theorem gX4_tokens_X4_discard : GoodIn wsX4_tokens (wsV RX4 72 RX4 yX4_discard wsX4_discard) := goodIn_app (goodIn_of _ (by decide +kernel)) ggX4_tokens_X4_discard
set_option maxRecDepth 20000 in
theorem ggX4_addNode_X4_sameAs : GoodIn wsX4_addNode wsX4_sameAs := goodIn_r _ [13, 3, 4, 5, 14, 15, 16, 17, 18, 19, 20, 21, 22, 23, 24, 25, 26, 27, 28, 29, 30, 31, 32, 33, 34, 35] (by decide +kernel) (by decide +kernel)
set_option maxRecDepth 20000 in
theorem gX4_addNode_X4_sameAs : GoodIn wsX4_addNode (wsV RX4 82 RX4 yX4_sameAs wsX4_sameAs) := goodIn_app (goodIn_of _ (by decide +kernel)) ggX4_addNode_X4_sameAs
set_option maxRecDepth 20000 in
theorem ggX4_fire_X4_below : GoodIn wsX4_fire wsX4_below := goodIn_r _ [15, 1, 2, 3, 16, 17, 18, 19, 20, 21, 22, 23, 24, 25, 26, 27, 28, 29, 30, 31, 32, 33, 34, 35, 36, 37] (by decide +kernel) (by decide +kernel)
set_option maxRecDepth 20000 in
theorem gX4_fire_X4_below : GoodIn wsX4_fire (wsV RX4 86 RX4 yX4_below wsX4_below) := goodIn_app (goodIn_of _ (by decide +kernel)) ggX4_fire_X4_below
set_option maxRecDepth 20000 in
theorem ggX4_explore_X4_discard : GoodIn wsX4_explore wsX4_discard := goodIn_r _ [16, 2, 17, 43, 44, 45, 46, 47, 48, 49, 50, 51, 52, 53, 54, 55, 56, 57, 58, 59, 60, 61, 62, 63, 64] (by decide +kernel) (by decide +kernel)
set_option maxRecDepth 20000 in
theorem gX4_explore_X4_discard : GoodIn wsX4_explore (wsV RX4 72 RX4 yX4_discard wsX4_discard) := goodIn_app (goodIn_of _ (by decide +kernel)) ggX4_explore_X4_discard
set_option maxRecDepth 20000 in
theorem ggX4_explore_X4_addNode : GoodIn wsX4_explore wsX4_addNode := goodIn_r _ [21, 2, 8, 5, 22, 6, 11, 23, 9, 24, 25, 26, 15, 27, 43, 44, 45, 46, 47, 48, 49, 50, 51, 52, 53, 54, 55, 56, 57, 58, 59, 60, 61, 62, 63, 64] (by decide +kernel) (by decide +kernel)
set_option maxRecDepth 20000 in
theorem gX4_explore_X4_addNode : GoodIn wsX4_explore (wsV RX4 95 RX4 yX4_addNode wsX4_addNode) := goodIn_app (goodIn_of _ (by decide +kernel)) ggX4_explore_X4_addNode
set_option maxRecDepth 20000 in
theorem ggX4_explore_X4_enabledAt : GoodIn wsX4_explore wsX4_enabledAt := goodIn_r _ [31, 5, 22, 32, 43, 44, 45, 46, 47, 48, 49, 50, 51, 52, 53, 54, 55, 56, 57, 58, 59, 60, 61, 62, 63, 64] (by decide +kernel) (by decide +kernel)
set_option maxRecDepth 20000 in
theorem gX4_explore_X4_enabledAt : GoodIn wsX4_explore (wsV RX4 99 RX4 yX4_enabledAt wsX4_enabledAt) := goodIn_app (goodIn_of _ (by decide +kernel)) ggX4_explore_X4_enabledAt
set_option maxRecDepth 20000 in
theorem ggX4_explore_X4_fire : GoodIn wsX4_explore wsX4_fire := goodIn_r _ [36, 5, 22, 6, 37, 32, 38, 3, 2, 4, 11, 39, 40, 41, 15, 42, 43, 44, 45, 46, 47, 48, 49, 50, 51, 52, 53, 54, 55, 56, 57, 58, 59, 60, 61, 62, 63, 64] (by decide +kernel) (by decide +kernel)
set_option maxRecDepth 20000 in
theorem gX4_explore_X4_fire : GoodIn wsX4_explore (wsV RX4 103 RX4 yX4_fire wsX4_fire) := goodIn_app (goodIn_of _ (by decide +kernel)) ggX4_explore_X4_fire
set_option maxRecDepth 20000 in
theorem ggX4_count_X4_noPlace : GoodIn wsX4_count wsX4_noPlace := goodIn_r _ [8, 9, 14, 15, 16, 17, 18, 19, 20, 21, 22, 23, 24, 25, 26, 27, 28, 29, 30, 31, 32, 33, 34, 35] (by decide +kernel) (by decide +kernel)
set_option maxRecDepth 20000 in
theorem gX4_count_X4_noPlace : GoodIn wsX4_count (wsV RX4 75 RX4 yX4_noPlace wsX4_noPlace) := goodIn_app (goodIn_of _ (by decide +kernel)) ggX4_count_X4_noPlace
set_option maxRecDepth 20000 in
theorem ggX4_count_X4_told : GoodIn wsX4_count wsX4_told := goodIn_r _ [12, 13] (by decide +kernel) (by decide +kernel)
set_option maxRecDepth 20000 in
theorem gX4_count_X4_told : GoodIn wsX4_count (va_wsS RX4 106 yX4_told wsX4_told) := goodIn_app (goodIn_of _ (by decide +kernel)) ggX4_count_X4_told
set_option maxRecDepth 20000 in
theorem ggX4_bound_X4_noPlace : GoodIn wsX4_bound wsX4_noPlace := goodIn_r _ [7, 8, 18, 19, 20, 21, 22, 23, 24, 25, 26, 27, 28, 29, 30, 31, 32, 33, 34, 35, 36, 37, 38, 39] (by decide +kernel) (by decide +kernel)
set_option maxRecDepth 20000 in
theorem gX4_bound_X4_noPlace : GoodIn wsX4_bound (wsV RX4 75 RX4 yX4_noPlace wsX4_noPlace) := goodIn_app (goodIn_of _ (by decide +kernel)) ggX4_bound_X4_noPlace
set_option maxRecDepth 20000 in
theorem ggX4_bound_X4_greatest : GoodIn wsX4_bound wsX4_greatest := goodIn_r _ [12, 1, 13, 18, 19, 20, 21, 22, 23, 24, 25, 26, 27, 28, 29, 30, 31, 32, 33, 34, 35, 36, 37, 38, 39] (by decide +kernel) (by decide +kernel)
set_option maxRecDepth 20000 in
theorem gX4_bound_X4_greatest : GoodIn wsX4_bound (wsV RX4 110 RX4 yX4_greatest wsX4_greatest) := goodIn_app (goodIn_of _ (by decide +kernel)) ggX4_bound_X4_greatest
set_option maxRecDepth 20000 in
theorem ggX4_bound_X4_told : GoodIn wsX4_bound wsX4_told := goodIn_r _ [16, 17] (by decide +kernel) (by decide +kernel)
set_option maxRecDepth 20000 in
theorem gX4_bound_X4_told : GoodIn wsX4_bound (va_wsS RX4 106 yX4_told wsX4_told) := goodIn_app (goodIn_of _ (by decide +kernel)) ggX4_bound_X4_told
set_option maxRecDepth 20000 in
theorem ggX4_want_X4_noPlace : GoodIn wsX4_want wsX4_noPlace := goodIn_r _ [7, 8, 9, 10, 11, 12, 13, 14, 15, 16, 17, 18, 19, 20, 21, 22, 23, 24, 25, 26, 27, 28, 29, 30] (by decide +kernel) (by decide +kernel)
set_option maxRecDepth 20000 in
theorem gX4_want_X4_noPlace : GoodIn wsX4_want (wsV RX4 75 RX4 yX4_noPlace wsX4_noPlace) := goodIn_app (goodIn_of _ (by decide +kernel)) ggX4_want_X4_noPlace
set_option maxRecDepth 20000 in
theorem ggX4_possible_X4_noTransition : GoodIn wsX4_possible wsX4_noTransition := goodIn_r _ [7, 8, 16, 17, 18, 19, 20, 21, 22, 23, 24, 25, 26, 27, 28, 29, 30, 31, 32, 33, 34, 35, 36, 37] (by decide +kernel) (by decide +kernel)
set_option maxRecDepth 20000 in
theorem gX4_possible_X4_noTransition : GoodIn wsX4_possible (wsV RX4 79 RX4 yX4_noTransition wsX4_noTransition) := goodIn_app (goodIn_of _ (by decide +kernel)) ggX4_possible_X4_noTransition
set_option maxRecDepth 20000 in
theorem ggX4_possible_X4_enabledAt : GoodIn wsX4_possible wsX4_enabledAt := goodIn_r _ [12, 13, 14, 15, 16, 17, 18, 19, 20, 21, 22, 23, 24, 25, 26, 27, 28, 29, 30, 31, 32, 33, 34, 35, 36, 37] (by decide +kernel) (by decide +kernel)
set_option maxRecDepth 20000 in
theorem gX4_possible_X4_enabledAt : GoodIn wsX4_possible (wsV RX4 99 RX4 yX4_enabledAt wsX4_enabledAt) := goodIn_app (goodIn_of _ (by decide +kernel)) ggX4_possible_X4_enabledAt
set_option maxRecDepth 20000 in
theorem ggX4_growth_X4_depth : GoodIn wsX4_growth wsX4_depth := goodIn_r _ [11, 5, 12, 13, 14, 15, 16, 17, 18, 19, 20, 21, 22, 23, 24, 25, 26, 27, 28, 29, 30, 31, 32, 33] (by decide +kernel) (by decide +kernel)
set_option maxRecDepth 20000 in
theorem gX4_growth_X4_depth : GoodIn wsX4_growth (wsV RX4 113 RX4 yX4_depth wsX4_depth) := goodIn_app (goodIn_of _ (by decide +kernel)) ggX4_growth_X4_depth
set_option maxRecDepth 20000 in
theorem ggX4_anyEndless_X4_greatest : GoodIn wsX4_anyEndless wsX4_greatest := goodIn_r _ [7, 8, 9, 10, 11, 12, 13, 14, 15, 16, 17, 18, 19, 20, 21, 22, 23, 24, 25, 26, 27, 28, 29, 30, 31] (by decide +kernel) (by decide +kernel)
set_option maxRecDepth 20000 in
theorem gX4_anyEndless_X4_greatest : GoodIn wsX4_anyEndless (wsV RX4 110 RX4 yX4_greatest wsX4_greatest) := goodIn_app (goodIn_of _ (by decide +kernel)) ggX4_anyEndless_X4_greatest
set_option maxRecDepth 20000 in
theorem ggX4_graph_X4_anyEndless : GoodIn wsX4_graph wsX4_anyEndless := goodIn_r _ [16, 4, 17, 18, 19, 20, 15, 21, 1, 22, 37, 38, 39, 40, 41, 42, 43, 44, 45, 46, 47, 48, 49, 50, 51, 52, 53, 54, 55, 56, 57, 58] (by decide +kernel) (by decide +kernel)
set_option maxRecDepth 20000 in
theorem gX4_graph_X4_anyEndless : GoodIn wsX4_graph (wsV RX4 116 RX4 yX4_anyEndless wsX4_anyEndless) := goodIn_app (goodIn_of _ (by decide +kernel)) ggX4_graph_X4_anyEndless
set_option maxRecDepth 20000 in
theorem ggX4_graph_X4_addState : GoodIn wsX4_graph wsX4_addState := goodIn_r _ [26, 4, 9, 3, 5, 27, 28, 37, 38, 39, 40, 41, 42, 43, 44, 45, 46, 47, 48, 49, 50, 51, 52, 53, 54, 55, 56, 57, 58] (by decide +kernel) (by decide +kernel)
set_option maxRecDepth 20000 in
theorem gX4_graph_X4_addState : GoodIn wsX4_graph (wsV RX4 120 RX4 yX4_addState wsX4_addState) := goodIn_app (goodIn_of _ (by decide +kernel)) ggX4_graph_X4_addState
set_option maxRecDepth 20000 in
theorem ggX4_graph_X4_enabledIn : GoodIn wsX4_graph wsX4_enabledIn := goodIn_r _ [32, 4, 9, 10, 37, 38, 39, 40, 41, 42, 43, 44, 45, 46, 47, 48, 49, 50, 51, 52, 53, 54, 55, 56, 57, 58] (by decide +kernel) (by decide +kernel)
set_option maxRecDepth 20000 in
theorem gX4_graph_X4_enabledIn : GoodIn wsX4_graph (wsV RX4 123 RX4 yX4_enabledIn wsX4_enabledIn) := goodIn_app (goodIn_of _ (by decide +kernel)) ggX4_graph_X4_enabledIn
set_option maxRecDepth 20000 in
theorem ggX4_graph_X4_find : GoodIn wsX4_graph wsX4_find := goodIn_r _ [36, 3, 4, 9, 5, 37, 38, 39, 40, 41, 42, 43, 44, 45, 46, 47, 48, 49, 50, 51, 52, 53, 54, 55, 56, 57, 58] (by decide +kernel) (by decide +kernel)
set_option maxRecDepth 20000 in
theorem gX4_graph_X4_find : GoodIn wsX4_graph (wsV RX4 126 RX4 yX4_find wsX4_find) := goodIn_app (goodIn_of _ (by decide +kernel)) ggX4_graph_X4_find
set_option maxRecDepth 20000 in
theorem ggX4_reached_X4_find : GoodIn wsX4_reached wsX4_find := goodIn_r _ [10, 1, 3, 11, 4, 12, 13, 14, 15, 16, 17, 18, 19, 20, 21, 22, 23, 24, 25, 26, 27, 28, 29, 30, 31, 32, 33] (by decide +kernel) (by decide +kernel)
set_option maxRecDepth 20000 in
theorem gX4_reached_X4_find : GoodIn wsX4_reached (wsV RX4 126 RX4 yX4_find wsX4_find) := goodIn_app (goodIn_of _ (by decide +kernel)) ggX4_reached_X4_find
set_option maxRecDepth 20000 in
theorem ggX4_distance_X4_noState : GoodIn wsX4_distance wsX4_noState := goodIn_r _ [6, 7, 8, 9, 10, 11, 12, 13, 14, 15, 16, 17, 18, 19, 20, 21, 22, 23, 24, 25, 26, 27, 28, 29, 30] (by decide +kernel) (by decide +kernel)
set_option maxRecDepth 20000 in
theorem gX4_distance_X4_noState : GoodIn wsX4_distance (wsV RX4 130 RX4 yX4_noState wsX4_noState) := goodIn_app (goodIn_of _ (by decide +kernel)) ggX4_distance_X4_noState
set_option maxRecDepth 20000 in
theorem ggX4_found_X4_noState : GoodIn wsX4_found wsX4_noState := goodIn_r _ [7, 8, 9, 10, 11, 12, 13, 14, 15, 16, 17, 18, 19, 20, 21, 22, 23, 24, 25, 26, 27, 28, 29, 30, 31] (by decide +kernel) (by decide +kernel)
set_option maxRecDepth 20000 in
theorem gX4_found_X4_noState : GoodIn wsX4_found (wsV RX4 130 RX4 yX4_noState wsX4_noState) := goodIn_app (goodIn_of _ (by decide +kernel)) ggX4_found_X4_noState
set_option maxRecDepth 20000 in
theorem ggX4_live_X4_noTransition : GoodIn wsX4_live wsX4_noTransition := goodIn_r _ [10, 5, 11, 12, 13, 14, 15, 16, 17, 18, 19, 20, 21, 22, 23, 24, 25, 26, 27, 28, 29, 30, 31, 32] (by decide +kernel) (by decide +kernel)
set_option maxRecDepth 20000 in
theorem gX4_live_X4_noTransition : GoodIn wsX4_live (wsV RX4 79 RX4 yX4_noTransition wsX4_noTransition) := goodIn_app (goodIn_of _ (by decide +kernel)) ggX4_live_X4_noTransition
theorem dJ9_max_7cf53_0 : decode cJ9_max_7cf53 0 = .ok (.iload_n 0, 1) := by decide +kernel
theorem dJ9_max_7cf53_1 : decode cJ9_max_7cf53 1 = .ok (.iload_n 1, 1) := by decide +kernel
theorem dJ9_max_7cf53_2 : decode cJ9_max_7cf53 2 = .ok (.if_icmp .lt 7, 3) := by decide +kernel
theorem dJ9_max_7cf53_5 : decode cJ9_max_7cf53 5 = .ok (.iload_n 0, 1) := by decide +kernel
theorem dJ9_max_7cf53_6 : decode cJ9_max_7cf53 6 = .ok (.goto 4, 3) := by decide +kernel
theorem dJ9_max_7cf53_9 : decode cJ9_max_7cf53 9 = .ok (.iload_n 1, 1) := by decide +kernel
theorem dJ9_max_7cf53_10 : decode cJ9_max_7cf53 10 = .ok (.ireturn, 1) := by decide +kernel
end
section
set_option maxRecDepth 20000 in
theorem ggL_place_X3_place : GoodIn wsL_place wsX3_place := goodIn_ca (goodIn_ca (goodIn_r _ [7, 8, 9, 10, 11, 12, 6, 13, 14, 15, 16, 17, 18, 19, 20, 21, 22, 23, 24, 25, 26, 27, 28, 29, 30, 31, 32, 33, 34, 35, 36, 37, 38, 39, 40, 41, 42, 43, 44, 45, 46, 47, 48, 49, 50, 51, 52, 53, 54, 55] (by decide +kernel) (by decide +kernel)) (goodIn_sub (fun _ h => List.mem_cons_of_mem _ (List.mem_append_left _ (List.mem_append_right _ h))) (by decide +kernel))) (goodIn_sub (fun _ h => List.mem_cons_of_mem _ (List.mem_append_right _ h)) (by decide +kernel))
set_option maxRecDepth 20000 in
theorem gL_place_X3_place : GoodIn wsL_place (wsV RL 7 RX3 yX3_place wsX3_place) := goodIn_app (goodIn_of _ (by decide +kernel)) ggL_place_X3_place
set_option maxRecDepth 20000 in
theorem ggL_transition_X3_transition : GoodIn wsL_transition wsX3_transition := goodIn_ca (goodIn_r _ [6, 7, 8, 9, 10, 11, 12, 5, 13, 14, 15, 16, 17, 18, 19, 20, 21, 22, 23, 24, 25, 26, 27, 28, 29, 30, 31, 32, 33, 34, 35, 36, 37, 38, 39, 40, 41, 42, 43, 44, 45, 46, 47, 48] (by decide +kernel) (by decide +kernel)) (goodIn_sub (fun _ h => List.mem_cons_of_mem _ (List.mem_append_right _ h)) (by decide +kernel))
set_option maxRecDepth 20000 in
theorem gL_transition_X3_transition : GoodIn wsL_transition (wsV RL 17 RX3 yX3_transition wsX3_transition) := goodIn_app (goodIn_of _ (by decide +kernel)) ggL_transition_X3_transition
set_option maxRecDepth 20000 in
theorem ggL_arc_X3_arc : GoodIn wsL_arc wsX3_arc := goodIn_ca (goodIn_ca (goodIn_r _ [7, 8, 9, 10, 11, 6, 12, 13, 14, 15, 16, 17, 18, 19, 20, 21, 22, 23, 24, 25, 26, 27, 28, 29, 30, 31, 32, 33, 34, 35, 36, 37, 38, 39, 40, 41, 42, 43, 44, 45, 46, 47, 48, 49, 50, 51, 52, 53, 54, 55, 56, 57, 58, 59, 60, 61, 62, 63] (by decide +kernel) (by decide +kernel)) (goodIn_sub (fun _ h => List.mem_cons_of_mem _ (List.mem_append_left _ (List.mem_append_right _ h))) (by decide +kernel))) (goodIn_sub (fun _ h => List.mem_cons_of_mem _ (List.mem_append_right _ h)) (by decide +kernel))
set_option maxRecDepth 20000 in
theorem gL_arc_X3_arc : GoodIn wsL_arc (wsV RL 21 RX3 yX3_arc wsX3_arc) := goodIn_app (goodIn_of _ (by decide +kernel)) ggL_arc_X3_arc
set_option maxRecDepth 20000 in
theorem ggL_tokens_X3_tokens : GoodIn wsL_tokens wsX3_tokens := goodIn_ca (goodIn_ca (goodIn_r _ [7, 8, 9, 10, 11, 6, 12, 13, 14, 15, 16, 17, 18, 19, 20, 21, 22, 23, 24, 25, 26, 27, 28, 29, 30, 31, 32, 33, 34, 35, 36, 37, 38, 39, 40, 41, 42, 43, 44, 45, 46, 47, 48, 49, 50, 51, 52] (by decide +kernel) (by decide +kernel)) (goodIn_sub (fun _ h => List.mem_cons_of_mem _ (List.mem_append_left _ (List.mem_append_right _ h))) (by decide +kernel))) (goodIn_sub (fun _ h => List.mem_cons_of_mem _ (List.mem_append_right _ h)) (by decide +kernel))
set_option maxRecDepth 20000 in
theorem gL_tokens_X3_tokens : GoodIn wsL_tokens (wsV RL 27 RX3 yX3_tokens wsX3_tokens) := goodIn_app (goodIn_of _ (by decide +kernel)) ggL_tokens_X3_tokens
set_option maxRecDepth 20000 in
theorem ggL_explore_X3_explore : GoodIn wsL_explore wsX3_explore := goodIn_ca (goodIn_r _ [6, 7, 8, 9, 10, 11, 12, 5, 13, 14, 15, 16, 17, 18, 19, 20, 21, 22, 23, 24, 25, 26, 27, 28, 29, 30, 31, 32, 33, 34, 35, 36, 37, 38, 39, 40, 41, 42, 43, 44, 45, 46, 47, 48, 49, 50, 51, 52, 53, 54, 55, 56, 57, 58, 59, 60, 61, 62, 63, 64, 65, 66, 67, 68, 69, 70, 71, 72, 73, 74, 75, 76, 77, 78, 79, 80, 81, 82, 83, 84, 85, 86, 87, 88, 89, 90, 91, 92, 93, 94, 95, 96, 97, 98, 99, 100, 101, 102] (by decide +kernel) (by decide +kernel)) (goodIn_sub (fun _ h => List.mem_cons_of_mem _ (List.mem_append_right _ h)) (by decide +kernel))
set_option maxRecDepth 20000 in
theorem gL_explore_X3_explore : GoodIn wsL_explore (wsV RL 31 RX3 yX3_explore wsX3_explore) := goodIn_app (goodIn_of _ (by decide +kernel)) ggL_explore_X3_explore
set_option maxRecDepth 20000 in
theorem ggL_count_X3_count : GoodIn wsL_count wsX3_count := goodIn_ca (goodIn_ca (goodIn_r _ [7, 8, 9, 10, 11, 6, 12, 13, 14, 15, 16, 17, 18, 19, 20, 21, 22, 23, 24, 25, 26, 27, 28, 29, 30, 31, 32, 33, 34, 35, 36, 37, 38, 39, 40, 41, 42, 43, 44, 45, 46, 47] (by decide +kernel) (by decide +kernel)) (goodIn_sub (fun _ h => List.mem_cons_of_mem _ (List.mem_append_left _ (List.mem_append_right _ h))) (by decide +kernel))) (goodIn_sub (fun _ h => List.mem_cons_of_mem _ (List.mem_append_right _ h)) (by decide +kernel))
set_option maxRecDepth 20000 in
theorem gL_count_X3_count : GoodIn wsL_count (wsV RL 36 RX3 yX3_count wsX3_count) := goodIn_app (goodIn_of _ (by decide +kernel)) ggL_count_X3_count
set_option maxRecDepth 20000 in
theorem ggL_node_X3_node : GoodIn wsL_node wsX3_node := goodIn_ca (goodIn_ca (goodIn_r _ [7, 8, 9, 10, 11, 6, 12, 13, 14, 15, 16, 17, 18, 19, 20, 21, 22, 23, 24, 25, 26, 27, 28, 29, 30, 31, 32, 33] (by decide +kernel) (by decide +kernel)) (goodIn_sub (fun _ h => List.mem_cons_of_mem _ (List.mem_append_left _ (List.mem_append_right _ h))) (by decide +kernel))) (goodIn_sub (fun _ h => List.mem_cons_of_mem _ (List.mem_append_right _ h)) (by decide +kernel))
set_option maxRecDepth 20000 in
theorem gL_node_X3_node : GoodIn wsL_node (wsV RL 40 RX3 yX3_node wsX3_node) := goodIn_app (goodIn_of _ (by decide +kernel)) ggL_node_X3_node
set_option maxRecDepth 20000 in
theorem ggL_bound_X3_bound : GoodIn wsL_bound wsX3_bound := goodIn_ca (goodIn_ca (goodIn_r _ [7, 8, 9, 10, 11, 6, 12, 13, 14, 15, 16, 17, 18, 19, 20, 21, 22, 23, 24, 25, 26, 27, 28, 29, 30, 31, 32, 33, 34, 35, 36, 37, 38, 39, 40, 41, 42, 43, 44, 45, 46, 47, 48, 49, 50, 51, 52, 53, 54] (by decide +kernel) (by decide +kernel)) (goodIn_sub (fun _ h => List.mem_cons_of_mem _ (List.mem_append_left _ (List.mem_append_right _ h))) (by decide +kernel))) (goodIn_sub (fun _ h => List.mem_cons_of_mem _ (List.mem_append_right _ h)) (by decide +kernel))
set_option maxRecDepth 20000 in
theorem gL_bound_X3_bound : GoodIn wsL_bound (wsV RL 43 RX3 yX3_bound wsX3_bound) := goodIn_app (goodIn_of _ (by decide +kernel)) ggL_bound_X3_bound
set_option maxRecDepth 20000 in
theorem ggL_want_X3_want : GoodIn wsL_want wsX3_want := goodIn_ca (goodIn_ca (goodIn_r _ [7, 8, 9, 10, 11, 6, 12, 13, 14, 15, 16, 17, 18, 19, 20, 21, 22, 23, 24, 25, 26, 27, 28, 29] (by decide +kernel) (by decide +kernel)) (goodIn_sub (fun _ h => List.mem_cons_of_mem _ (List.mem_append_left _ (List.mem_append_right _ h))) (by decide +kernel))) (goodIn_sub (fun _ h => List.mem_cons_of_mem _ (List.mem_append_right _ h)) (by decide +kernel))
set_option maxRecDepth 20000 in
theorem gL_want_X3_want : GoodIn wsL_want (wsV RL 46 RX3 yX3_want wsX3_want) := goodIn_app (goodIn_of _ (by decide +kernel)) ggL_want_X3_want
set_option maxRecDepth 20000 in
theorem ggL_covered_X3_covered : GoodIn wsL_covered wsX3_covered := goodIn_ca (goodIn_r _ [6, 7, 8, 9, 10, 11, 5, 12, 13, 14, 15, 16, 17, 18, 19, 20, 21, 22, 23, 24, 25, 26, 27, 28, 29, 30, 31, 32, 33, 34, 35, 36] (by decide +kernel) (by decide +kernel)) (goodIn_sub (fun _ h => List.mem_cons_of_mem _ (List.mem_append_right _ h)) (by decide +kernel))
set_option maxRecDepth 20000 in
theorem gL_covered_X3_covered : GoodIn wsL_covered (wsV RL 49 RX3 yX3_covered wsX3_covered) := goodIn_app (goodIn_of _ (by decide +kernel)) ggL_covered_X3_covered
set_option maxRecDepth 20000 in
theorem ggL_possible_X3_possible : GoodIn wsL_possible wsX3_possible := goodIn_ca (goodIn_ca (goodIn_r _ [7, 8, 9, 10, 11, 6, 12, 13, 14, 15, 16, 17, 18, 19, 20, 21, 22, 23, 24, 25, 26, 27, 28, 29, 30, 31, 32, 33, 34, 35, 36, 37, 38, 39, 40, 41, 42, 43, 44, 45, 46, 47, 48, 49, 50, 51, 52, 53] (by decide +kernel) (by decide +kernel)) (goodIn_sub (fun _ h => List.mem_cons_of_mem _ (List.mem_append_left _ (List.mem_append_right _ h))) (by decide +kernel))) (goodIn_sub (fun _ h => List.mem_cons_of_mem _ (List.mem_append_right _ h)) (by decide +kernel))
set_option maxRecDepth 20000 in
theorem gL_possible_X3_possible : GoodIn wsL_possible (wsV RL 53 RX3 yX3_possible wsX3_possible) := goodIn_app (goodIn_of _ (by decide +kernel)) ggL_possible_X3_possible
set_option maxRecDepth 20000 in
theorem ggL_growth_X3_growth : GoodIn wsL_growth wsX3_growth := goodIn_ca (goodIn_ca (goodIn_r _ [7, 8, 9, 10, 11, 12, 13, 6, 14, 15, 16, 17, 18, 19, 20, 21, 22, 23, 24, 25, 26, 27, 28, 29, 30, 31, 32, 33, 34, 35, 36, 37, 38, 39, 40, 41, 42] (by decide +kernel) (by decide +kernel)) (goodIn_sub (fun _ h => List.mem_cons_of_mem _ (List.mem_append_left _ (List.mem_append_right _ h))) (by decide +kernel))) (goodIn_sub (fun _ h => List.mem_cons_of_mem _ (List.mem_append_right _ h)) (by decide +kernel))
set_option maxRecDepth 20000 in
theorem gL_growth_X3_growth : GoodIn wsL_growth (wsV RL 57 RX3 yX3_growth wsX3_growth) := goodIn_app (goodIn_of _ (by decide +kernel)) ggL_growth_X3_growth
set_option maxRecDepth 20000 in
theorem ggL_graph_X3_graph : GoodIn wsL_graph wsX3_graph := goodIn_ca (goodIn_ca (goodIn_r _ [7, 8, 9, 10, 11, 12, 13, 14, 15, 16, 6, 17, 18, 19, 20, 21, 22, 23, 24, 25, 26, 27, 28, 29, 30, 31, 32, 33, 34, 35, 36, 37, 38, 39, 40, 41, 42, 43, 44, 45, 46, 47, 48, 49, 50, 51, 52, 53, 54, 55, 56, 57, 58, 59, 60, 61, 62, 63, 64, 65, 66, 67, 68, 69, 70, 71, 72, 73, 74, 75, 76, 77, 78, 79, 80, 81, 82, 83, 84, 85, 86, 87, 88, 89, 90, 91, 92, 93, 94, 95, 96, 97, 98, 99, 100, 101, 102, 103, 104, 105, 106, 107, 108, 109, 110] (by decide +kernel) (by decide +kernel)) (goodIn_sub (fun _ h => List.mem_cons_of_mem _ (List.mem_append_left _ (List.mem_append_right _ h))) (by decide +kernel))) (goodIn_sub (fun _ h => List.mem_cons_of_mem _ (List.mem_append_right _ h)) (by decide +kernel))
set_option maxRecDepth 20000 in
theorem gL_graph_X3_graph : GoodIn wsL_graph (wsV RL 60 RX3 yX3_graph wsX3_graph) := goodIn_app (goodIn_of _ (by decide +kernel)) ggL_graph_X3_graph
set_option maxRecDepth 20000 in
theorem ggL_reached_X3_reached : GoodIn wsL_reached wsX3_reached := goodIn_ca (goodIn_r _ [6, 7, 8, 9, 10, 11, 5, 12, 13, 14, 15, 16, 17, 18, 19, 20, 21, 22, 23, 24, 25, 26, 27, 28, 29, 30, 31, 32, 33, 34, 35, 36] (by decide +kernel) (by decide +kernel)) (goodIn_sub (fun _ h => List.mem_cons_of_mem _ (List.mem_append_right _ h)) (by decide +kernel))
set_option maxRecDepth 20000 in
theorem gL_reached_X3_reached : GoodIn wsL_reached (wsV RL 63 RX3 yX3_reached wsX3_reached) := goodIn_app (goodIn_of _ (by decide +kernel)) ggL_reached_X3_reached
set_option maxRecDepth 20000 in
theorem ggL_distance_X3_distance : GoodIn wsL_distance wsX3_distance := goodIn_ca (goodIn_ca (goodIn_r _ [7, 8, 9, 10, 11, 6, 12, 13, 14, 15, 16, 17, 18, 19, 20, 21, 22, 23, 24, 25, 26, 27, 28, 29, 30, 31, 32, 33] (by decide +kernel) (by decide +kernel)) (goodIn_sub (fun _ h => List.mem_cons_of_mem _ (List.mem_append_left _ (List.mem_append_right _ h))) (by decide +kernel))) (goodIn_sub (fun _ h => List.mem_cons_of_mem _ (List.mem_append_right _ h)) (by decide +kernel))
set_option maxRecDepth 20000 in
theorem gL_distance_X3_distance : GoodIn wsL_distance (wsV RL 66 RX3 yX3_distance wsX3_distance) := goodIn_app (goodIn_of _ (by decide +kernel)) ggL_distance_X3_distance
set_option maxRecDepth 20000 in
theorem ggL_found_X3_found : GoodIn wsL_found wsX3_found := goodIn_ca (goodIn_ca (goodIn_r _ [7, 8, 9, 10, 11, 6, 12, 13, 14, 15, 16, 17, 18, 19, 20, 21, 22, 23, 24, 25, 26, 27, 28, 29, 30, 31, 32, 33] (by decide +kernel) (by decide +kernel)) (goodIn_sub (fun _ h => List.mem_cons_of_mem _ (List.mem_append_left _ (List.mem_append_right _ h))) (by decide +kernel))) (goodIn_sub (fun _ h => List.mem_cons_of_mem _ (List.mem_append_right _ h)) (by decide +kernel))
set_option maxRecDepth 20000 in
theorem gL_found_X3_found : GoodIn wsL_found (wsV RL 69 RX3 yX3_found wsX3_found) := goodIn_app (goodIn_of _ (by decide +kernel)) ggL_found_X3_found
set_option maxRecDepth 20000 in
theorem ggL_stops_X3_stops : GoodIn wsL_stops wsX3_stops := goodIn_ca (goodIn_r _ [6, 7, 8, 9, 10, 5, 11, 12, 13, 14, 15, 16, 17, 18, 19, 20, 21, 22, 23, 24, 25, 26, 27, 28, 29, 30, 31, 32, 33, 34, 35, 36, 37, 38, 39, 40, 41, 42, 43] (by decide +kernel) (by decide +kernel)) (goodIn_sub (fun _ h => List.mem_cons_of_mem _ (List.mem_append_right _ h)) (by decide +kernel))
set_option maxRecDepth 20000 in
theorem gL_stops_X3_stops : GoodIn wsL_stops (wsV RL 73 RX3 yX3_stops wsX3_stops) := goodIn_app (goodIn_of _ (by decide +kernel)) ggL_stops_X3_stops
set_option maxRecDepth 20000 in
theorem ggL_live_X3_live : GoodIn wsL_live wsX3_live := goodIn_ca (goodIn_ca (goodIn_r _ [7, 8, 9, 10, 11, 6, 12, 13, 14, 15, 16, 17, 18, 19, 20, 21, 22, 23, 24, 25, 26, 27, 28, 29, 30, 31, 32, 33, 34, 35, 36, 37, 38, 39, 40, 41, 42, 43, 44, 45, 46] (by decide +kernel) (by decide +kernel)) (goodIn_sub (fun _ h => List.mem_cons_of_mem _ (List.mem_append_left _ (List.mem_append_right _ h))) (by decide +kernel))) (goodIn_sub (fun _ h => List.mem_cons_of_mem _ (List.mem_append_right _ h)) (by decide +kernel))
set_option maxRecDepth 20000 in
theorem gL_live_X3_live : GoodIn wsL_live (wsV RL 76 RX3 yX3_live wsX3_live) := goodIn_app (goodIn_of _ (by decide +kernel)) ggL_live_X3_live
set_option maxRecDepth 20000 in
theorem ggL_law_X3_init : GoodIn wsL_law wsX3_init := goodIn_r _ [9, 10, 11, 12, 13, 14, 15, 16, 17, 18, 19, 20, 21, 22, 23, 24, 25, 26, 27, 28, 29, 30, 31, 32, 33, 34, 35, 36, 37, 38, 39, 40, 41, 42, 43, 44, 45, 46, 47, 48, 49, 50, 51, 52, 53, 54, 55, 56, 57, 58, 555, 556, 557, 558, 559, 529, 530, 531, 532, 560, 561, 562, 563, 564, 565, 566, 567, 568, 569, 570, 571, 572, 573, 574, 575, 576, 577] (by decide +kernel) (by decide +kernel)
set_option maxRecDepth 20000 in
theorem gL_law_X3_init : GoodIn wsL_law (wsX3_init) := ggL_law_X3_init
set_option maxRecDepth 20000 in
theorem ggL_law_X4_init : GoodIn wsL_law wsX4_init := goodIn_r _ [61, 62, 11, 12, 17, 63, 64, 65, 66, 67, 68, 69, 70, 71, 43, 72, 73, 74, 75, 76, 77, 78, 79, 533, 534, 535, 536, 537, 538, 539, 540, 541, 542, 543, 544, 545, 546, 547, 548, 549, 550, 551, 552, 553, 554] (by decide +kernel) (by decide +kernel)
set_option maxRecDepth 20000 in
theorem gL_law_X4_init : GoodIn wsL_law (wsX4_init) := ggL_law_X4_init
set_option maxRecDepth 20000 in
theorem ggL_law_L_place : GoodIn wsL_law wsL_place := goodIn_ca (goodIn_ca (goodIn_r _ [83, 84, 85, 86, 87, 88, 2, 89, 90, 91, 16, 92, 93, 94, 95, 96, 97, 98, 99, 100, 22, 26, 101, 102, 103, 15, 104, 30, 105, 529, 530, 531, 532, 555, 556, 557, 558, 559, 560, 561, 562, 563, 564, 565, 566, 567, 568, 569, 570, 571, 572, 573, 574, 575, 576, 577] (by decide +kernel) (by decide +kernel)) (goodIn_sub (fun _ h => List.mem_append_left _ (List.mem_append_left _ (List.mem_append_left _ (List.mem_append_right _ h)))) (by decide +kernel))) (goodIn_sub (fun _ h => List.mem_append_left _ (List.mem_append_left _ (List.mem_append_right _ h))) (by decide +kernel))
set_option maxRecDepth 20000 in
theorem gL_law_L_place : GoodIn wsL_law (va_wsS RL 83 yL_place wsL_place) := goodIn_app (goodIn_of _ (by decide +kernel)) ggL_law_L_place
set_option maxRecDepth 20000 in
theorem ggL_law_X4_place : GoodIn wsL_law wsX4_place := goodIn_r _ [109, 110, 111, 63, 64, 65, 66, 112, 113, 114, 5, 115, 67, 73, 533, 534, 535, 536, 537, 538, 539, 540, 541, 542, 543, 544, 545, 546, 547, 548, 549, 550, 551, 552, 553, 554] (by decide +kernel) (by decide +kernel)
set_option maxRecDepth 20000 in
theorem gL_law_X4_place : GoodIn wsL_law (wsV RL 88 RX4 yX4_place wsX4_place) := goodIn_app (goodIn_of _ (by decide +kernel)) ggL_law_X4_place
set_option maxRecDepth 20000 in
theorem ggL_law_X4_thrown : GoodIn wsL_law wsX4_thrown := goodIn_r _ [119, 111, 533, 534, 535, 536, 537, 538, 539, 540, 541, 542, 543, 544, 545, 546, 547, 548, 549, 550, 551, 552, 553, 554] (by decide +kernel) (by decide +kernel)
set_option maxRecDepth 20000 in
theorem gL_law_X4_thrown : GoodIn wsL_law (wsV RL 89 RX4 yX4_thrown wsX4_thrown) := goodIn_app (goodIn_of _ (by decide +kernel)) ggL_law_X4_thrown
set_option maxRecDepth 20000 in
theorem ggL_law_L_transition : GoodIn wsL_law wsL_transition := goodIn_ca (goodIn_r _ [122, 85, 123, 124, 125, 2, 126, 90, 91, 16, 97, 98, 99, 100, 22, 26, 127, 128, 129, 15, 130, 131, 529, 530, 531, 532, 555, 556, 557, 558, 559, 560, 561, 562, 563, 564, 565, 566, 567, 568, 569, 570, 571, 572, 573, 574, 575, 576, 577] (by decide +kernel) (by decide +kernel)) (goodIn_sub (fun _ h => List.mem_append_left _ (List.mem_append_left _ (List.mem_append_left _ (List.mem_append_right _ h)))) (by decide +kernel))
set_option maxRecDepth 20000 in
theorem gL_law_L_transition : GoodIn wsL_law (va_wsS RL 92 yL_transition wsL_transition) := goodIn_app (goodIn_of _ (by decide +kernel)) ggL_law_L_transition
set_option maxRecDepth 20000 in
theorem ggL_law_X4_transition : GoodIn wsL_law wsX4_transition := goodIn_r _ [135, 136, 111, 112, 113, 114, 5, 115, 67, 73, 533, 534, 535, 536, 537, 538, 539, 540, 541, 542, 543, 544, 545, 546, 547, 548, 549, 550, 551, 552, 553, 554] (by decide +kernel) (by decide +kernel)
set_option maxRecDepth 20000 in
theorem gL_law_X4_transition : GoodIn wsL_law (wsV RL 95 RX4 yX4_transition wsX4_transition) := goodIn_app (goodIn_of _ (by decide +kernel)) ggL_law_X4_transition
set_option maxRecDepth 20000 in
theorem ggL_law_L_arc : GoodIn wsL_law wsL_arc := goodIn_ca (goodIn_ca (goodIn_r _ [139, 140, 84, 141, 142, 143, 2, 144, 16, 145, 146, 147, 148, 149, 150, 151, 152, 153, 154, 92, 93, 94, 95, 96, 97, 98, 99, 100, 22, 26, 155, 156, 157, 15, 158, 33, 32, 529, 530, 531, 532, 555, 556, 557, 558, 559, 560, 561, 562, 563, 564, 565, 566, 567, 568, 569, 570, 571, 572, 573, 574, 575, 576, 577] (by decide +kernel) (by decide +kernel)) (goodIn_sub (fun _ h => List.mem_append_left _ (List.mem_append_right _ h)) (by decide +kernel))) (goodIn_sub (fun _ h => List.mem_append_left _ (List.mem_append_left _ (List.mem_append_right _ h))) (by decide +kernel))
set_option maxRecDepth 20000 in
theorem gL_law_L_arc : GoodIn wsL_law (va_wsS RL 96 yL_arc wsL_arc) := goodIn_app (goodIn_of _ (by decide +kernel)) ggL_law_L_arc
set_option maxRecDepth 20000 in
theorem ggL_law_X4_arc : GoodIn wsL_law wsX4_arc := goodIn_r _ [162, 111, 66, 65, 163, 164, 165, 5, 166, 110, 167, 168, 169, 170, 136, 112, 113, 114, 115, 67, 73, 533, 534, 535, 536, 537, 538, 539, 540, 541, 542, 543, 544, 545, 546, 547, 548, 549, 550, 551, 552, 553, 554] (by decide +kernel) (by decide +kernel)
set_option maxRecDepth 20000 in
theorem gL_law_X4_arc : GoodIn wsL_law (wsV RL 99 RX4 yX4_arc wsX4_arc) := goodIn_app (goodIn_of _ (by decide +kernel)) ggL_law_X4_arc
set_option maxRecDepth 20000 in
theorem ggL_law_L_tokens : GoodIn wsL_law wsL_tokens := goodIn_ca (goodIn_ca (goodIn_r _ [173, 140, 84, 174, 175, 176, 2, 177, 16, 145, 146, 147, 148, 149, 150, 92, 93, 94, 95, 96, 97, 98, 99, 100, 22, 26, 529, 530, 531, 532, 555, 556, 557, 558, 559, 560, 561, 562, 563, 564, 565, 566, 567, 568, 569, 570, 571, 572, 573, 574, 575, 576, 577] (by decide +kernel) (by decide +kernel)) (goodIn_sub (fun _ h => List.mem_append_left _ (List.mem_append_right _ h)) (by decide +kernel))) (goodIn_sub (fun _ h => List.mem_append_left _ (List.mem_append_left _ (List.mem_append_right _ h))) (by decide +kernel))
set_option maxRecDepth 20000 in
theorem gL_law_L_tokens : GoodIn wsL_law (va_wsS RL 100 yL_tokens wsL_tokens) := goodIn_app (goodIn_of _ (by decide +kernel)) ggL_law_L_tokens
set_option maxRecDepth 20000 in
theorem ggL_law_X4_tokens : GoodIn wsL_law wsX4_tokens := goodIn_r _ [181, 111, 63, 163, 164, 165, 5, 166, 110, 112, 113, 114, 115, 67, 73, 533, 534, 535, 536, 537, 538, 539, 540, 541, 542, 543, 544, 545, 546, 547, 548, 549, 550, 551, 552, 553, 554] (by decide +kernel) (by decide +kernel)
end
section
set_option maxRecDepth 20000 in
theorem gL_law_X4_tokens : GoodIn wsL_law (wsV RL 103 RX4 yX4_tokens wsX4_tokens) := goodIn_app (goodIn_of _ (by decide +kernel)) ggL_law_X4_tokens
set_option maxRecDepth 20000 in
theorem ggL_law_L_explore : GoodIn wsL_law wsL_explore := goodIn_ca (goodIn_r _ [184, 185, 186, 187, 188, 2, 189, 190, 191, 22, 97, 98, 99, 100, 26, 192, 193, 194, 21, 195, 44, 45, 41, 40, 39, 196, 197, 198, 199, 200, 42, 201, 202, 203, 204, 205, 206, 207, 208, 209, 210, 15, 211, 32, 212, 213, 214, 215, 216, 217, 218, 219, 220, 221, 222, 33, 223, 224, 225, 226, 227, 228, 229, 230, 231, 232, 233, 234, 235, 236, 237, 238, 239, 240, 241, 242, 529, 530, 531, 532, 560, 561, 562, 563, 564, 565, 566, 567, 568, 569, 570, 571, 572, 573, 574, 575, 576, 577, 555, 556, 557, 558, 559] (by decide +kernel) (by decide +kernel)) (goodIn_sub (fun _ h => List.mem_append_right _ h) (by decide +kernel))
set_option maxRecDepth 20000 in
theorem gL_law_L_explore : GoodIn wsL_law (va_wsS RL 104 yL_explore wsL_explore) := goodIn_app (goodIn_of _ (by decide +kernel)) ggL_law_L_explore
set_option maxRecDepth 20000 in
theorem ggL_law_X4_explore : GoodIn wsL_law wsX4_explore := goodIn_r _ [246, 111, 67, 247, 248, 110, 79, 63, 72, 71, 136, 69, 112, 113, 114, 5, 115, 73, 249, 250, 251, 252, 68, 70, 253, 254, 255, 256, 257, 258, 259, 260, 65, 261, 262, 263, 264, 265, 66, 266, 267, 268, 269, 533, 534, 535, 536, 537, 538, 539, 540, 541, 542, 543, 544, 545, 546, 547, 548, 549, 550, 551, 552, 553, 554] (by decide +kernel) (by decide +kernel)
set_option maxRecDepth 20000 in
theorem gL_law_X4_explore : GoodIn wsL_law (wsV RL 106 RX4 yX4_explore wsX4_explore) := goodIn_app (goodIn_of _ (by decide +kernel)) ggL_law_X4_explore
set_option maxRecDepth 20000 in
theorem ggL_law_L_count : GoodIn wsL_law wsL_count := goodIn_ca (goodIn_ca (goodIn_r _ [272, 85, 140, 273, 274, 275, 2, 276, 22, 277, 278, 279, 280, 90, 91, 281, 282, 283, 284, 149, 150, 145, 146, 147, 148, 16, 285, 286, 287, 288, 529, 530, 531, 532, 560, 561, 562, 563, 564, 565, 566, 567, 568, 555, 556, 557, 558, 559] (by decide +kernel) (by decide +kernel)) (goodIn_sub (fun _ h => List.mem_append_left _ (List.mem_append_left _ (List.mem_append_left _ (List.mem_append_right _ h)))) (by decide +kernel))) (goodIn_sub (fun _ h => List.mem_append_left _ (List.mem_append_right _ h)) (by decide +kernel))
set_option maxRecDepth 20000 in
theorem gL_law_L_count : GoodIn wsL_law (va_wsS RL 107 yL_count wsL_count) := goodIn_app (goodIn_of _ (by decide +kernel)) ggL_law_L_count
set_option maxRecDepth 20000 in
theorem ggL_law_X4_count : GoodIn wsL_law wsX4_count := goodIn_r _ [292, 67, 111, 68, 163, 164, 165, 5, 166, 110, 293, 294, 295, 265, 533, 534, 535, 536, 537, 538, 539, 540, 541, 542, 543, 544, 545, 546, 547, 548, 549, 550, 551, 552, 553, 554] (by decide +kernel) (by decide +kernel)
set_option maxRecDepth 20000 in
theorem gL_law_X4_count : GoodIn wsL_law (wsV RL 110 RX4 yX4_count wsX4_count) := goodIn_app (goodIn_of _ (by decide +kernel)) ggL_law_X4_count
set_option maxRecDepth 20000 in
theorem ggL_law_L_node : GoodIn wsL_law wsL_node := goodIn_ca (goodIn_ca (goodIn_r _ [298, 85, 140, 299, 300, 301, 2, 302, 22, 277, 278, 279, 280, 90, 91, 281, 282, 283, 284, 149, 150, 529, 530, 531, 532, 560, 561, 562, 563, 564, 565, 566, 567, 568] (by decide +kernel) (by decide +kernel)) (goodIn_sub (fun _ h => List.mem_append_left _ (List.mem_append_left _ (List.mem_append_left _ (List.mem_append_right _ h)))) (by decide +kernel))) (goodIn_sub (fun _ h => List.mem_append_left _ (List.mem_append_right _ h)) (by decide +kernel))
set_option maxRecDepth 20000 in
theorem gL_law_L_node : GoodIn wsL_law (va_wsS RL 111 yL_node wsL_node) := goodIn_app (goodIn_of _ (by decide +kernel)) ggL_law_L_node
set_option maxRecDepth 20000 in
theorem ggL_law_X4_node : GoodIn wsL_law wsX4_node := goodIn_r _ [306, 67, 111, 72, 69, 70, 533, 534, 535, 536, 537, 538, 539, 540, 541, 542, 543, 544, 545, 546, 547, 548, 549, 550, 551, 552, 553, 554] (by decide +kernel) (by decide +kernel)
set_option maxRecDepth 20000 in
theorem gL_law_X4_node : GoodIn wsL_law (wsV RL 113 RX4 yX4_node wsX4_node) := goodIn_app (goodIn_of _ (by decide +kernel)) ggL_law_X4_node
set_option maxRecDepth 20000 in
theorem ggL_law_L_bound : GoodIn wsL_law wsL_bound := goodIn_ca (goodIn_ca (goodIn_r _ [309, 85, 140, 310, 311, 312, 2, 313, 22, 277, 278, 279, 280, 90, 91, 145, 146, 147, 148, 149, 150, 16, 314, 315, 316, 21, 317, 196, 39, 318, 319, 320, 321, 285, 286, 287, 288, 529, 530, 531, 532, 560, 561, 562, 563, 564, 565, 566, 567, 568, 555, 556, 557, 558, 559] (by decide +kernel) (by decide +kernel)) (goodIn_sub (fun _ h => List.mem_append_left _ (List.mem_append_left _ (List.mem_append_left _ (List.mem_append_right _ h)))) (by decide +kernel))) (goodIn_sub (fun _ h => List.mem_append_left _ (List.mem_append_right _ h)) (by decide +kernel))
set_option maxRecDepth 20000 in
theorem gL_law_L_bound : GoodIn wsL_law (va_wsS RL 114 yL_bound wsL_bound) := goodIn_app (goodIn_of _ (by decide +kernel)) ggL_law_L_bound
set_option maxRecDepth 20000 in
theorem ggL_law_X4_bound : GoodIn wsL_law wsX4_bound := goodIn_r _ [325, 67, 111, 163, 164, 165, 5, 166, 110, 326, 327, 328, 329, 68, 293, 294, 295, 265, 533, 534, 535, 536, 537, 538, 539, 540, 541, 542, 543, 544, 545, 546, 547, 548, 549, 550, 551, 552, 553, 554] (by decide +kernel) (by decide +kernel)
set_option maxRecDepth 20000 in
theorem gL_law_X4_bound : GoodIn wsL_law (wsV RL 116 RX4 yX4_bound wsX4_bound) := goodIn_app (goodIn_of _ (by decide +kernel)) ggL_law_X4_bound
set_option maxRecDepth 20000 in
theorem ggL_law_L_want : GoodIn wsL_law wsL_want := goodIn_ca (goodIn_ca (goodIn_r _ [332, 140, 84, 333, 334, 335, 2, 336, 18, 145, 146, 147, 148, 149, 150, 16, 92, 93, 94, 95, 96, 529, 530, 531, 532, 555, 556, 557, 558, 559] (by decide +kernel) (by decide +kernel)) (goodIn_sub (fun _ h => List.mem_append_left _ (List.mem_append_right _ h)) (by decide +kernel))) (goodIn_sub (fun _ h => List.mem_append_left _ (List.mem_append_left _ (List.mem_append_right _ h))) (by decide +kernel))
set_option maxRecDepth 20000 in
theorem gL_law_L_want : GoodIn wsL_law (va_wsS RL 117 yL_want wsL_want) := goodIn_app (goodIn_of _ (by decide +kernel)) ggL_law_L_want
set_option maxRecDepth 20000 in
theorem ggL_law_X4_want : GoodIn wsL_law wsX4_want := goodIn_r _ [340, 111, 64, 163, 164, 165, 5, 166, 110, 533, 534, 535, 536, 537, 538, 539, 540, 541, 542, 543, 544, 545, 546, 547, 548, 549, 550, 551, 552, 553, 554] (by decide +kernel) (by decide +kernel)
set_option maxRecDepth 20000 in
theorem gL_law_X4_want : GoodIn wsL_law (wsV RL 119 RX4 yX4_want wsX4_want) := goodIn_app (goodIn_of _ (by decide +kernel)) ggL_law_X4_want
set_option maxRecDepth 20000 in
theorem ggL_law_L_covered : GoodIn wsL_law wsL_covered := goodIn_ca (goodIn_r _ [343, 85, 344, 345, 346, 2, 347, 22, 18, 277, 278, 279, 280, 90, 91, 348, 349, 350, 21, 351, 196, 39, 212, 213, 529, 530, 531, 532, 560, 561, 562, 563, 564, 565, 566, 567, 568] (by decide +kernel) (by decide +kernel)) (goodIn_sub (fun _ h => List.mem_append_left _ (List.mem_append_left _ (List.mem_append_left _ (List.mem_append_right _ h)))) (by decide +kernel))
set_option maxRecDepth 20000 in
theorem gL_law_L_covered : GoodIn wsL_law (va_wsS RL 120 yL_covered wsL_covered) := goodIn_app (goodIn_of _ (by decide +kernel)) ggL_law_L_covered
set_option maxRecDepth 20000 in
theorem ggL_law_X4_covered : GoodIn wsL_law wsX4_covered := goodIn_r _ [355, 67, 111, 110, 68, 64, 533, 534, 535, 536, 537, 538, 539, 540, 541, 542, 543, 544, 545, 546, 547, 548, 549, 550, 551, 552, 553, 554] (by decide +kernel) (by decide +kernel)
set_option maxRecDepth 20000 in
theorem gL_law_X4_covered : GoodIn wsL_law (wsV RL 122 RX4 yX4_covered wsX4_covered) := goodIn_app (goodIn_of _ (by decide +kernel)) ggL_law_X4_covered
set_option maxRecDepth 20000 in
theorem ggL_law_L_possible : GoodIn wsL_law wsL_possible := goodIn_ca (goodIn_ca (goodIn_r _ [358, 85, 140, 359, 360, 361, 2, 362, 22, 277, 278, 279, 280, 90, 91, 151, 152, 153, 154, 149, 150, 16, 363, 364, 365, 21, 366, 45, 367, 349, 350, 351, 196, 39, 212, 213, 529, 530, 531, 532, 560, 561, 562, 563, 564, 565, 566, 567, 568, 555, 556, 557, 558, 559] (by decide +kernel) (by decide +kernel)) (goodIn_sub (fun _ h => List.mem_append_left _ (List.mem_append_left _ (List.mem_append_left _ (List.mem_append_right _ h)))) (by decide +kernel))) (goodIn_sub (fun _ h => List.mem_append_left _ (List.mem_append_right _ h)) (by decide +kernel))
set_option maxRecDepth 20000 in
theorem gL_law_L_possible : GoodIn wsL_law (va_wsS RL 123 yL_possible wsL_possible) := goodIn_app (goodIn_of _ (by decide +kernel)) ggL_law_L_possible
set_option maxRecDepth 20000 in
theorem ggL_law_X4_possible : GoodIn wsL_law wsX4_possible := goodIn_r _ [371, 67, 111, 167, 168, 169, 5, 170, 136, 257, 258, 259, 260, 110, 68, 65, 533, 534, 535, 536, 537, 538, 539, 540, 541, 542, 543, 544, 545, 546, 547, 548, 549, 550, 551, 552, 553, 554] (by decide +kernel) (by decide +kernel)
set_option maxRecDepth 20000 in
theorem gL_law_X4_possible : GoodIn wsL_law (wsV RL 125 RX4 yX4_possible wsX4_possible) := goodIn_app (goodIn_of _ (by decide +kernel)) ggL_law_X4_possible
set_option maxRecDepth 20000 in
theorem ggL_law_L_growth : GoodIn wsL_law wsL_growth := goodIn_ca (goodIn_ca (goodIn_r _ [374, 85, 84, 375, 376, 377, 2, 378, 95, 96, 22, 277, 278, 279, 280, 90, 91, 379, 380, 381, 21, 382, 201, 383, 384, 385, 386, 42, 40, 41, 529, 530, 531, 532, 560, 561, 562, 563, 564, 565, 566, 567, 568] (by decide +kernel) (by decide +kernel)) (goodIn_sub (fun _ h => List.mem_append_left _ (List.mem_append_left _ (List.mem_append_right _ h))) (by decide +kernel))) (goodIn_sub (fun _ h => List.mem_append_left _ (List.mem_append_left _ (List.mem_append_left _ (List.mem_append_right _ h)))) (by decide +kernel))
set_option maxRecDepth 20000 in
theorem gL_law_L_growth : GoodIn wsL_law (va_wsS RL 126 yL_growth wsL_growth) := goodIn_app (goodIn_of _ (by decide +kernel)) ggL_law_L_growth
set_option maxRecDepth 20000 in
theorem ggL_law_X4_growth : GoodIn wsL_law wsX4_growth := goodIn_r _ [390, 67, 111, 247, 248, 69, 70, 391, 392, 393, 5, 394, 533, 534, 535, 536, 537, 538, 539, 540, 541, 542, 543, 544, 545, 546, 547, 548, 549, 550, 551, 552, 553, 554] (by decide +kernel) (by decide +kernel)
set_option maxRecDepth 20000 in
theorem gL_law_X4_growth : GoodIn wsL_law (wsV RL 128 RX4 yX4_growth wsX4_growth) := goodIn_app (goodIn_of _ (by decide +kernel)) ggL_law_X4_growth
set_option maxRecDepth 20000 in
theorem ggL_law_L_graph : GoodIn wsL_law wsL_graph := goodIn_ca (goodIn_ca (goodIn_r _ [397, 85, 185, 398, 399, 400, 2, 401, 90, 91, 190, 191, 22, 26, 277, 278, 279, 280, 379, 380, 381, 21, 382, 201, 402, 403, 404, 25, 405, 57, 58, 406, 202, 203, 204, 205, 206, 207, 407, 408, 409, 410, 51, 53, 54, 55, 411, 412, 413, 414, 52, 415, 209, 210, 15, 211, 32, 212, 213, 416, 219, 220, 221, 222, 33, 417, 418, 419, 420, 227, 228, 421, 422, 423, 424, 56, 425, 426, 427, 428, 429, 430, 431, 432, 529, 530, 531, 532, 569, 570, 571, 572, 573, 574, 575, 576, 577, 560, 561, 562, 563, 564, 565, 566, 567, 568, 555, 556, 557, 558, 559] (by decide +kernel) (by decide +kernel)) (goodIn_sub (fun _ h => List.mem_append_left _ (List.mem_append_left _ (List.mem_append_left _ (List.mem_append_right _ h)))) (by decide +kernel))) (goodIn_sub (fun _ h => List.mem_append_right _ h) (by decide +kernel))
set_option maxRecDepth 20000 in
theorem gL_law_L_graph : GoodIn wsL_law (va_wsS RL 129 yL_graph wsL_graph) := goodIn_app (goodIn_of _ (by decide +kernel)) ggL_law_L_graph
set_option maxRecDepth 20000 in
theorem ggL_law_X4_graph : GoodIn wsL_law wsX4_graph := goodIn_r _ [436, 67, 111, 73, 110, 79, 63, 136, 75, 74, 65, 66, 437, 438, 439, 5, 440, 265, 326, 327, 328, 329, 68, 441, 442, 443, 444, 76, 77, 445, 446, 447, 448, 449, 450, 451, 452, 533, 534, 535, 536, 537, 538, 539, 540, 541, 542, 543, 544, 545, 546, 547, 548, 549, 550, 551, 552, 553, 554] (by decide +kernel) (by decide +kernel)
set_option maxRecDepth 20000 in
theorem gL_law_X4_graph : GoodIn wsL_law (wsV RL 131 RX4 yX4_graph wsX4_graph) := goodIn_app (goodIn_of _ (by decide +kernel)) ggL_law_X4_graph
set_option maxRecDepth 20000 in
theorem ggL_law_L_reached : GoodIn wsL_law wsL_reached := goodIn_ca (goodIn_r _ [455, 85, 456, 457, 458, 2, 459, 26, 18, 460, 461, 462, 463, 90, 91, 464, 418, 419, 25, 420, 406, 51, 227, 228, 529, 530, 531, 532, 569, 570, 571, 572, 573, 574, 575, 576, 577] (by decide +kernel) (by decide +kernel)) (goodIn_sub (fun _ h => List.mem_append_left _ (List.mem_append_left _ (List.mem_append_left _ (List.mem_append_right _ h)))) (by decide +kernel))
set_option maxRecDepth 20000 in
theorem gL_law_L_reached : GoodIn wsL_law (va_wsS RL 132 yL_reached wsL_reached) := goodIn_app (goodIn_of _ (by decide +kernel)) ggL_law_L_reached
set_option maxRecDepth 20000 in
theorem ggL_law_X4_reached : GoodIn wsL_law wsX4_reached := goodIn_r _ [468, 73, 111, 110, 79, 64, 449, 450, 451, 5, 452, 74, 533, 534, 535, 536, 537, 538, 539, 540, 541, 542, 543, 544, 545, 546, 547, 548, 549, 550, 551, 552, 553, 554] (by decide +kernel) (by decide +kernel)
set_option maxRecDepth 20000 in
theorem gL_law_X4_reached : GoodIn wsL_law (wsV RL 134 RX4 yX4_reached wsX4_reached) := goodIn_app (goodIn_of _ (by decide +kernel)) ggL_law_X4_reached
set_option maxRecDepth 20000 in
theorem ggL_law_L_distance : GoodIn wsL_law wsL_distance := goodIn_ca (goodIn_ca (goodIn_r _ [471, 85, 140, 472, 473, 474, 2, 475, 26, 460, 461, 462, 463, 90, 91, 476, 477, 478, 479, 149, 150, 529, 530, 531, 532, 569, 570, 571, 572, 573, 574, 575, 576, 577] (by decide +kernel) (by decide +kernel)) (goodIn_sub (fun _ h => List.mem_append_left _ (List.mem_append_left _ (List.mem_append_left _ (List.mem_append_right _ h)))) (by decide +kernel))) (goodIn_sub (fun _ h => List.mem_append_left _ (List.mem_append_right _ h)) (by decide +kernel))
set_option maxRecDepth 20000 in
theorem gL_law_L_distance : GoodIn wsL_law (va_wsS RL 135 yL_distance wsL_distance) := goodIn_app (goodIn_of _ (by decide +kernel)) ggL_law_L_distance
set_option maxRecDepth 20000 in
theorem ggL_law_X4_distance : GoodIn wsL_law wsX4_distance := goodIn_r _ [483, 76, 484, 485, 486, 5, 487, 73, 111, 533, 534, 535, 536, 537, 538, 539, 540, 541, 542, 543, 544, 545, 546, 547, 548, 549, 550, 551, 552, 553, 554] (by decide +kernel) (by decide +kernel)
set_option maxRecDepth 20000 in
theorem gL_law_X4_distance : GoodIn wsL_law (wsV RL 137 RX4 yX4_distance wsX4_distance) := goodIn_app (goodIn_of _ (by decide +kernel)) ggL_law_X4_distance
set_option maxRecDepth 20000 in
theorem ggL_law_L_found : GoodIn wsL_law wsL_found := goodIn_ca (goodIn_ca (goodIn_r _ [490, 85, 140, 491, 492, 493, 2, 494, 26, 460, 461, 462, 463, 90, 91, 476, 477, 478, 479, 149, 150, 529, 530, 531, 532, 569, 570, 571, 572, 573, 574, 575, 576, 577] (by decide +kernel) (by decide +kernel)) (goodIn_sub (fun _ h => List.mem_append_left _ (List.mem_append_left _ (List.mem_append_left _ (List.mem_append_right _ h)))) (by decide +kernel))) (goodIn_sub (fun _ h => List.mem_append_left _ (List.mem_append_right _ h)) (by decide +kernel))
set_option maxRecDepth 20000 in
theorem gL_law_L_found : GoodIn wsL_law (va_wsS RL 138 yL_found wsL_found) := goodIn_app (goodIn_of _ (by decide +kernel)) ggL_law_L_found
set_option maxRecDepth 20000 in
theorem ggL_law_X4_found : GoodIn wsL_law wsX4_found := goodIn_r _ [498, 76, 77, 484, 485, 486, 5, 487, 73, 111, 533, 534, 535, 536, 537, 538, 539, 540, 541, 542, 543, 544, 545, 546, 547, 548, 549, 550, 551, 552, 553, 554] (by decide +kernel) (by decide +kernel)
set_option maxRecDepth 20000 in
theorem gL_law_X4_found : GoodIn wsL_law (wsV RL 141 RX4 yX4_found wsX4_found) := goodIn_app (goodIn_of _ (by decide +kernel)) ggL_law_X4_found
set_option maxRecDepth 20000 in
theorem ggL_law_L_stops : GoodIn wsL_law wsL_stops := goodIn_ca (goodIn_r _ [501, 85, 502, 503, 504, 2, 505, 26, 460, 461, 462, 463, 90, 91, 506, 507, 508, 25, 509, 406, 425, 426, 427, 428, 58, 52, 529, 530, 531, 532, 569, 570, 571, 572, 573, 574, 575, 576, 577, 555, 556, 557, 558, 559] (by decide +kernel) (by decide +kernel)) (goodIn_sub (fun _ h => List.mem_append_left _ (List.mem_append_left _ (List.mem_append_left _ (List.mem_append_right _ h)))) (by decide +kernel))
set_option maxRecDepth 20000 in
theorem gL_law_L_stops : GoodIn wsL_law (va_wsS RL 142 yL_stops wsL_stops) := goodIn_app (goodIn_of _ (by decide +kernel)) ggL_law_L_stops
set_option maxRecDepth 20000 in
theorem ggL_law_X4_stops : GoodIn wsL_law wsX4_stops := goodIn_r _ [513, 73, 111, 136, 75, 533, 534, 535, 536, 537, 538, 539, 540, 541, 542, 543, 544, 545, 546, 547, 548, 549, 550, 551, 552, 553, 554] (by decide +kernel) (by decide +kernel)
set_option maxRecDepth 20000 in
theorem gL_law_X4_stops : GoodIn wsL_law (wsV RL 144 RX4 yX4_stops wsX4_stops) := goodIn_app (goodIn_of _ (by decide +kernel)) ggL_law_X4_stops
set_option maxRecDepth 20000 in
theorem ggL_law_L_live : GoodIn wsL_law wsL_live := goodIn_ca (goodIn_ca (goodIn_r _ [516, 85, 140, 517, 518, 519, 2, 520, 26, 460, 461, 462, 463, 90, 91, 151, 152, 153, 154, 149, 150, 16, 521, 522, 523, 25, 524, 406, 56, 529, 530, 531, 532, 569, 570, 571, 572, 573, 574, 575, 576, 577, 555, 556, 557, 558, 559] (by decide +kernel) (by decide +kernel)) (goodIn_sub (fun _ h => List.mem_append_left _ (List.mem_append_left _ (List.mem_append_left _ (List.mem_append_right _ h)))) (by decide +kernel))) (goodIn_sub (fun _ h => List.mem_append_left _ (List.mem_append_right _ h)) (by decide +kernel))
set_option maxRecDepth 20000 in
theorem gL_law_L_live : GoodIn wsL_law (va_wsS RL 145 yL_live wsL_live) := goodIn_app (goodIn_of _ (by decide +kernel)) ggL_law_L_live
set_option maxRecDepth 20000 in
theorem ggL_law_X4_live : GoodIn wsL_law wsX4_live := goodIn_r _ [528, 73, 111, 78, 75, 136, 167, 168, 169, 5, 170, 533, 534, 535, 536, 537, 538, 539, 540, 541, 542, 543, 544, 545, 546, 547, 548, 549, 550, 551, 552, 553, 554] (by decide +kernel) (by decide +kernel)
set_option maxRecDepth 20000 in
theorem gL_law_X4_live : GoodIn wsL_law (wsV RL 147 RX4 yX4_live wsX4_live) := goodIn_app (goodIn_of _ (by decide +kernel)) ggL_law_X4_live
abbrev vwCl : List vw_C := [(RX0, TX0, 9), (RX1, TX1, 5), (RX2, TX2, 9), (RX3, TX3, 4), (RX4, TX4, 22)]
end
section
theorem dX0_init_0 : decode cX0_init 0 = .ok (.aload_n 0, 1) := by decide +kernel
theorem dX0_init_1 : decode cX0_init 1 = .ok (.invokespecial 3, 3) := by decide +kernel
theorem dX0_init_4 : decode cX0_init 4 = .ok (.aload_n 0, 1) := by decide +kernel
theorem dX0_init_5 : decode cX0_init 5 = .ok (.bipush 40, 2) := by decide +kernel
theorem dX0_init_7 : decode cX0_init 7 = .ok (.bipush 6, 2) := by decide +kernel
theorem dX0_init_9 : decode cX0_init 9 = .ok (.multianewarray 9 2, 4) := by decide +kernel
theorem dX0_init_13 : decode cX0_init 13 = .ok (.putfield 11, 3) := by decide +kernel
theorem dX0_init_16 : decode cX0_init 16 = .ok (.aload_n 0, 1) := by decide +kernel
theorem dX0_init_17 : decode cX0_init 17 = .ok (.bipush 40, 2) := by decide +kernel
theorem dX0_init_19 : decode cX0_init 19 = .ok (.bipush 8, 2) := by decide +kernel
theorem dX0_init_21 : decode cX0_init 21 = .ok (.multianewarray 9 2, 4) := by decide +kernel
theorem dX0_init_25 : decode cX0_init 25 = .ok (.putfield 16, 3) := by decide +kernel
theorem dX0_init_28 : decode cX0_init 28 = .ok (.aload_n 0, 1) := by decide +kernel
theorem dX0_init_29 : decode cX0_init 29 = .ok (.bipush 40, 2) := by decide +kernel
theorem dX0_init_31 : decode cX0_init 31 = .ok (.newarray .int, 2) := by decide +kernel
theorem dX0_init_33 : decode cX0_init 33 = .ok (.putfield 19, 3) := by decide +kernel
theorem dX0_init_36 : decode cX0_init 36 = .ok (.aload_n 0, 1) := by decide +kernel
theorem dX0_init_37 : decode cX0_init 37 = .ok (.bipush 40, 2) := by decide +kernel
theorem dX0_init_39 : decode cX0_init 39 = .ok (.newarray .int, 2) := by decide +kernel
theorem dX0_init_41 : decode cX0_init 41 = .ok (.putfield 23, 3) := by decide +kernel
theorem dX0_init_44 : decode cX0_init 44 = .ok (.aload_n 0, 1) := by decide +kernel
theorem dX0_init_45 : decode cX0_init 45 = .ok (.bipush 40, 2) := by decide +kernel
theorem dX0_init_47 : decode cX0_init 47 = .ok (.newarray .int, 2) := by decide +kernel
theorem dX0_init_49 : decode cX0_init 49 = .ok (.putfield 26, 3) := by decide +kernel
theorem dX0_init_52 : decode cX0_init 52 = .ok (.aload_n 0, 1) := by decide +kernel
theorem dX0_init_53 : decode cX0_init 53 = .ok (.bipush 40, 2) := by decide +kernel
theorem dX0_init_55 : decode cX0_init 55 = .ok (.newarray .int, 2) := by decide +kernel
theorem dX0_init_57 : decode cX0_init 57 = .ok (.putfield 29, 3) := by decide +kernel
theorem dX0_init_60 : decode cX0_init 60 = .ok (.aload_n 0, 1) := by decide +kernel
theorem dX0_init_61 : decode cX0_init 61 = .ok (.bipush 6, 2) := by decide +kernel
theorem dX0_init_63 : decode cX0_init 63 = .ok (.newarray .int, 2) := by decide +kernel
theorem dX0_init_65 : decode cX0_init 65 = .ok (.putfield 32, 3) := by decide +kernel
theorem dX0_init_68 : decode cX0_init 68 = .ok (.aload_n 0, 1) := by decide +kernel
theorem dX0_init_69 : decode cX0_init 69 = .ok (.aload_n 1, 1) := by decide +kernel
theorem dX0_init_70 : decode cX0_init 70 = .ok (.putfield 35, 3) := by decide +kernel
theorem dX0_init_73 : decode cX0_init 73 = .ok (.return_, 1) := by decide +kernel
theorem dX0_build_0 : decode cX0_build 0 = .ok (.aload_n 0, 1) := by decide +kernel
theorem dX0_build_1 : decode cX0_build 1 = .ok (.getfield 32, 3) := by decide +kernel
theorem dX0_build_4 : decode cX0_build 4 = .ok (.aload_n 0, 1) := by decide +kernel
theorem dX0_build_5 : decode cX0_build 5 = .ok (.getfield 35, 3) := by decide +kernel
theorem dX0_build_8 : decode cX0_build 8 = .ok (.getfield 39, 3) := by decide +kernel
theorem dX0_build_11 : decode cX0_build 11 = .ok (.invokestatic 44, 3) := by decide +kernel
theorem dX0_build_14 : decode cX0_build 14 = .ok (.aload_n 0, 1) := by decide +kernel
theorem dX0_build_15 : decode cX0_build 15 = .ok (.iconst 0, 1) := by decide +kernel
theorem dX0_build_16 : decode cX0_build 16 = .ok (.putfield 48, 3) := by decide +kernel
theorem dX0_build_19 : decode cX0_build 19 = .ok (.aload_n 0, 1) := by decide +kernel
theorem dX0_build_20 : decode cX0_build 20 = .ok (.bipush (-2), 2) := by decide +kernel
theorem dX0_build_22 : decode cX0_build 22 = .ok (.bipush (-2), 2) := by decide +kernel
theorem dX0_build_24 : decode cX0_build 24 = .ok (.iconst 0, 1) := by decide +kernel
theorem dX0_build_25 : decode cX0_build 25 = .ok (.invokevirtual 52, 3) := by decide +kernel
theorem dX0_build_28 : decode cX0_build 28 = .ok (.pop, 1) := by decide +kernel
theorem dX0_build_29 : decode cX0_build 29 = .ok (.iconst 0, 1) := by decide +kernel
theorem dX0_build_30 : decode cX0_build 30 = .ok (.istore_n 1, 1) := by decide +kernel
theorem dX0_build_31 : decode cX0_build 31 = .ok (.iload_n 1, 1) := by decide +kernel
theorem dX0_build_32 : decode cX0_build 32 = .ok (.bipush 40, 2) := by decide +kernel
theorem dX0_build_34 : decode cX0_build 34 = .ok (.if_icmp .ge 32, 3) := by decide +kernel
theorem dX0_build_37 : decode cX0_build 37 = .ok (.iload_n 1, 1) := by decide +kernel
theorem dX0_build_38 : decode cX0_build 38 = .ok (.aload_n 0, 1) := by decide +kernel
theorem dX0_build_39 : decode cX0_build 39 = .ok (.getfield 48, 3) := by decide +kernel
theorem dX0_build_42 : decode cX0_build 42 = .ok (.if_icmp .ge 24, 3) := by decide +kernel
theorem dX0_build_45 : decode cX0_build 45 = .ok (.aload_n 0, 1) := by decide +kernel
theorem dX0_build_46 : decode cX0_build 46 = .ok (.iload_n 1, 1) := by decide +kernel
theorem dX0_build_47 : decode cX0_build 47 = .ok (.invokevirtual 56, 3) := by decide +kernel
theorem dX0_build_50 : decode cX0_build 50 = .ok (.ifCond .ne 10, 3) := by decide +kernel
theorem dX0_build_53 : decode cX0_build 53 = .ok (.aload_n 0, 1) := by decide +kernel
theorem dX0_build_54 : decode cX0_build 54 = .ok (.iconst 0, 1) := by decide +kernel
theorem dX0_build_55 : decode cX0_build 55 = .ok (.putfield 48, 3) := by decide +kernel
theorem dX0_build_58 : decode cX0_build 58 = .ok (.iconst 0, 1) := by decide +kernel
theorem dX0_build_59 : decode cX0_build 59 = .ok (.ireturn, 1) := by decide +kernel
theorem dX0_build_60 : decode cX0_build 60 = .ok (.iinc 1 1, 3) := by decide +kernel
theorem dX0_build_63 : decode cX0_build 63 = .ok (.goto (-32), 3) := by decide +kernel
theorem dX0_build_66 : decode cX0_build 66 = .ok (.aload_n 0, 1) := by decide +kernel
theorem dX0_build_67 : decode cX0_build 67 = .ok (.invokevirtual 60, 3) := by decide +kernel
theorem dX0_build_70 : decode cX0_build 70 = .ok (.iconst 1, 1) := by decide +kernel
theorem dX0_build_71 : decode cX0_build 71 = .ok (.ireturn, 1) := by decide +kernel
theorem dX0_follow_0 : decode cX0_follow 0 = .ok (.iconst 0, 1) := by decide +kernel
theorem dX0_follow_1 : decode cX0_follow 1 = .ok (.istore_n 2, 1) := by decide +kernel
theorem dX0_follow_2 : decode cX0_follow 2 = .ok (.iload_n 2, 1) := by decide +kernel
theorem dX0_follow_3 : decode cX0_follow 3 = .ok (.aload_n 0, 1) := by decide +kernel
theorem dX0_follow_4 : decode cX0_follow 4 = .ok (.getfield 35, 3) := by decide +kernel
theorem dX0_follow_7 : decode cX0_follow 7 = .ok (.getfield 63, 3) := by decide +kernel
theorem dX0_follow_10 : decode cX0_follow 10 = .ok (.if_icmp .ge 104, 3) := by decide +kernel
theorem dX0_follow_13 : decode cX0_follow 13 = .ok (.aload_n 0, 1) := by decide +kernel
theorem dX0_follow_14 : decode cX0_follow 14 = .ok (.getfield 16, 3) := by decide +kernel
theorem dX0_follow_17 : decode cX0_follow 17 = .ok (.iload_n 1, 1) := by decide +kernel
theorem dX0_follow_18 : decode cX0_follow 18 = .ok (.aaload, 1) := by decide +kernel
theorem dX0_follow_19 : decode cX0_follow 19 = .ok (.iload_n 2, 1) := by decide +kernel
theorem dX0_follow_20 : decode cX0_follow 20 = .ok (.bipush (-2), 2) := by decide +kernel
theorem dX0_follow_22 : decode cX0_follow 22 = .ok (.iastore, 1) := by decide +kernel
theorem dX0_follow_23 : decode cX0_follow 23 = .ok (.aload_n 0, 1) := by decide +kernel
theorem dX0_follow_24 : decode cX0_follow 24 = .ok (.getfield 35, 3) := by decide +kernel
theorem dX0_follow_27 : decode cX0_follow 27 = .ok (.aload_n 0, 1) := by decide +kernel
theorem dX0_follow_28 : decode cX0_follow 28 = .ok (.getfield 11, 3) := by decide +kernel
theorem dX0_follow_31 : decode cX0_follow 31 = .ok (.iload_n 1, 1) := by decide +kernel
theorem dX0_follow_32 : decode cX0_follow 32 = .ok (.aaload, 1) := by decide +kernel
theorem dX0_follow_33 : decode cX0_follow 33 = .ok (.iload_n 2, 1) := by decide +kernel
theorem dX0_follow_34 : decode cX0_follow 34 = .ok (.invokevirtual 66, 3) := by decide +kernel
theorem dX0_follow_37 : decode cX0_follow 37 = .ok (.ifCond .eq 71, 3) := by decide +kernel
theorem dX0_follow_40 : decode cX0_follow 40 = .ok (.aload_n 0, 1) := by decide +kernel
theorem dX0_follow_41 : decode cX0_follow 41 = .ok (.getfield 35, 3) := by decide +kernel
theorem dX0_follow_44 : decode cX0_follow 44 = .ok (.aload_n 0, 1) := by decide +kernel
theorem dX0_follow_45 : decode cX0_follow 45 = .ok (.getfield 11, 3) := by decide +kernel
theorem dX0_follow_48 : decode cX0_follow 48 = .ok (.iload_n 1, 1) := by decide +kernel
theorem dX0_follow_49 : decode cX0_follow 49 = .ok (.aaload, 1) := by decide +kernel
theorem dX0_follow_50 : decode cX0_follow 50 = .ok (.iload_n 2, 1) := by decide +kernel
theorem dX0_follow_51 : decode cX0_follow 51 = .ok (.aload_n 0, 1) := by decide +kernel
theorem dX0_follow_52 : decode cX0_follow 52 = .ok (.getfield 32, 3) := by decide +kernel
theorem dX0_follow_55 : decode cX0_follow 55 = .ok (.invokevirtual 70, 3) := by decide +kernel
theorem dX0_follow_58 : decode cX0_follow 58 = .ok (.aload_n 0, 1) := by decide +kernel
theorem dX0_follow_59 : decode cX0_follow 59 = .ok (.aload_n 0, 1) := by decide +kernel
theorem dX0_follow_60 : decode cX0_follow 60 = .ok (.getfield 32, 3) := by decide +kernel
theorem dX0_follow_63 : decode cX0_follow 63 = .ok (.invokevirtual 74, 3) := by decide +kernel
theorem dX0_follow_66 : decode cX0_follow 66 = .ok (.istore_n 3, 1) := by decide +kernel
theorem dX0_follow_67 : decode cX0_follow 67 = .ok (.iload_n 3, 1) := by decide +kernel
theorem dX0_follow_68 : decode cX0_follow 68 = .ok (.bipush (-2), 2) := by decide +kernel
theorem dX0_follow_70 : decode cX0_follow 70 = .ok (.if_icmp .ne 29, 3) := by decide +kernel
theorem dX0_follow_73 : decode cX0_follow 73 = .ok (.aload_n 0, 1) := by decide +kernel
theorem dX0_follow_74 : decode cX0_follow 74 = .ok (.getfield 48, 3) := by decide +kernel
theorem dX0_follow_77 : decode cX0_follow 77 = .ok (.bipush 40, 2) := by decide +kernel
theorem dX0_follow_79 : decode cX0_follow 79 = .ok (.if_icmp .ne 5, 3) := by decide +kernel
theorem dX0_follow_82 : decode cX0_follow 82 = .ok (.iconst 0, 1) := by decide +kernel
theorem dX0_follow_83 : decode cX0_follow 83 = .ok (.ireturn, 1) := by decide +kernel
theorem dX0_follow_84 : decode cX0_follow 84 = .ok (.aload_n 0, 1) := by decide +kernel
theorem dX0_follow_85 : decode cX0_follow 85 = .ok (.iload_n 1, 1) := by decide +kernel
theorem dX0_follow_86 : decode cX0_follow 86 = .ok (.iload_n 2, 1) := by decide +kernel
theorem dX0_follow_87 : decode cX0_follow 87 = .ok (.aload_n 0, 1) := by decide +kernel
theorem dX0_follow_88 : decode cX0_follow 88 = .ok (.getfield 26, 3) := by decide +kernel
theorem dX0_follow_91 : decode cX0_follow 91 = .ok (.iload_n 1, 1) := by decide +kernel
theorem dX0_follow_92 : decode cX0_follow 92 = .ok (.iaload, 1) := by decide +kernel
theorem dX0_follow_93 : decode cX0_follow 93 = .ok (.iconst 1, 1) := by decide +kernel
theorem dX0_follow_94 : decode cX0_follow 94 = .ok (.iadd, 1) := by decide +kernel
theorem dX0_follow_95 : decode cX0_follow 95 = .ok (.invokevirtual 52, 3) := by decide +kernel
theorem dX0_follow_98 : decode cX0_follow 98 = .ok (.istore_n 3, 1) := by decide +kernel
theorem dX0_follow_99 : decode cX0_follow 99 = .ok (.aload_n 0, 1) := by decide +kernel
theorem dX0_follow_100 : decode cX0_follow 100 = .ok (.getfield 16, 3) := by decide +kernel
theorem dX0_follow_103 : decode cX0_follow 103 = .ok (.iload_n 1, 1) := by decide +kernel
theorem dX0_follow_104 : decode cX0_follow 104 = .ok (.aaload, 1) := by decide +kernel
theorem dX0_follow_105 : decode cX0_follow 105 = .ok (.iload_n 2, 1) := by decide +kernel
theorem dX0_follow_106 : decode cX0_follow 106 = .ok (.iload_n 3, 1) := by decide +kernel
theorem dX0_follow_107 : decode cX0_follow 107 = .ok (.iastore, 1) := by decide +kernel
theorem dX0_follow_108 : decode cX0_follow 108 = .ok (.iinc 2 1, 3) := by decide +kernel
theorem dX0_follow_111 : decode cX0_follow 111 = .ok (.goto (-109), 3) := by decide +kernel
theorem dX0_follow_114 : decode cX0_follow 114 = .ok (.iconst 1, 1) := by decide +kernel
theorem dX0_follow_115 : decode cX0_follow 115 = .ok (.ireturn, 1) := by decide +kernel
theorem dX0_addState_0 : decode cX0_addState 0 = .ok (.aload_n 0, 1) := by decide +kernel
theorem dX0_addState_1 : decode cX0_addState 1 = .ok (.getfield 48, 3) := by decide +kernel
theorem dX0_addState_4 : decode cX0_addState 4 = .ok (.istore 4, 2) := by decide +kernel
theorem dX0_addState_6 : decode cX0_addState 6 = .ok (.aload_n 0, 1) := by decide +kernel
theorem dX0_addState_7 : decode cX0_addState 7 = .ok (.getfield 11, 3) := by decide +kernel
theorem dX0_addState_10 : decode cX0_addState 10 = .ok (.iload 4, 2) := by decide +kernel
theorem dX0_addState_12 : decode cX0_addState 12 = .ok (.aaload, 1) := by decide +kernel
theorem dX0_addState_13 : decode cX0_addState 13 = .ok (.aload_n 0, 1) := by decide +kernel
theorem dX0_addState_14 : decode cX0_addState 14 = .ok (.getfield 32, 3) := by decide +kernel
theorem dX0_addState_17 : decode cX0_addState 17 = .ok (.invokestatic 44, 3) := by decide +kernel
theorem dX0_addState_20 : decode cX0_addState 20 = .ok (.aload_n 0, 1) := by decide +kernel
theorem dX0_addState_21 : decode cX0_addState 21 = .ok (.getfield 19, 3) := by decide +kernel
theorem dX0_addState_24 : decode cX0_addState 24 = .ok (.iload 4, 2) := by decide +kernel
theorem dX0_addState_26 : decode cX0_addState 26 = .ok (.iload_n 1, 1) := by decide +kernel
theorem dX0_addState_27 : decode cX0_addState 27 = .ok (.iastore, 1) := by decide +kernel
theorem dX0_addState_28 : decode cX0_addState 28 = .ok (.aload_n 0, 1) := by decide +kernel
theorem dX0_addState_29 : decode cX0_addState 29 = .ok (.getfield 23, 3) := by decide +kernel
theorem dX0_addState_32 : decode cX0_addState 32 = .ok (.iload 4, 2) := by decide +kernel
theorem dX0_addState_34 : decode cX0_addState 34 = .ok (.iload_n 2, 1) := by decide +kernel
theorem dX0_addState_35 : decode cX0_addState 35 = .ok (.iastore, 1) := by decide +kernel
theorem dX0_addState_36 : decode cX0_addState 36 = .ok (.aload_n 0, 1) := by decide +kernel
theorem dX0_addState_37 : decode cX0_addState 37 = .ok (.getfield 26, 3) := by decide +kernel
theorem dX0_addState_40 : decode cX0_addState 40 = .ok (.iload 4, 2) := by decide +kernel
theorem dX0_addState_42 : decode cX0_addState 42 = .ok (.iload_n 3, 1) := by decide +kernel
theorem dX0_addState_43 : decode cX0_addState 43 = .ok (.iastore, 1) := by decide +kernel
theorem dX0_addState_44 : decode cX0_addState 44 = .ok (.aload_n 0, 1) := by decide +kernel
theorem dX0_addState_45 : decode cX0_addState 45 = .ok (.dup, 1) := by decide +kernel
theorem dX0_addState_46 : decode cX0_addState 46 = .ok (.getfield 48, 3) := by decide +kernel
theorem dX0_addState_49 : decode cX0_addState 49 = .ok (.iconst 1, 1) := by decide +kernel
theorem dX0_addState_50 : decode cX0_addState 50 = .ok (.iadd, 1) := by decide +kernel
theorem dX0_addState_51 : decode cX0_addState 51 = .ok (.putfield 48, 3) := by decide +kernel
theorem dX0_addState_54 : decode cX0_addState 54 = .ok (.iload 4, 2) := by decide +kernel
theorem dX0_addState_56 : decode cX0_addState 56 = .ok (.ireturn, 1) := by decide +kernel
theorem dX0_lookAhead_0 : decode cX0_lookAhead 0 = .ok (.iconst 0, 1) := by decide +kernel
theorem dX0_lookAhead_1 : decode cX0_lookAhead 1 = .ok (.istore_n 1, 1) := by decide +kernel
theorem dX0_lookAhead_2 : decode cX0_lookAhead 2 = .ok (.iload_n 1, 1) := by decide +kernel
theorem dX0_lookAhead_3 : decode cX0_lookAhead 3 = .ok (.aload_n 0, 1) := by decide +kernel
theorem dX0_lookAhead_4 : decode cX0_lookAhead 4 = .ok (.getfield 48, 3) := by decide +kernel
theorem dX0_lookAhead_7 : decode cX0_lookAhead 7 = .ok (.if_icmp .ge 20, 3) := by decide +kernel
theorem dX0_lookAhead_10 : decode cX0_lookAhead 10 = .ok (.aload_n 0, 1) := by decide +kernel
theorem dX0_lookAhead_11 : decode cX0_lookAhead 11 = .ok (.getfield 29, 3) := by decide +kernel
theorem dX0_lookAhead_14 : decode cX0_lookAhead 14 = .ok (.iload_n 1, 1) := by decide +kernel
theorem dX0_lookAhead_15 : decode cX0_lookAhead 15 = .ok (.aload_n 0, 1) := by decide +kernel
theorem dX0_lookAhead_16 : decode cX0_lookAhead 16 = .ok (.iload_n 1, 1) := by decide +kernel
theorem dX0_lookAhead_17 : decode cX0_lookAhead 17 = .ok (.invokevirtual 78, 3) := by decide +kernel
theorem dX0_lookAhead_20 : decode cX0_lookAhead 20 = .ok (.iastore, 1) := by decide +kernel
theorem dX0_lookAhead_21 : decode cX0_lookAhead 21 = .ok (.iinc 1 1, 3) := by decide +kernel
theorem dX0_lookAhead_24 : decode cX0_lookAhead 24 = .ok (.goto (-22), 3) := by decide +kernel
theorem dX0_lookAhead_27 : decode cX0_lookAhead 27 = .ok (.iconst 1, 1) := by decide +kernel
theorem dX0_lookAhead_28 : decode cX0_lookAhead 28 = .ok (.istore_n 1, 1) := by decide +kernel
theorem dX0_lookAhead_29 : decode cX0_lookAhead 29 = .ok (.iconst 0, 1) := by decide +kernel
theorem dX0_lookAhead_30 : decode cX0_lookAhead 30 = .ok (.istore_n 2, 1) := by decide +kernel
theorem dX0_lookAhead_31 : decode cX0_lookAhead 31 = .ok (.iload_n 2, 1) := by decide +kernel
theorem dX0_lookAhead_32 : decode cX0_lookAhead 32 = .ok (.aload_n 0, 1) := by decide +kernel
theorem dX0_lookAhead_33 : decode cX0_lookAhead 33 = .ok (.getfield 48, 3) := by decide +kernel
theorem dX0_lookAhead_36 : decode cX0_lookAhead 36 = .ok (.if_icmp .ge 74, 3) := by decide +kernel
theorem dX0_lookAhead_39 : decode cX0_lookAhead 39 = .ok (.iload_n 1, 1) := by decide +kernel
theorem dX0_lookAhead_40 : decode cX0_lookAhead 40 = .ok (.ifCond .eq 70, 3) := by decide +kernel
theorem dX0_lookAhead_43 : decode cX0_lookAhead 43 = .ok (.iconst 0, 1) := by decide +kernel
theorem dX0_lookAhead_44 : decode cX0_lookAhead 44 = .ok (.istore_n 1, 1) := by decide +kernel
theorem dX0_lookAhead_45 : decode cX0_lookAhead 45 = .ok (.iconst 0, 1) := by decide +kernel
theorem dX0_lookAhead_46 : decode cX0_lookAhead 46 = .ok (.istore_n 3, 1) := by decide +kernel
theorem dX0_lookAhead_47 : decode cX0_lookAhead 47 = .ok (.iload_n 3, 1) := by decide +kernel
theorem dX0_lookAhead_48 : decode cX0_lookAhead 48 = .ok (.aload_n 0, 1) := by decide +kernel
theorem dX0_lookAhead_49 : decode cX0_lookAhead 49 = .ok (.getfield 48, 3) := by decide +kernel
theorem dX0_lookAhead_52 : decode cX0_lookAhead 52 = .ok (.if_icmp .ge 52, 3) := by decide +kernel
theorem dX0_lookAhead_55 : decode cX0_lookAhead 55 = .ok (.aload_n 0, 1) := by decide +kernel
theorem dX0_lookAhead_56 : decode cX0_lookAhead 56 = .ok (.getfield 29, 3) := by decide +kernel
theorem dX0_lookAhead_59 : decode cX0_lookAhead 59 = .ok (.iload_n 3, 1) := by decide +kernel
theorem dX0_lookAhead_60 : decode cX0_lookAhead 60 = .ok (.iaload, 1) := by decide +kernel
theorem dX0_lookAhead_61 : decode cX0_lookAhead 61 = .ok (.aload_n 0, 1) := by decide +kernel
theorem dX0_lookAhead_62 : decode cX0_lookAhead 62 = .ok (.iload_n 3, 1) := by decide +kernel
theorem dX0_lookAhead_63 : decode cX0_lookAhead 63 = .ok (.invokevirtual 82, 3) := by decide +kernel
theorem dX0_lookAhead_66 : decode cX0_lookAhead 66 = .ok (.ior, 1) := by decide +kernel
theorem dX0_lookAhead_67 : decode cX0_lookAhead 67 = .ok (.istore 4, 2) := by decide +kernel
theorem dX0_lookAhead_69 : decode cX0_lookAhead 69 = .ok (.iload_n 1, 1) := by decide +kernel
theorem dX0_lookAhead_70 : decode cX0_lookAhead 70 = .ok (.ifCond .ne 14, 3) := by decide +kernel
theorem dX0_lookAhead_73 : decode cX0_lookAhead 73 = .ok (.iload 4, 2) := by decide +kernel
theorem dX0_lookAhead_75 : decode cX0_lookAhead 75 = .ok (.aload_n 0, 1) := by decide +kernel
theorem dX0_lookAhead_76 : decode cX0_lookAhead 76 = .ok (.getfield 29, 3) := by decide +kernel
theorem dX0_lookAhead_79 : decode cX0_lookAhead 79 = .ok (.iload_n 3, 1) := by decide +kernel
theorem dX0_lookAhead_80 : decode cX0_lookAhead 80 = .ok (.iaload, 1) := by decide +kernel
theorem dX0_lookAhead_81 : decode cX0_lookAhead 81 = .ok (.if_icmp .eq 7, 3) := by decide +kernel
theorem dX0_lookAhead_84 : decode cX0_lookAhead 84 = .ok (.iconst 1, 1) := by decide +kernel
theorem dX0_lookAhead_85 : decode cX0_lookAhead 85 = .ok (.goto 4, 3) := by decide +kernel
theorem dX0_lookAhead_88 : decode cX0_lookAhead 88 = .ok (.iconst 0, 1) := by decide +kernel
theorem dX0_lookAhead_89 : decode cX0_lookAhead 89 = .ok (.istore_n 1, 1) := by decide +kernel
theorem dX0_lookAhead_90 : decode cX0_lookAhead 90 = .ok (.aload_n 0, 1) := by decide +kernel
theorem dX0_lookAhead_91 : decode cX0_lookAhead 91 = .ok (.getfield 29, 3) := by decide +kernel
theorem dX0_lookAhead_94 : decode cX0_lookAhead 94 = .ok (.iload_n 3, 1) := by decide +kernel
theorem dX0_lookAhead_95 : decode cX0_lookAhead 95 = .ok (.iload 4, 2) := by decide +kernel
theorem dX0_lookAhead_97 : decode cX0_lookAhead 97 = .ok (.iastore, 1) := by decide +kernel
theorem dX0_lookAhead_98 : decode cX0_lookAhead 98 = .ok (.iinc 3 1, 3) := by decide +kernel
theorem dX0_lookAhead_101 : decode cX0_lookAhead 101 = .ok (.goto (-54), 3) := by decide +kernel
theorem dX0_lookAhead_104 : decode cX0_lookAhead 104 = .ok (.iinc 2 1, 3) := by decide +kernel
theorem dX0_lookAhead_107 : decode cX0_lookAhead 107 = .ok (.goto (-76), 3) := by decide +kernel
theorem dX0_lookAhead_110 : decode cX0_lookAhead 110 = .ok (.return_, 1) := by decide +kernel
theorem dX0_enabledIn_0 : decode cX0_enabledIn 0 = .ok (.iconst 0, 1) := by decide +kernel
theorem dX0_enabledIn_1 : decode cX0_enabledIn 1 = .ok (.istore_n 2, 1) := by decide +kernel
theorem dX0_enabledIn_2 : decode cX0_enabledIn 2 = .ok (.iconst 0, 1) := by decide +kernel
theorem dX0_enabledIn_3 : decode cX0_enabledIn 3 = .ok (.istore_n 3, 1) := by decide +kernel
theorem dX0_enabledIn_4 : decode cX0_enabledIn 4 = .ok (.iload_n 3, 1) := by decide +kernel
theorem dX0_enabledIn_5 : decode cX0_enabledIn 5 = .ok (.aload_n 0, 1) := by decide +kernel
theorem dX0_enabledIn_6 : decode cX0_enabledIn 6 = .ok (.getfield 35, 3) := by decide +kernel
theorem dX0_enabledIn_9 : decode cX0_enabledIn 9 = .ok (.getfield 63, 3) := by decide +kernel
theorem dX0_enabledIn_12 : decode cX0_enabledIn 12 = .ok (.if_icmp .ge 28, 3) := by decide +kernel
theorem dX0_enabledIn_15 : decode cX0_enabledIn 15 = .ok (.aload_n 0, 1) := by decide +kernel
theorem dX0_enabledIn_16 : decode cX0_enabledIn 16 = .ok (.getfield 16, 3) := by decide +kernel
theorem dX0_enabledIn_19 : decode cX0_enabledIn 19 = .ok (.iload_n 1, 1) := by decide +kernel
theorem dX0_enabledIn_20 : decode cX0_enabledIn 20 = .ok (.aaload, 1) := by decide +kernel
theorem dX0_enabledIn_21 : decode cX0_enabledIn 21 = .ok (.iload_n 3, 1) := by decide +kernel
theorem dX0_enabledIn_22 : decode cX0_enabledIn 22 = .ok (.iaload, 1) := by decide +kernel
theorem dX0_enabledIn_23 : decode cX0_enabledIn 23 = .ok (.bipush (-2), 2) := by decide +kernel
theorem dX0_enabledIn_25 : decode cX0_enabledIn 25 = .ok (.if_icmp .eq 9, 3) := by decide +kernel
theorem dX0_enabledIn_28 : decode cX0_enabledIn 28 = .ok (.iload_n 2, 1) := by decide +kernel
theorem dX0_enabledIn_29 : decode cX0_enabledIn 29 = .ok (.iconst 1, 1) := by decide +kernel
theorem dX0_enabledIn_30 : decode cX0_enabledIn 30 = .ok (.iload_n 3, 1) := by decide +kernel
theorem dX0_enabledIn_31 : decode cX0_enabledIn 31 = .ok (.ishl, 1) := by decide +kernel
theorem dX0_enabledIn_32 : decode cX0_enabledIn 32 = .ok (.ior, 1) := by decide +kernel
theorem dX0_enabledIn_33 : decode cX0_enabledIn 33 = .ok (.istore_n 2, 1) := by decide +kernel
theorem dX0_enabledIn_34 : decode cX0_enabledIn 34 = .ok (.iinc 3 1, 3) := by decide +kernel
theorem dX0_enabledIn_37 : decode cX0_enabledIn 37 = .ok (.goto (-33), 3) := by decide +kernel
theorem dX0_enabledIn_40 : decode cX0_enabledIn 40 = .ok (.iload_n 2, 1) := by decide +kernel
theorem dX0_enabledIn_41 : decode cX0_enabledIn 41 = .ok (.ireturn, 1) := by decide +kernel
theorem dX0_aheadOfNext_0 : decode cX0_aheadOfNext 0 = .ok (.iconst 0, 1) := by decide +kernel
theorem dX0_aheadOfNext_1 : decode cX0_aheadOfNext 1 = .ok (.istore_n 2, 1) := by decide +kernel
theorem dX0_aheadOfNext_2 : decode cX0_aheadOfNext 2 = .ok (.iconst 0, 1) := by decide +kernel
theorem dX0_aheadOfNext_3 : decode cX0_aheadOfNext 3 = .ok (.istore_n 3, 1) := by decide +kernel
theorem dX0_aheadOfNext_4 : decode cX0_aheadOfNext 4 = .ok (.iload_n 3, 1) := by decide +kernel
theorem dX0_aheadOfNext_5 : decode cX0_aheadOfNext 5 = .ok (.aload_n 0, 1) := by decide +kernel
theorem dX0_aheadOfNext_6 : decode cX0_aheadOfNext 6 = .ok (.getfield 35, 3) := by decide +kernel
theorem dX0_aheadOfNext_9 : decode cX0_aheadOfNext 9 = .ok (.getfield 63, 3) := by decide +kernel
theorem dX0_aheadOfNext_12 : decode cX0_aheadOfNext 12 = .ok (.if_icmp .ge 36, 3) := by decide +kernel
theorem dX0_aheadOfNext_15 : decode cX0_aheadOfNext 15 = .ok (.aload_n 0, 1) := by decide +kernel
theorem dX0_aheadOfNext_16 : decode cX0_aheadOfNext 16 = .ok (.getfield 16, 3) := by decide +kernel
theorem dX0_aheadOfNext_19 : decode cX0_aheadOfNext 19 = .ok (.iload_n 1, 1) := by decide +kernel
theorem dX0_aheadOfNext_20 : decode cX0_aheadOfNext 20 = .ok (.aaload, 1) := by decide +kernel
theorem dX0_aheadOfNext_21 : decode cX0_aheadOfNext 21 = .ok (.iload_n 3, 1) := by decide +kernel
theorem dX0_aheadOfNext_22 : decode cX0_aheadOfNext 22 = .ok (.iaload, 1) := by decide +kernel
theorem dX0_aheadOfNext_23 : decode cX0_aheadOfNext 23 = .ok (.istore 4, 2) := by decide +kernel
theorem dX0_aheadOfNext_25 : decode cX0_aheadOfNext 25 = .ok (.iload 4, 2) := by decide +kernel
theorem dX0_aheadOfNext_27 : decode cX0_aheadOfNext 27 = .ok (.bipush (-2), 2) := by decide +kernel
theorem dX0_aheadOfNext_29 : decode cX0_aheadOfNext 29 = .ok (.if_icmp .eq 13, 3) := by decide +kernel
theorem dX0_aheadOfNext_32 : decode cX0_aheadOfNext 32 = .ok (.iload_n 2, 1) := by decide +kernel
theorem dX0_aheadOfNext_33 : decode cX0_aheadOfNext 33 = .ok (.aload_n 0, 1) := by decide +kernel
theorem dX0_aheadOfNext_34 : decode cX0_aheadOfNext 34 = .ok (.getfield 29, 3) := by decide +kernel
theorem dX0_aheadOfNext_37 : decode cX0_aheadOfNext 37 = .ok (.iload 4, 2) := by decide +kernel
theorem dX0_aheadOfNext_39 : decode cX0_aheadOfNext 39 = .ok (.iaload, 1) := by decide +kernel
theorem dX0_aheadOfNext_40 : decode cX0_aheadOfNext 40 = .ok (.ior, 1) := by decide +kernel
theorem dX0_aheadOfNext_41 : decode cX0_aheadOfNext 41 = .ok (.istore_n 2, 1) := by decide +kernel
theorem dX0_aheadOfNext_42 : decode cX0_aheadOfNext 42 = .ok (.iinc 3 1, 3) := by decide +kernel
theorem dX0_aheadOfNext_45 : decode cX0_aheadOfNext 45 = .ok (.goto (-41), 3) := by decide +kernel
theorem dX0_aheadOfNext_48 : decode cX0_aheadOfNext 48 = .ok (.iload_n 2, 1) := by decide +kernel
theorem dX0_aheadOfNext_49 : decode cX0_aheadOfNext 49 = .ok (.ireturn, 1) := by decide +kernel
theorem dX0_stateOf_0 : decode cX0_stateOf 0 = .ok (.iconst 0, 1) := by decide +kernel
theorem dX0_stateOf_1 : decode cX0_stateOf 1 = .ok (.istore_n 2, 1) := by decide +kernel
theorem dX0_stateOf_2 : decode cX0_stateOf 2 = .ok (.iload_n 2, 1) := by decide +kernel
theorem dX0_stateOf_3 : decode cX0_stateOf 3 = .ok (.aload_n 0, 1) := by decide +kernel
theorem dX0_stateOf_4 : decode cX0_stateOf 4 = .ok (.getfield 48, 3) := by decide +kernel
theorem dX0_stateOf_7 : decode cX0_stateOf 7 = .ok (.if_icmp .ge 24, 3) := by decide +kernel
theorem dX0_stateOf_10 : decode cX0_stateOf 10 = .ok (.aload_n 0, 1) := by decide +kernel
theorem dX0_stateOf_11 : decode cX0_stateOf 11 = .ok (.getfield 11, 3) := by decide +kernel
theorem dX0_stateOf_14 : decode cX0_stateOf 14 = .ok (.iload_n 2, 1) := by decide +kernel
theorem dX0_stateOf_15 : decode cX0_stateOf 15 = .ok (.aaload, 1) := by decide +kernel
theorem dX0_stateOf_16 : decode cX0_stateOf 16 = .ok (.aload_n 1, 1) := by decide +kernel
theorem dX0_stateOf_17 : decode cX0_stateOf 17 = .ok (.invokestatic 85, 3) := by decide +kernel
theorem dX0_stateOf_20 : decode cX0_stateOf 20 = .ok (.ifCond .eq 5, 3) := by decide +kernel
theorem dX0_stateOf_23 : decode cX0_stateOf 23 = .ok (.iload_n 2, 1) := by decide +kernel
theorem dX0_stateOf_24 : decode cX0_stateOf 24 = .ok (.ireturn, 1) := by decide +kernel
theorem dX0_stateOf_25 : decode cX0_stateOf 25 = .ok (.iinc 2 1, 3) := by decide +kernel
theorem dX0_stateOf_28 : decode cX0_stateOf 28 = .ok (.goto (-26), 3) := by decide +kernel
theorem dX0_stateOf_31 : decode cX0_stateOf 31 = .ok (.bipush (-2), 2) := by decide +kernel
theorem dX0_stateOf_33 : decode cX0_stateOf 33 = .ok (.ireturn, 1) := by decide +kernel
theorem dX0_countStops_0 : decode cX0_countStops 0 = .ok (.iconst 0, 1) := by decide +kernel
theorem dX0_countStops_1 : decode cX0_countStops 1 = .ok (.istore_n 1, 1) := by decide +kernel
theorem dX0_countStops_2 : decode cX0_countStops 2 = .ok (.iconst 0, 1) := by decide +kernel
theorem dX0_countStops_3 : decode cX0_countStops 3 = .ok (.istore_n 2, 1) := by decide +kernel
theorem dX0_countStops_4 : decode cX0_countStops 4 = .ok (.iload_n 2, 1) := by decide +kernel
theorem dX0_countStops_5 : decode cX0_countStops 5 = .ok (.aload_n 0, 1) := by decide +kernel
theorem dX0_countStops_6 : decode cX0_countStops 6 = .ok (.getfield 48, 3) := by decide +kernel
theorem dX0_countStops_9 : decode cX0_countStops 9 = .ok (.if_icmp .ge 20, 3) := by decide +kernel
theorem dX0_countStops_12 : decode cX0_countStops 12 = .ok (.aload_n 0, 1) := by decide +kernel
theorem dX0_countStops_13 : decode cX0_countStops 13 = .ok (.iload_n 2, 1) := by decide +kernel
theorem dX0_countStops_14 : decode cX0_countStops 14 = .ok (.invokevirtual 78, 3) := by decide +kernel
theorem dX0_countStops_17 : decode cX0_countStops 17 = .ok (.ifCond .ne 6, 3) := by decide +kernel
theorem dX0_countStops_20 : decode cX0_countStops 20 = .ok (.iinc 1 1, 3) := by decide +kernel
theorem dX0_countStops_23 : decode cX0_countStops 23 = .ok (.iinc 2 1, 3) := by decide +kernel
theorem dX0_countStops_26 : decode cX0_countStops 26 = .ok (.goto (-22), 3) := by decide +kernel
theorem dX0_countStops_29 : decode cX0_countStops 29 = .ok (.iload_n 1, 1) := by decide +kernel
theorem dX0_countStops_30 : decode cX0_countStops 30 = .ok (.ireturn, 1) := by decide +kernel
theorem dX0_staysPossible_0 : decode cX0_staysPossible 0 = .ok (.iconst 0, 1) := by decide +kernel
theorem dX0_staysPossible_1 : decode cX0_staysPossible 1 = .ok (.istore_n 2, 1) := by decide +kernel
theorem dX0_staysPossible_2 : decode cX0_staysPossible 2 = .ok (.iload_n 2, 1) := by decide +kernel
theorem dX0_staysPossible_3 : decode cX0_staysPossible 3 = .ok (.aload_n 0, 1) := by decide +kernel
theorem dX0_staysPossible_4 : decode cX0_staysPossible 4 = .ok (.getfield 48, 3) := by decide +kernel
theorem dX0_staysPossible_7 : decode cX0_staysPossible 7 = .ok (.if_icmp .ge 24, 3) := by decide +kernel
theorem dX0_staysPossible_10 : decode cX0_staysPossible 10 = .ok (.aload_n 0, 1) := by decide +kernel
theorem dX0_staysPossible_11 : decode cX0_staysPossible 11 = .ok (.getfield 29, 3) := by decide +kernel
theorem dX0_staysPossible_14 : decode cX0_staysPossible 14 = .ok (.iload_n 2, 1) := by decide +kernel
theorem dX0_staysPossible_15 : decode cX0_staysPossible 15 = .ok (.iaload, 1) := by decide +kernel
theorem dX0_staysPossible_16 : decode cX0_staysPossible 16 = .ok (.iconst 1, 1) := by decide +kernel
theorem dX0_staysPossible_17 : decode cX0_staysPossible 17 = .ok (.iload_n 1, 1) := by decide +kernel
theorem dX0_staysPossible_18 : decode cX0_staysPossible 18 = .ok (.ishl, 1) := by decide +kernel
theorem dX0_staysPossible_19 : decode cX0_staysPossible 19 = .ok (.iand, 1) := by decide +kernel
theorem dX0_staysPossible_20 : decode cX0_staysPossible 20 = .ok (.ifCond .ne 5, 3) := by decide +kernel
theorem dX0_staysPossible_23 : decode cX0_staysPossible 23 = .ok (.iconst 0, 1) := by decide +kernel
theorem dX0_staysPossible_24 : decode cX0_staysPossible 24 = .ok (.ireturn, 1) := by decide +kernel
theorem dX0_staysPossible_25 : decode cX0_staysPossible 25 = .ok (.iinc 2 1, 3) := by decide +kernel
theorem dX0_staysPossible_28 : decode cX0_staysPossible 28 = .ok (.goto (-26), 3) := by decide +kernel
theorem dX0_staysPossible_31 : decode cX0_staysPossible 31 = .ok (.iconst 1, 1) := by decide +kernel
theorem dX0_staysPossible_32 : decode cX0_staysPossible 32 = .ok (.ireturn, 1) := by decide +kernel
theorem dX1_init_0 : decode cX1_init 0 = .ok (.aload_n 0, 1) := by decide +kernel
theorem dX1_init_1 : decode cX1_init 1 = .ok (.invokespecial 3, 3) := by decide +kernel
theorem dX1_init_4 : decode cX1_init 4 = .ok (.aload_n 0, 1) := by decide +kernel
theorem dX1_init_5 : decode cX1_init 5 = .ok (.bipush 6, 2) := by decide +kernel
theorem dX1_init_7 : decode cX1_init 7 = .ok (.newarray .int, 2) := by decide +kernel
theorem dX1_init_9 : decode cX1_init 9 = .ok (.putfield 9, 3) := by decide +kernel
theorem dX1_init_12 : decode cX1_init 12 = .ok (.aload_n 0, 1) := by decide +kernel
theorem dX1_init_13 : decode cX1_init 13 = .ok (.bipush 8, 2) := by decide +kernel
theorem dX1_init_15 : decode cX1_init 15 = .ok (.bipush 6, 2) := by decide +kernel
theorem dX1_init_17 : decode cX1_init 17 = .ok (.multianewarray 15 2, 4) := by decide +kernel
theorem dX1_init_21 : decode cX1_init 21 = .ok (.putfield 17, 3) := by decide +kernel
theorem dX1_init_24 : decode cX1_init 24 = .ok (.aload_n 0, 1) := by decide +kernel
theorem dX1_init_25 : decode cX1_init 25 = .ok (.bipush 8, 2) := by decide +kernel
theorem dX1_init_27 : decode cX1_init 27 = .ok (.bipush 6, 2) := by decide +kernel
theorem dX1_init_29 : decode cX1_init 29 = .ok (.multianewarray 15 2, 4) := by decide +kernel
theorem dX1_init_33 : decode cX1_init 33 = .ok (.putfield 20, 3) := by decide +kernel
theorem dX1_init_36 : decode cX1_init 36 = .ok (.return_, 1) := by decide +kernel
theorem dX1_addPlace_0 : decode cX1_addPlace 0 = .ok (.aload_n 0, 1) := by decide +kernel
theorem dX1_addPlace_1 : decode cX1_addPlace 1 = .ok (.getfield 9, 3) := by decide +kernel
theorem dX1_addPlace_4 : decode cX1_addPlace 4 = .ok (.aload_n 0, 1) := by decide +kernel
theorem dX1_addPlace_5 : decode cX1_addPlace 5 = .ok (.getfield 23, 3) := by decide +kernel
theorem dX1_addPlace_8 : decode cX1_addPlace 8 = .ok (.iload_n 1, 1) := by decide +kernel
theorem dX1_addPlace_9 : decode cX1_addPlace 9 = .ok (.iastore, 1) := by decide +kernel
theorem dX1_addPlace_10 : decode cX1_addPlace 10 = .ok (.aload_n 0, 1) := by decide +kernel
theorem dX1_addPlace_11 : decode cX1_addPlace 11 = .ok (.dup, 1) := by decide +kernel
theorem dX1_addPlace_12 : decode cX1_addPlace 12 = .ok (.getfield 23, 3) := by decide +kernel
theorem dX1_addPlace_15 : decode cX1_addPlace 15 = .ok (.iconst 1, 1) := by decide +kernel
theorem dX1_addPlace_16 : decode cX1_addPlace 16 = .ok (.iadd, 1) := by decide +kernel
theorem dX1_addPlace_17 : decode cX1_addPlace 17 = .ok (.putfield 23, 3) := by decide +kernel
theorem dX1_addPlace_20 : decode cX1_addPlace 20 = .ok (.aload_n 0, 1) := by decide +kernel
theorem dX1_addPlace_21 : decode cX1_addPlace 21 = .ok (.getfield 23, 3) := by decide +kernel
theorem dX1_addPlace_24 : decode cX1_addPlace 24 = .ok (.iconst 1, 1) := by decide +kernel
theorem dX1_addPlace_25 : decode cX1_addPlace 25 = .ok (.isub, 1) := by decide +kernel
theorem dX1_addPlace_26 : decode cX1_addPlace 26 = .ok (.ireturn, 1) := by decide +kernel
theorem dX1_addTransition_0 : decode cX1_addTransition 0 = .ok (.aload_n 0, 1) := by decide +kernel
theorem dX1_addTransition_1 : decode cX1_addTransition 1 = .ok (.dup, 1) := by decide +kernel
theorem dX1_addTransition_2 : decode cX1_addTransition 2 = .ok (.getfield 27, 3) := by decide +kernel
theorem dX1_addTransition_5 : decode cX1_addTransition 5 = .ok (.iconst 1, 1) := by decide +kernel
theorem dX1_addTransition_6 : decode cX1_addTransition 6 = .ok (.iadd, 1) := by decide +kernel
theorem dX1_addTransition_7 : decode cX1_addTransition 7 = .ok (.putfield 27, 3) := by decide +kernel
theorem dX1_addTransition_10 : decode cX1_addTransition 10 = .ok (.aload_n 0, 1) := by decide +kernel
theorem dX1_addTransition_11 : decode cX1_addTransition 11 = .ok (.getfield 27, 3) := by decide +kernel
theorem dX1_addTransition_14 : decode cX1_addTransition 14 = .ok (.iconst 1, 1) := by decide +kernel
theorem dX1_addTransition_15 : decode cX1_addTransition 15 = .ok (.isub, 1) := by decide +kernel
theorem dX1_addTransition_16 : decode cX1_addTransition 16 = .ok (.ireturn, 1) := by decide +kernel
theorem dX1_setArc_0 : decode cX1_setArc 0 = .ok (.iload 4, 2) := by decide +kernel
theorem dX1_setArc_2 : decode cX1_setArc 2 = .ok (.ifCond .eq 12, 3) := by decide +kernel
theorem dX1_setArc_5 : decode cX1_setArc 5 = .ok (.aload_n 0, 1) := by decide +kernel
theorem dX1_setArc_6 : decode cX1_setArc 6 = .ok (.getfield 20, 3) := by decide +kernel
theorem dX1_setArc_9 : decode cX1_setArc 9 = .ok (.iload_n 2, 1) := by decide +kernel
theorem dX1_setArc_10 : decode cX1_setArc 10 = .ok (.aaload, 1) := by decide +kernel
theorem dX1_setArc_11 : decode cX1_setArc 11 = .ok (.goto 9, 3) := by decide +kernel
theorem dX1_setArc_14 : decode cX1_setArc 14 = .ok (.aload_n 0, 1) := by decide +kernel
theorem dX1_setArc_15 : decode cX1_setArc 15 = .ok (.getfield 17, 3) := by decide +kernel
theorem dX1_setArc_18 : decode cX1_setArc 18 = .ok (.iload_n 2, 1) := by decide +kernel
theorem dX1_setArc_19 : decode cX1_setArc 19 = .ok (.aaload, 1) := by decide +kernel
theorem dX1_setArc_20 : decode cX1_setArc 20 = .ok (.astore 5, 2) := by decide +kernel
theorem dX1_setArc_22 : decode cX1_setArc 22 = .ok (.aload 5, 2) := by decide +kernel
theorem dX1_setArc_24 : decode cX1_setArc 24 = .ok (.iload_n 1, 1) := by decide +kernel
theorem dX1_setArc_25 : decode cX1_setArc 25 = .ok (.iaload, 1) := by decide +kernel
theorem dX1_setArc_26 : decode cX1_setArc 26 = .ok (.istore 6, 2) := by decide +kernel
theorem dX1_setArc_28 : decode cX1_setArc 28 = .ok (.aload 5, 2) := by decide +kernel
theorem dX1_setArc_30 : decode cX1_setArc 30 = .ok (.iload_n 1, 1) := by decide +kernel
theorem dX1_setArc_31 : decode cX1_setArc 31 = .ok (.iload_n 3, 1) := by decide +kernel
theorem dX1_setArc_32 : decode cX1_setArc 32 = .ok (.iastore, 1) := by decide +kernel
theorem dX1_setArc_33 : decode cX1_setArc 33 = .ok (.iload 6, 2) := by decide +kernel
theorem dX1_setArc_35 : decode cX1_setArc 35 = .ok (.ireturn, 1) := by decide +kernel
theorem dX1_enables_0 : decode cX1_enables 0 = .ok (.aload_n 1, 1) := by decide +kernel
theorem dX1_enables_1 : decode cX1_enables 1 = .ok (.aload_n 0, 1) := by decide +kernel
theorem dX1_enables_2 : decode cX1_enables 2 = .ok (.getfield 17, 3) := by decide +kernel
theorem dX1_enables_5 : decode cX1_enables 5 = .ok (.iload_n 2, 1) := by decide +kernel
theorem dX1_enables_6 : decode cX1_enables 6 = .ok (.aaload, 1) := by decide +kernel
theorem dX1_enables_7 : decode cX1_enables 7 = .ok (.invokestatic 30, 3) := by decide +kernel
theorem dX1_enables_10 : decode cX1_enables 10 = .ok (.ireturn, 1) := by decide +kernel
theorem dX1_fire_0 : decode cX1_fire 0 = .ok (.iconst 0, 1) := by decide +kernel
theorem dX1_fire_1 : decode cX1_fire 1 = .ok (.istore 4, 2) := by decide +kernel
theorem dX1_fire_3 : decode cX1_fire 3 = .ok (.iload 4, 2) := by decide +kernel
theorem dX1_fire_5 : decode cX1_fire 5 = .ok (.bipush 6, 2) := by decide +kernel
theorem dX1_fire_7 : decode cX1_fire 7 = .ok (.if_icmp .ge 53, 3) := by decide +kernel
theorem dX1_fire_10 : decode cX1_fire 10 = .ok (.aload_n 1, 1) := by decide +kernel
theorem dX1_fire_11 : decode cX1_fire 11 = .ok (.iload 4, 2) := by decide +kernel
theorem dX1_fire_13 : decode cX1_fire 13 = .ok (.iaload, 1) := by decide +kernel
theorem dX1_fire_14 : decode cX1_fire 14 = .ok (.istore 5, 2) := by decide +kernel
theorem dX1_fire_16 : decode cX1_fire 16 = .ok (.aload_n 3, 1) := by decide +kernel
theorem dX1_fire_17 : decode cX1_fire 17 = .ok (.iload 4, 2) := by decide +kernel
theorem dX1_fire_19 : decode cX1_fire 19 = .ok (.iload 5, 2) := by decide +kernel
theorem dX1_fire_21 : decode cX1_fire 21 = .ok (.ldc 34, 2) := by decide +kernel
theorem dX1_fire_23 : decode cX1_fire 23 = .ok (.if_icmp .ne 8, 3) := by decide +kernel
theorem dX1_fire_26 : decode cX1_fire 26 = .ok (.iload 5, 2) := by decide +kernel
theorem dX1_fire_28 : decode cX1_fire 28 = .ok (.goto 25, 3) := by decide +kernel
theorem dX1_fire_31 : decode cX1_fire 31 = .ok (.iload 5, 2) := by decide +kernel
theorem dX1_fire_33 : decode cX1_fire 33 = .ok (.aload_n 0, 1) := by decide +kernel
theorem dX1_fire_34 : decode cX1_fire 34 = .ok (.getfield 17, 3) := by decide +kernel
theorem dX1_fire_37 : decode cX1_fire 37 = .ok (.iload_n 2, 1) := by decide +kernel
theorem dX1_fire_38 : decode cX1_fire 38 = .ok (.aaload, 1) := by decide +kernel
theorem dX1_fire_39 : decode cX1_fire 39 = .ok (.iload 4, 2) := by decide +kernel
theorem dX1_fire_41 : decode cX1_fire 41 = .ok (.iaload, 1) := by decide +kernel
theorem dX1_fire_42 : decode cX1_fire 42 = .ok (.isub, 1) := by decide +kernel
theorem dX1_fire_43 : decode cX1_fire 43 = .ok (.aload_n 0, 1) := by decide +kernel
theorem dX1_fire_44 : decode cX1_fire 44 = .ok (.getfield 20, 3) := by decide +kernel
theorem dX1_fire_47 : decode cX1_fire 47 = .ok (.iload_n 2, 1) := by decide +kernel
theorem dX1_fire_48 : decode cX1_fire 48 = .ok (.aaload, 1) := by decide +kernel
theorem dX1_fire_49 : decode cX1_fire 49 = .ok (.iload 4, 2) := by decide +kernel
theorem dX1_fire_51 : decode cX1_fire 51 = .ok (.iaload, 1) := by decide +kernel
theorem dX1_fire_52 : decode cX1_fire 52 = .ok (.iadd, 1) := by decide +kernel
theorem dX1_fire_53 : decode cX1_fire 53 = .ok (.iastore, 1) := by decide +kernel
theorem dX1_fire_54 : decode cX1_fire 54 = .ok (.iinc 4 1, 3) := by decide +kernel
theorem dX1_fire_57 : decode cX1_fire 57 = .ok (.goto (-54), 3) := by decide +kernel
theorem dX1_fire_60 : decode cX1_fire 60 = .ok (.return_, 1) := by decide +kernel
theorem dX2_init_0 : decode cX2_init 0 = .ok (.aload_n 0, 1) := by decide +kernel
theorem dX2_init_1 : decode cX2_init 1 = .ok (.invokespecial 3, 3) := by decide +kernel
theorem dX2_init_4 : decode cX2_init 4 = .ok (.aload_n 0, 1) := by decide +kernel
theorem dX2_init_5 : decode cX2_init 5 = .ok (.bipush 100, 2) := by decide +kernel
theorem dX2_init_7 : decode cX2_init 7 = .ok (.bipush 6, 2) := by decide +kernel
theorem dX2_init_9 : decode cX2_init 9 = .ok (.multianewarray 9 2, 4) := by decide +kernel
theorem dX2_init_13 : decode cX2_init 13 = .ok (.putfield 11, 3) := by decide +kernel
theorem dX2_init_16 : decode cX2_init 16 = .ok (.aload_n 0, 1) := by decide +kernel
theorem dX2_init_17 : decode cX2_init 17 = .ok (.bipush 100, 2) := by decide +kernel
theorem dX2_init_19 : decode cX2_init 19 = .ok (.newarray .int, 2) := by decide +kernel
theorem dX2_init_21 : decode cX2_init 21 = .ok (.putfield 16, 3) := by decide +kernel
theorem dX2_init_24 : decode cX2_init 24 = .ok (.aload_n 0, 1) := by decide +kernel
theorem dX2_init_25 : decode cX2_init 25 = .ok (.bipush 100, 2) := by decide +kernel
theorem dX2_init_27 : decode cX2_init 27 = .ok (.newarray .int, 2) := by decide +kernel
theorem dX2_init_29 : decode cX2_init 29 = .ok (.putfield 20, 3) := by decide +kernel
theorem dX2_init_32 : decode cX2_init 32 = .ok (.aload_n 0, 1) := by decide +kernel
theorem dX2_init_33 : decode cX2_init 33 = .ok (.bipush 100, 2) := by decide +kernel
theorem dX2_init_35 : decode cX2_init 35 = .ok (.newarray .int, 2) := by decide +kernel
theorem dX2_init_37 : decode cX2_init 37 = .ok (.putfield 23, 3) := by decide +kernel
theorem dX2_init_40 : decode cX2_init 40 = .ok (.aload_n 0, 1) := by decide +kernel
theorem dX2_init_41 : decode cX2_init 41 = .ok (.bipush 100, 2) := by decide +kernel
theorem dX2_init_43 : decode cX2_init 43 = .ok (.newarray .boolean, 2) := by decide +kernel
theorem dX2_init_45 : decode cX2_init 45 = .ok (.putfield 26, 3) := by decide +kernel
theorem dX2_init_48 : decode cX2_init 48 = .ok (.aload_n 0, 1) := by decide +kernel
theorem dX2_init_49 : decode cX2_init 49 = .ok (.aload_n 1, 1) := by decide +kernel
theorem dX2_init_50 : decode cX2_init 50 = .ok (.putfield 30, 3) := by decide +kernel
theorem dX2_init_53 : decode cX2_init 53 = .ok (.return_, 1) := by decide +kernel
theorem dX2_grow_0 : decode cX2_grow 0 = .ok (.aload_n 0, 1) := by decide +kernel
theorem dX2_grow_1 : decode cX2_grow 1 = .ok (.invokevirtual 34, 3) := by decide +kernel
theorem dX2_grow_4 : decode cX2_grow 4 = .ok (.iconst 0, 1) := by decide +kernel
theorem dX2_grow_5 : decode cX2_grow 5 = .ok (.istore_n 1, 1) := by decide +kernel
theorem dX2_grow_6 : decode cX2_grow 6 = .ok (.iconst 0, 1) := by decide +kernel
theorem dX2_grow_7 : decode cX2_grow 7 = .ok (.istore_n 2, 1) := by decide +kernel
theorem dX2_grow_8 : decode cX2_grow 8 = .ok (.iconst 0, 1) := by decide +kernel
theorem dX2_grow_9 : decode cX2_grow 9 = .ok (.istore_n 3, 1) := by decide +kernel
theorem dX2_grow_10 : decode cX2_grow 10 = .ok (.iload_n 3, 1) := by decide +kernel
theorem dX2_grow_11 : decode cX2_grow 11 = .ok (.sipush 900, 3) := by decide +kernel
theorem dX2_grow_14 : decode cX2_grow 14 = .ok (.if_icmp .ge 102, 3) := by decide +kernel
theorem dX2_grow_17 : decode cX2_grow 17 = .ok (.iload_n 1, 1) := by decide +kernel
theorem dX2_grow_18 : decode cX2_grow 18 = .ok (.bipush (-2), 2) := by decide +kernel
theorem dX2_grow_20 : decode cX2_grow 20 = .ok (.if_icmp .eq 96, 3) := by decide +kernel
theorem dX2_grow_23 : decode cX2_grow 23 = .ok (.aload_n 0, 1) := by decide +kernel
theorem dX2_grow_24 : decode cX2_grow 24 = .ok (.getfield 26, 3) := by decide +kernel
theorem dX2_grow_27 : decode cX2_grow 27 = .ok (.iload_n 1, 1) := by decide +kernel
theorem dX2_grow_28 : decode cX2_grow 28 = .ok (.baload, 1) := by decide +kernel
theorem dX2_grow_29 : decode cX2_grow 29 = .ok (.ifCond .ne 14, 3) := by decide +kernel
theorem dX2_grow_32 : decode cX2_grow 32 = .ok (.iload_n 2, 1) := by decide +kernel
theorem dX2_grow_33 : decode cX2_grow 33 = .ok (.aload_n 0, 1) := by decide +kernel
theorem dX2_grow_34 : decode cX2_grow 34 = .ok (.getfield 30, 3) := by decide +kernel
theorem dX2_grow_37 : decode cX2_grow 37 = .ok (.getfield 37, 3) := by decide +kernel
theorem dX2_grow_40 : decode cX2_grow 40 = .ok (.if_icmp .ne 22, 3) := by decide +kernel
theorem dX2_grow_43 : decode cX2_grow 43 = .ok (.aload_n 0, 1) := by decide +kernel
theorem dX2_grow_44 : decode cX2_grow 44 = .ok (.getfield 20, 3) := by decide +kernel
theorem dX2_grow_47 : decode cX2_grow 47 = .ok (.iload_n 1, 1) := by decide +kernel
theorem dX2_grow_48 : decode cX2_grow 48 = .ok (.iaload, 1) := by decide +kernel
theorem dX2_grow_49 : decode cX2_grow 49 = .ok (.iconst 1, 1) := by decide +kernel
theorem dX2_grow_50 : decode cX2_grow 50 = .ok (.iadd, 1) := by decide +kernel
theorem dX2_grow_51 : decode cX2_grow 51 = .ok (.istore_n 2, 1) := by decide +kernel
theorem dX2_grow_52 : decode cX2_grow 52 = .ok (.aload_n 0, 1) := by decide +kernel
theorem dX2_grow_53 : decode cX2_grow 53 = .ok (.getfield 16, 3) := by decide +kernel
theorem dX2_grow_56 : decode cX2_grow 56 = .ok (.iload_n 1, 1) := by decide +kernel
theorem dX2_grow_57 : decode cX2_grow 57 = .ok (.iaload, 1) := by decide +kernel
theorem dX2_grow_58 : decode cX2_grow 58 = .ok (.istore_n 1, 1) := by decide +kernel
theorem dX2_grow_59 : decode cX2_grow 59 = .ok (.goto 51, 3) := by decide +kernel
theorem dX2_grow_62 : decode cX2_grow 62 = .ok (.aload_n 0, 1) := by decide +kernel
theorem dX2_grow_63 : decode cX2_grow 63 = .ok (.getfield 30, 3) := by decide +kernel
theorem dX2_grow_66 : decode cX2_grow 66 = .ok (.aload_n 0, 1) := by decide +kernel
theorem dX2_grow_67 : decode cX2_grow 67 = .ok (.getfield 11, 3) := by decide +kernel
theorem dX2_grow_70 : decode cX2_grow 70 = .ok (.iload_n 1, 1) := by decide +kernel
theorem dX2_grow_71 : decode cX2_grow 71 = .ok (.aaload, 1) := by decide +kernel
theorem dX2_grow_72 : decode cX2_grow 72 = .ok (.iload_n 2, 1) := by decide +kernel
theorem dX2_grow_73 : decode cX2_grow 73 = .ok (.invokevirtual 43, 3) := by decide +kernel
theorem dX2_grow_76 : decode cX2_grow 76 = .ok (.ifCond .ne 9, 3) := by decide +kernel
theorem dX2_grow_79 : decode cX2_grow 79 = .ok (.iinc 2 1, 3) := by decide +kernel
theorem dX2_grow_82 : decode cX2_grow 82 = .ok (.goto 28, 3) := by decide +kernel
theorem dX2_grow_85 : decode cX2_grow 85 = .ok (.aload_n 0, 1) := by decide +kernel
theorem dX2_grow_86 : decode cX2_grow 86 = .ok (.getfield 47, 3) := by decide +kernel
theorem dX2_grow_89 : decode cX2_grow 89 = .ok (.bipush 100, 2) := by decide +kernel
theorem dX2_grow_91 : decode cX2_grow 91 = .ok (.if_icmp .ne 10, 3) := by decide +kernel
theorem dX2_grow_94 : decode cX2_grow 94 = .ok (.aload_n 0, 1) := by decide +kernel
theorem dX2_grow_95 : decode cX2_grow 95 = .ok (.iconst 0, 1) := by decide +kernel
theorem dX2_grow_96 : decode cX2_grow 96 = .ok (.putfield 47, 3) := by decide +kernel
theorem dX2_grow_99 : decode cX2_grow 99 = .ok (.iconst 0, 1) := by decide +kernel
theorem dX2_grow_100 : decode cX2_grow 100 = .ok (.ireturn, 1) := by decide +kernel
theorem dX2_grow_101 : decode cX2_grow 101 = .ok (.aload_n 0, 1) := by decide +kernel
theorem dX2_grow_102 : decode cX2_grow 102 = .ok (.iload_n 1, 1) := by decide +kernel
theorem dX2_grow_103 : decode cX2_grow 103 = .ok (.iload_n 2, 1) := by decide +kernel
theorem dX2_grow_104 : decode cX2_grow 104 = .ok (.invokevirtual 50, 3) := by decide +kernel
theorem dX2_grow_107 : decode cX2_grow 107 = .ok (.istore_n 1, 1) := by decide +kernel
theorem dX2_grow_108 : decode cX2_grow 108 = .ok (.iconst 0, 1) := by decide +kernel
theorem dX2_grow_109 : decode cX2_grow 109 = .ok (.istore_n 2, 1) := by decide +kernel
theorem dX2_grow_110 : decode cX2_grow 110 = .ok (.iinc 3 1, 3) := by decide +kernel
theorem dX2_grow_113 : decode cX2_grow 113 = .ok (.goto (-103), 3) := by decide +kernel
theorem dX2_grow_116 : decode cX2_grow 116 = .ok (.iconst 1, 1) := by decide +kernel
theorem dX2_grow_117 : decode cX2_grow 117 = .ok (.ireturn, 1) := by decide +kernel
theorem dX2_addRoot_0 : decode cX2_addRoot 0 = .ok (.aload_n 0, 1) := by decide +kernel
theorem dX2_addRoot_1 : decode cX2_addRoot 1 = .ok (.getfield 11, 3) := by decide +kernel
theorem dX2_addRoot_4 : decode cX2_addRoot 4 = .ok (.iconst 0, 1) := by decide +kernel
theorem dX2_addRoot_5 : decode cX2_addRoot 5 = .ok (.aaload, 1) := by decide +kernel
theorem dX2_addRoot_6 : decode cX2_addRoot 6 = .ok (.aload_n 0, 1) := by decide +kernel
theorem dX2_addRoot_7 : decode cX2_addRoot 7 = .ok (.getfield 30, 3) := by decide +kernel
theorem dX2_addRoot_10 : decode cX2_addRoot 10 = .ok (.getfield 54, 3) := by decide +kernel
theorem dX2_addRoot_13 : decode cX2_addRoot 13 = .ok (.invokestatic 57, 3) := by decide +kernel
theorem dX2_addRoot_16 : decode cX2_addRoot 16 = .ok (.aload_n 0, 1) := by decide +kernel
theorem dX2_addRoot_17 : decode cX2_addRoot 17 = .ok (.getfield 16, 3) := by decide +kernel
theorem dX2_addRoot_20 : decode cX2_addRoot 20 = .ok (.iconst 0, 1) := by decide +kernel
theorem dX2_addRoot_21 : decode cX2_addRoot 21 = .ok (.bipush (-2), 2) := by decide +kernel
theorem dX2_addRoot_23 : decode cX2_addRoot 23 = .ok (.iastore, 1) := by decide +kernel
theorem dX2_addRoot_24 : decode cX2_addRoot 24 = .ok (.aload_n 0, 1) := by decide +kernel
theorem dX2_addRoot_25 : decode cX2_addRoot 25 = .ok (.getfield 20, 3) := by decide +kernel
theorem dX2_addRoot_28 : decode cX2_addRoot 28 = .ok (.iconst 0, 1) := by decide +kernel
theorem dX2_addRoot_29 : decode cX2_addRoot 29 = .ok (.bipush (-2), 2) := by decide +kernel
theorem dX2_addRoot_31 : decode cX2_addRoot 31 = .ok (.iastore, 1) := by decide +kernel
theorem dX2_addRoot_32 : decode cX2_addRoot 32 = .ok (.aload_n 0, 1) := by decide +kernel
theorem dX2_addRoot_33 : decode cX2_addRoot 33 = .ok (.getfield 23, 3) := by decide +kernel
theorem dX2_addRoot_36 : decode cX2_addRoot 36 = .ok (.iconst 0, 1) := by decide +kernel
theorem dX2_addRoot_37 : decode cX2_addRoot 37 = .ok (.iconst 0, 1) := by decide +kernel
theorem dX2_addRoot_38 : decode cX2_addRoot 38 = .ok (.iastore, 1) := by decide +kernel
theorem dX2_addRoot_39 : decode cX2_addRoot 39 = .ok (.aload_n 0, 1) := by decide +kernel
theorem dX2_addRoot_40 : decode cX2_addRoot 40 = .ok (.getfield 26, 3) := by decide +kernel
theorem dX2_addRoot_43 : decode cX2_addRoot 43 = .ok (.iconst 0, 1) := by decide +kernel
theorem dX2_addRoot_44 : decode cX2_addRoot 44 = .ok (.iconst 0, 1) := by decide +kernel
theorem dX2_addRoot_45 : decode cX2_addRoot 45 = .ok (.bastore, 1) := by decide +kernel
theorem dX2_addRoot_46 : decode cX2_addRoot 46 = .ok (.aload_n 0, 1) := by decide +kernel
theorem dX2_addRoot_47 : decode cX2_addRoot 47 = .ok (.bipush (-2), 2) := by decide +kernel
theorem dX2_addRoot_49 : decode cX2_addRoot 49 = .ok (.putfield 61, 3) := by decide +kernel
theorem dX2_addRoot_52 : decode cX2_addRoot 52 = .ok (.aload_n 0, 1) := by decide +kernel
theorem dX2_addRoot_53 : decode cX2_addRoot 53 = .ok (.iconst 1, 1) := by decide +kernel
theorem dX2_addRoot_54 : decode cX2_addRoot 54 = .ok (.putfield 47, 3) := by decide +kernel
theorem dX2_addRoot_57 : decode cX2_addRoot 57 = .ok (.return_, 1) := by decide +kernel
theorem dX2_addChild_0 : decode cX2_addChild 0 = .ok (.aload_n 0, 1) := by decide +kernel
theorem dX2_addChild_1 : decode cX2_addChild 1 = .ok (.getfield 47, 3) := by decide +kernel
theorem dX2_addChild_4 : decode cX2_addChild 4 = .ok (.istore_n 3, 1) := by decide +kernel
theorem dX2_addChild_5 : decode cX2_addChild 5 = .ok (.aload_n 0, 1) := by decide +kernel
theorem dX2_addChild_6 : decode cX2_addChild 6 = .ok (.getfield 30, 3) := by decide +kernel
theorem dX2_addChild_9 : decode cX2_addChild 9 = .ok (.aload_n 0, 1) := by decide +kernel
theorem dX2_addChild_10 : decode cX2_addChild 10 = .ok (.getfield 11, 3) := by decide +kernel
theorem dX2_addChild_13 : decode cX2_addChild 13 = .ok (.iload_n 1, 1) := by decide +kernel
theorem dX2_addChild_14 : decode cX2_addChild 14 = .ok (.aaload, 1) := by decide +kernel
theorem dX2_addChild_15 : decode cX2_addChild 15 = .ok (.iload_n 2, 1) := by decide +kernel
theorem dX2_addChild_16 : decode cX2_addChild 16 = .ok (.aload_n 0, 1) := by decide +kernel
theorem dX2_addChild_17 : decode cX2_addChild 17 = .ok (.getfield 11, 3) := by decide +kernel
theorem dX2_addChild_20 : decode cX2_addChild 20 = .ok (.iload_n 3, 1) := by decide +kernel
theorem dX2_addChild_21 : decode cX2_addChild 21 = .ok (.aaload, 1) := by decide +kernel
theorem dX2_addChild_22 : decode cX2_addChild 22 = .ok (.invokevirtual 64, 3) := by decide +kernel
theorem dX2_addChild_25 : decode cX2_addChild 25 = .ok (.aload_n 0, 1) := by decide +kernel
theorem dX2_addChild_26 : decode cX2_addChild 26 = .ok (.getfield 16, 3) := by decide +kernel
theorem dX2_addChild_29 : decode cX2_addChild 29 = .ok (.iload_n 3, 1) := by decide +kernel
theorem dX2_addChild_30 : decode cX2_addChild 30 = .ok (.iload_n 1, 1) := by decide +kernel
theorem dX2_addChild_31 : decode cX2_addChild 31 = .ok (.iastore, 1) := by decide +kernel
theorem dX2_addChild_32 : decode cX2_addChild 32 = .ok (.aload_n 0, 1) := by decide +kernel
theorem dX2_addChild_33 : decode cX2_addChild 33 = .ok (.getfield 20, 3) := by decide +kernel
theorem dX2_addChild_36 : decode cX2_addChild 36 = .ok (.iload_n 3, 1) := by decide +kernel
theorem dX2_addChild_37 : decode cX2_addChild 37 = .ok (.iload_n 2, 1) := by decide +kernel
theorem dX2_addChild_38 : decode cX2_addChild 38 = .ok (.iastore, 1) := by decide +kernel
theorem dX2_addChild_39 : decode cX2_addChild 39 = .ok (.aload_n 0, 1) := by decide +kernel
theorem dX2_addChild_40 : decode cX2_addChild 40 = .ok (.getfield 23, 3) := by decide +kernel
theorem dX2_addChild_43 : decode cX2_addChild 43 = .ok (.iload_n 3, 1) := by decide +kernel
theorem dX2_addChild_44 : decode cX2_addChild 44 = .ok (.aload_n 0, 1) := by decide +kernel
theorem dX2_addChild_45 : decode cX2_addChild 45 = .ok (.getfield 23, 3) := by decide +kernel
theorem dX2_addChild_48 : decode cX2_addChild 48 = .ok (.iload_n 1, 1) := by decide +kernel
theorem dX2_addChild_49 : decode cX2_addChild 49 = .ok (.iaload, 1) := by decide +kernel
theorem dX2_addChild_50 : decode cX2_addChild 50 = .ok (.iconst 1, 1) := by decide +kernel
theorem dX2_addChild_51 : decode cX2_addChild 51 = .ok (.iadd, 1) := by decide +kernel
theorem dX2_addChild_52 : decode cX2_addChild 52 = .ok (.iastore, 1) := by decide +kernel
theorem dX2_addChild_53 : decode cX2_addChild 53 = .ok (.aload_n 0, 1) := by decide +kernel
theorem dX2_addChild_54 : decode cX2_addChild 54 = .ok (.iload_n 3, 1) := by decide +kernel
theorem dX2_addChild_55 : decode cX2_addChild 55 = .ok (.invokevirtual 68, 3) := by decide +kernel
theorem dX2_addChild_58 : decode cX2_addChild 58 = .ok (.aload_n 0, 1) := by decide +kernel
theorem dX2_addChild_59 : decode cX2_addChild 59 = .ok (.getfield 26, 3) := by decide +kernel
theorem dX2_addChild_62 : decode cX2_addChild 62 = .ok (.iload_n 3, 1) := by decide +kernel
theorem dX2_addChild_63 : decode cX2_addChild 63 = .ok (.aload_n 0, 1) := by decide +kernel
theorem dX2_addChild_64 : decode cX2_addChild 64 = .ok (.iload_n 3, 1) := by decide +kernel
theorem dX2_addChild_65 : decode cX2_addChild 65 = .ok (.invokevirtual 72, 3) := by decide +kernel
theorem dX2_addChild_68 : decode cX2_addChild 68 = .ok (.bastore, 1) := by decide +kernel
theorem dX2_addChild_69 : decode cX2_addChild 69 = .ok (.aload_n 0, 1) := by decide +kernel
theorem dX2_addChild_70 : decode cX2_addChild 70 = .ok (.dup, 1) := by decide +kernel
theorem dX2_addChild_71 : decode cX2_addChild 71 = .ok (.getfield 47, 3) := by decide +kernel
theorem dX2_addChild_74 : decode cX2_addChild 74 = .ok (.iconst 1, 1) := by decide +kernel
theorem dX2_addChild_75 : decode cX2_addChild 75 = .ok (.iadd, 1) := by decide +kernel
theorem dX2_addChild_76 : decode cX2_addChild 76 = .ok (.putfield 47, 3) := by decide +kernel
theorem dX2_addChild_79 : decode cX2_addChild 79 = .ok (.iload_n 3, 1) := by decide +kernel
theorem dX2_addChild_80 : decode cX2_addChild 80 = .ok (.ireturn, 1) := by decide +kernel
theorem dX2_makeEndlessWhatRepeats_0 : decode cX2_makeEndlessWhatRepeats 0 = .ok (.aload_n 0, 1) := by decide +kernel
theorem dX2_makeEndlessWhatRepeats_1 : decode cX2_makeEndlessWhatRepeats 1 = .ok (.getfield 11, 3) := by decide +kernel
theorem dX2_makeEndlessWhatRepeats_4 : decode cX2_makeEndlessWhatRepeats 4 = .ok (.iload_n 1, 1) := by decide +kernel
theorem dX2_makeEndlessWhatRepeats_5 : decode cX2_makeEndlessWhatRepeats 5 = .ok (.aaload, 1) := by decide +kernel
theorem dX2_makeEndlessWhatRepeats_6 : decode cX2_makeEndlessWhatRepeats 6 = .ok (.astore_n 2, 1) := by decide +kernel
theorem dX2_makeEndlessWhatRepeats_7 : decode cX2_makeEndlessWhatRepeats 7 = .ok (.aload_n 0, 1) := by decide +kernel
theorem dX2_makeEndlessWhatRepeats_8 : decode cX2_makeEndlessWhatRepeats 8 = .ok (.getfield 16, 3) := by decide +kernel
theorem dX2_makeEndlessWhatRepeats_11 : decode cX2_makeEndlessWhatRepeats 11 = .ok (.iload_n 1, 1) := by decide +kernel
theorem dX2_makeEndlessWhatRepeats_12 : decode cX2_makeEndlessWhatRepeats 12 = .ok (.iaload, 1) := by decide +kernel
theorem dX2_makeEndlessWhatRepeats_13 : decode cX2_makeEndlessWhatRepeats 13 = .ok (.istore_n 3, 1) := by decide +kernel
theorem dX2_makeEndlessWhatRepeats_14 : decode cX2_makeEndlessWhatRepeats 14 = .ok (.aload_n 0, 1) := by decide +kernel
theorem dX2_makeEndlessWhatRepeats_15 : decode cX2_makeEndlessWhatRepeats 15 = .ok (.getfield 23, 3) := by decide +kernel
theorem dX2_makeEndlessWhatRepeats_18 : decode cX2_makeEndlessWhatRepeats 18 = .ok (.iload_n 1, 1) := by decide +kernel
theorem dX2_makeEndlessWhatRepeats_19 : decode cX2_makeEndlessWhatRepeats 19 = .ok (.iaload, 1) := by decide +kernel
theorem dX2_makeEndlessWhatRepeats_20 : decode cX2_makeEndlessWhatRepeats 20 = .ok (.iconst 1, 1) := by decide +kernel
theorem dX2_makeEndlessWhatRepeats_21 : decode cX2_makeEndlessWhatRepeats 21 = .ok (.isub, 1) := by decide +kernel
theorem dX2_makeEndlessWhatRepeats_22 : decode cX2_makeEndlessWhatRepeats 22 = .ok (.istore 4, 2) := by decide +kernel
theorem dX2_makeEndlessWhatRepeats_24 : decode cX2_makeEndlessWhatRepeats 24 = .ok (.iload 4, 2) := by decide +kernel
theorem dX2_makeEndlessWhatRepeats_26 : decode cX2_makeEndlessWhatRepeats 26 = .ok (.ifCond .lt 56, 3) := by decide +kernel
theorem dX2_makeEndlessWhatRepeats_29 : decode cX2_makeEndlessWhatRepeats 29 = .ok (.aload_n 0, 1) := by decide +kernel
theorem dX2_makeEndlessWhatRepeats_30 : decode cX2_makeEndlessWhatRepeats 30 = .ok (.getfield 11, 3) := by decide +kernel
theorem dX2_makeEndlessWhatRepeats_33 : decode cX2_makeEndlessWhatRepeats 33 = .ok (.iload_n 3, 1) := by decide +kernel
theorem dX2_makeEndlessWhatRepeats_34 : decode cX2_makeEndlessWhatRepeats 34 = .ok (.aaload, 1) := by decide +kernel
theorem dX2_makeEndlessWhatRepeats_35 : decode cX2_makeEndlessWhatRepeats 35 = .ok (.astore 5, 2) := by decide +kernel
theorem dX2_makeEndlessWhatRepeats_37 : decode cX2_makeEndlessWhatRepeats 37 = .ok (.aload_n 2, 1) := by decide +kernel
theorem dX2_makeEndlessWhatRepeats_38 : decode cX2_makeEndlessWhatRepeats 38 = .ok (.aload 5, 2) := by decide +kernel
theorem dX2_makeEndlessWhatRepeats_40 : decode cX2_makeEndlessWhatRepeats 40 = .ok (.invokestatic 76, 3) := by decide +kernel
theorem dX2_makeEndlessWhatRepeats_43 : decode cX2_makeEndlessWhatRepeats 43 = .ok (.ifCond .eq 26, 3) := by decide +kernel
theorem dX2_makeEndlessWhatRepeats_46 : decode cX2_makeEndlessWhatRepeats 46 = .ok (.aload_n 2, 1) := by decide +kernel
theorem dX2_makeEndlessWhatRepeats_47 : decode cX2_makeEndlessWhatRepeats 47 = .ok (.aload 5, 2) := by decide +kernel
theorem dX2_makeEndlessWhatRepeats_49 : decode cX2_makeEndlessWhatRepeats 49 = .ok (.invokestatic 80, 3) := by decide +kernel
theorem dX2_makeEndlessWhatRepeats_52 : decode cX2_makeEndlessWhatRepeats 52 = .ok (.ifCond .ne 17, 3) := by decide +kernel
theorem dX2_makeEndlessWhatRepeats_55 : decode cX2_makeEndlessWhatRepeats 55 = .ok (.aload_n 0, 1) := by decide +kernel
theorem dX2_makeEndlessWhatRepeats_56 : decode cX2_makeEndlessWhatRepeats 56 = .ok (.aload_n 2, 1) := by decide +kernel
theorem dX2_makeEndlessWhatRepeats_57 : decode cX2_makeEndlessWhatRepeats 57 = .ok (.aload 5, 2) := by decide +kernel
theorem dX2_makeEndlessWhatRepeats_59 : decode cX2_makeEndlessWhatRepeats 59 = .ok (.invokevirtual 83, 3) := by decide +kernel
theorem dX2_makeEndlessWhatRepeats_62 : decode cX2_makeEndlessWhatRepeats 62 = .ok (.aload_n 0, 1) := by decide +kernel
theorem dX2_makeEndlessWhatRepeats_63 : decode cX2_makeEndlessWhatRepeats 63 = .ok (.iload_n 1, 1) := by decide +kernel
theorem dX2_makeEndlessWhatRepeats_64 : decode cX2_makeEndlessWhatRepeats 64 = .ok (.iload 4, 2) := by decide +kernel
theorem dX2_makeEndlessWhatRepeats_66 : decode cX2_makeEndlessWhatRepeats 66 = .ok (.invokevirtual 86, 3) := by decide +kernel
theorem dX2_makeEndlessWhatRepeats_69 : decode cX2_makeEndlessWhatRepeats 69 = .ok (.aload_n 0, 1) := by decide +kernel
theorem dX2_makeEndlessWhatRepeats_70 : decode cX2_makeEndlessWhatRepeats 70 = .ok (.getfield 16, 3) := by decide +kernel
theorem dX2_makeEndlessWhatRepeats_73 : decode cX2_makeEndlessWhatRepeats 73 = .ok (.iload_n 3, 1) := by decide +kernel
theorem dX2_makeEndlessWhatRepeats_74 : decode cX2_makeEndlessWhatRepeats 74 = .ok (.iaload, 1) := by decide +kernel
theorem dX2_makeEndlessWhatRepeats_75 : decode cX2_makeEndlessWhatRepeats 75 = .ok (.istore_n 3, 1) := by decide +kernel
theorem dX2_makeEndlessWhatRepeats_76 : decode cX2_makeEndlessWhatRepeats 76 = .ok (.iinc 4 (-1), 3) := by decide +kernel
theorem dX2_makeEndlessWhatRepeats_79 : decode cX2_makeEndlessWhatRepeats 79 = .ok (.goto (-55), 3) := by decide +kernel
theorem dX2_makeEndlessWhatRepeats_82 : decode cX2_makeEndlessWhatRepeats 82 = .ok (.return_, 1) := by decide +kernel
theorem dX2_makeEndlessWhereMore_0 : decode cX2_makeEndlessWhereMore 0 = .ok (.iconst 0, 1) := by decide +kernel
theorem dX2_makeEndlessWhereMore_1 : decode cX2_makeEndlessWhereMore 1 = .ok (.istore_n 3, 1) := by decide +kernel
theorem dX2_makeEndlessWhereMore_2 : decode cX2_makeEndlessWhereMore 2 = .ok (.iload_n 3, 1) := by decide +kernel
theorem dX2_makeEndlessWhereMore_3 : decode cX2_makeEndlessWhereMore 3 = .ok (.bipush 6, 2) := by decide +kernel
theorem dX2_makeEndlessWhereMore_5 : decode cX2_makeEndlessWhereMore 5 = .ok (.if_icmp .ge 23, 3) := by decide +kernel
theorem dX2_makeEndlessWhereMore_8 : decode cX2_makeEndlessWhereMore 8 = .ok (.aload_n 1, 1) := by decide +kernel
theorem dX2_makeEndlessWhereMore_9 : decode cX2_makeEndlessWhereMore 9 = .ok (.iload_n 3, 1) := by decide +kernel
theorem dX2_makeEndlessWhereMore_10 : decode cX2_makeEndlessWhereMore 10 = .ok (.iaload, 1) := by decide +kernel
theorem dX2_makeEndlessWhereMore_11 : decode cX2_makeEndlessWhereMore 11 = .ok (.aload_n 2, 1) := by decide +kernel
theorem dX2_makeEndlessWhereMore_12 : decode cX2_makeEndlessWhereMore 12 = .ok (.iload_n 3, 1) := by decide +kernel
theorem dX2_makeEndlessWhereMore_13 : decode cX2_makeEndlessWhereMore 13 = .ok (.iaload, 1) := by decide +kernel
theorem dX2_makeEndlessWhereMore_14 : decode cX2_makeEndlessWhereMore 14 = .ok (.if_icmp .le 8, 3) := by decide +kernel
theorem dX2_makeEndlessWhereMore_17 : decode cX2_makeEndlessWhereMore 17 = .ok (.aload_n 1, 1) := by decide +kernel
theorem dX2_makeEndlessWhereMore_18 : decode cX2_makeEndlessWhereMore 18 = .ok (.iload_n 3, 1) := by decide +kernel
theorem dX2_makeEndlessWhereMore_19 : decode cX2_makeEndlessWhereMore 19 = .ok (.ldc 90, 2) := by decide +kernel
theorem dX2_makeEndlessWhereMore_21 : decode cX2_makeEndlessWhereMore 21 = .ok (.iastore, 1) := by decide +kernel
theorem dX2_makeEndlessWhereMore_22 : decode cX2_makeEndlessWhereMore 22 = .ok (.iinc 3 1, 3) := by decide +kernel
theorem dX2_makeEndlessWhereMore_25 : decode cX2_makeEndlessWhereMore 25 = .ok (.goto (-23), 3) := by decide +kernel
theorem dX2_makeEndlessWhereMore_28 : decode cX2_makeEndlessWhereMore 28 = .ok (.return_, 1) := by decide +kernel
theorem dX2_noteFirstEndless_0 : decode cX2_noteFirstEndless 0 = .ok (.aload_n 0, 1) := by decide +kernel
theorem dX2_noteFirstEndless_1 : decode cX2_noteFirstEndless 1 = .ok (.getfield 61, 3) := by decide +kernel
theorem dX2_noteFirstEndless_4 : decode cX2_noteFirstEndless 4 = .ok (.bipush (-2), 2) := by decide +kernel
theorem dX2_noteFirstEndless_6 : decode cX2_noteFirstEndless 6 = .ok (.if_icmp .ne 13, 3) := by decide +kernel
theorem dX2_noteFirstEndless_9 : decode cX2_noteFirstEndless 9 = .ok (.aload_n 0, 1) := by decide +kernel
theorem dX2_noteFirstEndless_10 : decode cX2_noteFirstEndless 10 = .ok (.iload_n 1, 1) := by decide +kernel
theorem dX2_noteFirstEndless_11 : decode cX2_noteFirstEndless 11 = .ok (.putfield 61, 3) := by decide +kernel
theorem dX2_noteFirstEndless_14 : decode cX2_noteFirstEndless 14 = .ok (.aload_n 0, 1) := by decide +kernel
theorem dX2_noteFirstEndless_15 : decode cX2_noteFirstEndless 15 = .ok (.iload_n 2, 1) := by decide +kernel
theorem dX2_noteFirstEndless_16 : decode cX2_noteFirstEndless 16 = .ok (.putfield 91, 3) := by decide +kernel
theorem dX2_noteFirstEndless_19 : decode cX2_noteFirstEndless 19 = .ok (.return_, 1) := by decide +kernel
theorem dX2_isAmongEarlier_0 : decode cX2_isAmongEarlier 0 = .ok (.iconst 0, 1) := by decide +kernel
theorem dX2_isAmongEarlier_1 : decode cX2_isAmongEarlier 1 = .ok (.istore_n 2, 1) := by decide +kernel
theorem dX2_isAmongEarlier_2 : decode cX2_isAmongEarlier 2 = .ok (.iload_n 2, 1) := by decide +kernel
theorem dX2_isAmongEarlier_3 : decode cX2_isAmongEarlier 3 = .ok (.iload_n 1, 1) := by decide +kernel
theorem dX2_isAmongEarlier_4 : decode cX2_isAmongEarlier 4 = .ok (.if_icmp .ge 29, 3) := by decide +kernel
theorem dX2_isAmongEarlier_7 : decode cX2_isAmongEarlier 7 = .ok (.aload_n 0, 1) := by decide +kernel
theorem dX2_isAmongEarlier_8 : decode cX2_isAmongEarlier 8 = .ok (.getfield 11, 3) := by decide +kernel
theorem dX2_isAmongEarlier_11 : decode cX2_isAmongEarlier 11 = .ok (.iload_n 2, 1) := by decide +kernel
theorem dX2_isAmongEarlier_12 : decode cX2_isAmongEarlier 12 = .ok (.aaload, 1) := by decide +kernel
theorem dX2_isAmongEarlier_13 : decode cX2_isAmongEarlier 13 = .ok (.aload_n 0, 1) := by decide +kernel
theorem dX2_isAmongEarlier_14 : decode cX2_isAmongEarlier 14 = .ok (.getfield 11, 3) := by decide +kernel
theorem dX2_isAmongEarlier_17 : decode cX2_isAmongEarlier 17 = .ok (.iload_n 1, 1) := by decide +kernel
theorem dX2_isAmongEarlier_18 : decode cX2_isAmongEarlier 18 = .ok (.aaload, 1) := by decide +kernel
theorem dX2_isAmongEarlier_19 : decode cX2_isAmongEarlier 19 = .ok (.invokestatic 80, 3) := by decide +kernel
theorem dX2_isAmongEarlier_22 : decode cX2_isAmongEarlier 22 = .ok (.ifCond .eq 5, 3) := by decide +kernel
theorem dX2_isAmongEarlier_25 : decode cX2_isAmongEarlier 25 = .ok (.iconst 1, 1) := by decide +kernel
theorem dX2_isAmongEarlier_26 : decode cX2_isAmongEarlier 26 = .ok (.ireturn, 1) := by decide +kernel
theorem dX2_isAmongEarlier_27 : decode cX2_isAmongEarlier 27 = .ok (.iinc 2 1, 3) := by decide +kernel
theorem dX2_isAmongEarlier_30 : decode cX2_isAmongEarlier 30 = .ok (.goto (-28), 3) := by decide +kernel
theorem dX2_isAmongEarlier_33 : decode cX2_isAmongEarlier 33 = .ok (.iconst 0, 1) := by decide +kernel
theorem dX2_isAmongEarlier_34 : decode cX2_isAmongEarlier 34 = .ok (.ireturn, 1) := by decide +kernel
theorem dX2_hasEndless_0 : decode cX2_hasEndless 0 = .ok (.aload_n 0, 1) := by decide +kernel
theorem dX2_hasEndless_1 : decode cX2_hasEndless 1 = .ok (.getfield 61, 3) := by decide +kernel
theorem dX2_hasEndless_4 : decode cX2_hasEndless 4 = .ok (.bipush (-2), 2) := by decide +kernel
theorem dX2_hasEndless_6 : decode cX2_hasEndless 6 = .ok (.if_icmp .eq 7, 3) := by decide +kernel
theorem dX2_hasEndless_9 : decode cX2_hasEndless 9 = .ok (.iconst 1, 1) := by decide +kernel
theorem dX2_hasEndless_10 : decode cX2_hasEndless 10 = .ok (.goto 4, 3) := by decide +kernel
theorem dX2_hasEndless_13 : decode cX2_hasEndless 13 = .ok (.iconst 0, 1) := by decide +kernel
theorem dX2_hasEndless_14 : decode cX2_hasEndless 14 = .ok (.ireturn, 1) := by decide +kernel
theorem dX2_stepToFirstEndless_0 : decode cX2_stepToFirstEndless 0 = .ok (.aload_n 0, 1) := by decide +kernel
theorem dX2_stepToFirstEndless_1 : decode cX2_stepToFirstEndless 1 = .ok (.getfield 61, 3) := by decide +kernel
theorem dX2_stepToFirstEndless_4 : decode cX2_stepToFirstEndless 4 = .ok (.istore_n 2, 1) := by decide +kernel
theorem dX2_stepToFirstEndless_5 : decode cX2_stepToFirstEndless 5 = .ok (.iload_n 1, 1) := by decide +kernel
theorem dX2_stepToFirstEndless_6 : decode cX2_stepToFirstEndless 6 = .ok (.aload_n 0, 1) := by decide +kernel
theorem dX2_stepToFirstEndless_7 : decode cX2_stepToFirstEndless 7 = .ok (.getfield 23, 3) := by decide +kernel
theorem dX2_stepToFirstEndless_10 : decode cX2_stepToFirstEndless 10 = .ok (.iload_n 2, 1) := by decide +kernel
theorem dX2_stepToFirstEndless_11 : decode cX2_stepToFirstEndless 11 = .ok (.iaload, 1) := by decide +kernel
theorem dX2_stepToFirstEndless_12 : decode cX2_stepToFirstEndless 12 = .ok (.if_icmp .lt 5, 3) := by decide +kernel
theorem dX2_stepToFirstEndless_15 : decode cX2_stepToFirstEndless 15 = .ok (.iconst (-1), 1) := by decide +kernel
theorem dX2_stepToFirstEndless_16 : decode cX2_stepToFirstEndless 16 = .ok (.ireturn, 1) := by decide +kernel
theorem dX2_stepToFirstEndless_17 : decode cX2_stepToFirstEndless 17 = .ok (.aload_n 0, 1) := by decide +kernel
theorem dX2_stepToFirstEndless_18 : decode cX2_stepToFirstEndless 18 = .ok (.getfield 23, 3) := by decide +kernel
theorem dX2_stepToFirstEndless_21 : decode cX2_stepToFirstEndless 21 = .ok (.iload_n 2, 1) := by decide +kernel
theorem dX2_stepToFirstEndless_22 : decode cX2_stepToFirstEndless 22 = .ok (.iaload, 1) := by decide +kernel
theorem dX2_stepToFirstEndless_23 : decode cX2_stepToFirstEndless 23 = .ok (.istore_n 3, 1) := by decide +kernel
theorem dX2_stepToFirstEndless_24 : decode cX2_stepToFirstEndless 24 = .ok (.iload_n 3, 1) := by decide +kernel
theorem dX2_stepToFirstEndless_25 : decode cX2_stepToFirstEndless 25 = .ok (.iload_n 1, 1) := by decide +kernel
theorem dX2_stepToFirstEndless_26 : decode cX2_stepToFirstEndless 26 = .ok (.iconst 1, 1) := by decide +kernel
theorem dX2_stepToFirstEndless_27 : decode cX2_stepToFirstEndless 27 = .ok (.iadd, 1) := by decide +kernel
theorem dX2_stepToFirstEndless_28 : decode cX2_stepToFirstEndless 28 = .ok (.if_icmp .le 16, 3) := by decide +kernel
theorem dX2_stepToFirstEndless_31 : decode cX2_stepToFirstEndless 31 = .ok (.aload_n 0, 1) := by decide +kernel
theorem dX2_stepToFirstEndless_32 : decode cX2_stepToFirstEndless 32 = .ok (.getfield 16, 3) := by decide +kernel
theorem dX2_stepToFirstEndless_35 : decode cX2_stepToFirstEndless 35 = .ok (.iload_n 2, 1) := by decide +kernel
theorem dX2_stepToFirstEndless_36 : decode cX2_stepToFirstEndless 36 = .ok (.iaload, 1) := by decide +kernel
theorem dX2_stepToFirstEndless_37 : decode cX2_stepToFirstEndless 37 = .ok (.istore_n 2, 1) := by decide +kernel
theorem dX2_stepToFirstEndless_38 : decode cX2_stepToFirstEndless 38 = .ok (.iinc 3 (-1), 3) := by decide +kernel
theorem dX2_stepToFirstEndless_41 : decode cX2_stepToFirstEndless 41 = .ok (.goto (-17), 3) := by decide +kernel
theorem dX2_stepToFirstEndless_44 : decode cX2_stepToFirstEndless 44 = .ok (.aload_n 0, 1) := by decide +kernel
theorem dX2_stepToFirstEndless_45 : decode cX2_stepToFirstEndless 45 = .ok (.getfield 20, 3) := by decide +kernel
theorem dX2_stepToFirstEndless_48 : decode cX2_stepToFirstEndless 48 = .ok (.iload_n 2, 1) := by decide +kernel
theorem dX2_stepToFirstEndless_49 : decode cX2_stepToFirstEndless 49 = .ok (.iaload, 1) := by decide +kernel
theorem dX2_stepToFirstEndless_50 : decode cX2_stepToFirstEndless 50 = .ok (.ireturn, 1) := by decide +kernel
theorem dX2_greatestCount_0 : decode cX2_greatestCount 0 = .ok (.iconst 0, 1) := by decide +kernel
theorem dX2_greatestCount_1 : decode cX2_greatestCount 1 = .ok (.istore_n 2, 1) := by decide +kernel
theorem dX2_greatestCount_2 : decode cX2_greatestCount 2 = .ok (.iconst 0, 1) := by decide +kernel
theorem dX2_greatestCount_3 : decode cX2_greatestCount 3 = .ok (.istore_n 3, 1) := by decide +kernel
theorem dX2_greatestCount_4 : decode cX2_greatestCount 4 = .ok (.iload_n 3, 1) := by decide +kernel
theorem dX2_greatestCount_5 : decode cX2_greatestCount 5 = .ok (.aload_n 0, 1) := by decide +kernel
theorem dX2_greatestCount_6 : decode cX2_greatestCount 6 = .ok (.getfield 47, 3) := by decide +kernel
theorem dX2_greatestCount_9 : decode cX2_greatestCount 9 = .ok (.if_icmp .ge 22, 3) := by decide +kernel
theorem dX2_greatestCount_12 : decode cX2_greatestCount 12 = .ok (.iload_n 2, 1) := by decide +kernel
theorem dX2_greatestCount_13 : decode cX2_greatestCount 13 = .ok (.aload_n 0, 1) := by decide +kernel
theorem dX2_greatestCount_14 : decode cX2_greatestCount 14 = .ok (.getfield 11, 3) := by decide +kernel
theorem dX2_greatestCount_17 : decode cX2_greatestCount 17 = .ok (.iload_n 3, 1) := by decide +kernel
theorem dX2_greatestCount_18 : decode cX2_greatestCount 18 = .ok (.aaload, 1) := by decide +kernel
theorem dX2_greatestCount_19 : decode cX2_greatestCount 19 = .ok (.iload_n 1, 1) := by decide +kernel
theorem dX2_greatestCount_20 : decode cX2_greatestCount 20 = .ok (.iaload, 1) := by decide +kernel
theorem dX2_greatestCount_21 : decode cX2_greatestCount 21 = .ok (.invokestatic 94, 3) := by decide +kernel
theorem dX2_greatestCount_24 : decode cX2_greatestCount 24 = .ok (.istore_n 2, 1) := by decide +kernel
theorem dX2_greatestCount_25 : decode cX2_greatestCount 25 = .ok (.iinc 3 1, 3) := by decide +kernel
theorem dX2_greatestCount_28 : decode cX2_greatestCount 28 = .ok (.goto (-24), 3) := by decide +kernel
theorem dX2_greatestCount_31 : decode cX2_greatestCount 31 = .ok (.iload_n 2, 1) := by decide +kernel
theorem dX2_greatestCount_32 : decode cX2_greatestCount 32 = .ok (.ireturn, 1) := by decide +kernel
theorem dX2_hasNodeCovering_0 : decode cX2_hasNodeCovering 0 = .ok (.iconst 0, 1) := by decide +kernel
theorem dX2_hasNodeCovering_1 : decode cX2_hasNodeCovering 1 = .ok (.istore_n 2, 1) := by decide +kernel
theorem dX2_hasNodeCovering_2 : decode cX2_hasNodeCovering 2 = .ok (.iload_n 2, 1) := by decide +kernel
theorem dX2_hasNodeCovering_3 : decode cX2_hasNodeCovering 3 = .ok (.aload_n 0, 1) := by decide +kernel
theorem dX2_hasNodeCovering_4 : decode cX2_hasNodeCovering 4 = .ok (.getfield 47, 3) := by decide +kernel
theorem dX2_hasNodeCovering_7 : decode cX2_hasNodeCovering 7 = .ok (.if_icmp .ge 24, 3) := by decide +kernel
theorem dX2_hasNodeCovering_10 : decode cX2_hasNodeCovering 10 = .ok (.aload_n 0, 1) := by decide +kernel
theorem dX2_hasNodeCovering_11 : decode cX2_hasNodeCovering 11 = .ok (.getfield 11, 3) := by decide +kernel
theorem dX2_hasNodeCovering_14 : decode cX2_hasNodeCovering 14 = .ok (.iload_n 2, 1) := by decide +kernel
theorem dX2_hasNodeCovering_15 : decode cX2_hasNodeCovering 15 = .ok (.aaload, 1) := by decide +kernel
theorem dX2_hasNodeCovering_16 : decode cX2_hasNodeCovering 16 = .ok (.aload_n 1, 1) := by decide +kernel
theorem dX2_hasNodeCovering_17 : decode cX2_hasNodeCovering 17 = .ok (.invokestatic 76, 3) := by decide +kernel
theorem dX2_hasNodeCovering_20 : decode cX2_hasNodeCovering 20 = .ok (.ifCond .eq 5, 3) := by decide +kernel
theorem dX2_hasNodeCovering_23 : decode cX2_hasNodeCovering 23 = .ok (.iconst 1, 1) := by decide +kernel
theorem dX2_hasNodeCovering_24 : decode cX2_hasNodeCovering 24 = .ok (.ireturn, 1) := by decide +kernel
theorem dX2_hasNodeCovering_25 : decode cX2_hasNodeCovering 25 = .ok (.iinc 2 1, 3) := by decide +kernel
theorem dX2_hasNodeCovering_28 : decode cX2_hasNodeCovering 28 = .ok (.goto (-26), 3) := by decide +kernel
theorem dX2_hasNodeCovering_31 : decode cX2_hasNodeCovering 31 = .ok (.iconst 0, 1) := by decide +kernel
theorem dX2_hasNodeCovering_32 : decode cX2_hasNodeCovering 32 = .ok (.ireturn, 1) := by decide +kernel
theorem dX2_hasNodeEnabling_0 : decode cX2_hasNodeEnabling 0 = .ok (.aload_n 0, 1) := by decide +kernel
theorem dX2_hasNodeEnabling_1 : decode cX2_hasNodeEnabling 1 = .ok (.aload_n 0, 1) := by decide +kernel
theorem dX2_hasNodeEnabling_2 : decode cX2_hasNodeEnabling 2 = .ok (.getfield 30, 3) := by decide +kernel
theorem dX2_hasNodeEnabling_5 : decode cX2_hasNodeEnabling 5 = .ok (.getfield 99, 3) := by decide +kernel
theorem dX2_hasNodeEnabling_8 : decode cX2_hasNodeEnabling 8 = .ok (.iload_n 1, 1) := by decide +kernel
theorem dX2_hasNodeEnabling_9 : decode cX2_hasNodeEnabling 9 = .ok (.aaload, 1) := by decide +kernel
theorem dX2_hasNodeEnabling_10 : decode cX2_hasNodeEnabling 10 = .ok (.invokevirtual 102, 3) := by decide +kernel
theorem dX2_hasNodeEnabling_13 : decode cX2_hasNodeEnabling 13 = .ok (.ireturn, 1) := by decide +kernel
theorem dX3_init_0 : decode cX3_init 0 = .ok (.aload_n 0, 1) := by decide +kernel
theorem dX3_init_1 : decode cX3_init 1 = .ok (.invokespecial 1, 3) := by decide +kernel
theorem dX3_init_4 : decode cX3_init 4 = .ok (.aload_n 0, 1) := by decide +kernel
theorem dX3_init_5 : decode cX3_init 5 = .ok (.new 7, 3) := by decide +kernel
theorem dX3_init_8 : decode cX3_init 8 = .ok (.dup, 1) := by decide +kernel
theorem dX3_init_9 : decode cX3_init 9 = .ok (.invokespecial 9, 3) := by decide +kernel
theorem dX3_init_12 : decode cX3_init 12 = .ok (.putfield 10, 3) := by decide +kernel
theorem dX3_init_15 : decode cX3_init 15 = .ok (.aload_n 0, 1) := by decide +kernel
theorem dX3_init_16 : decode cX3_init 16 = .ok (.bipush 6, 2) := by decide +kernel
theorem dX3_init_18 : decode cX3_init 18 = .ok (.newarray .int, 2) := by decide +kernel
theorem dX3_init_20 : decode cX3_init 20 = .ok (.putfield 16, 3) := by decide +kernel
theorem dX3_init_23 : decode cX3_init 23 = .ok (.aload_n 0, 1) := by decide +kernel
theorem dX3_init_24 : decode cX3_init 24 = .ok (.new 20, 3) := by decide +kernel
theorem dX3_init_27 : decode cX3_init 27 = .ok (.dup, 1) := by decide +kernel
theorem dX3_init_28 : decode cX3_init 28 = .ok (.aload_n 0, 1) := by decide +kernel
theorem dX3_init_29 : decode cX3_init 29 = .ok (.getfield 10, 3) := by decide +kernel
theorem dX3_init_32 : decode cX3_init 32 = .ok (.invokespecial 22, 3) := by decide +kernel
theorem dX3_init_35 : decode cX3_init 35 = .ok (.putfield 25, 3) := by decide +kernel
theorem dX3_init_38 : decode cX3_init 38 = .ok (.aload_n 0, 1) := by decide +kernel
theorem dX3_init_39 : decode cX3_init 39 = .ok (.new 29, 3) := by decide +kernel
theorem dX3_init_42 : decode cX3_init 42 = .ok (.dup, 1) := by decide +kernel
theorem dX3_init_43 : decode cX3_init 43 = .ok (.aload_n 0, 1) := by decide +kernel
theorem dX3_init_44 : decode cX3_init 44 = .ok (.getfield 10, 3) := by decide +kernel
theorem dX3_init_47 : decode cX3_init 47 = .ok (.invokespecial 31, 3) := by decide +kernel
theorem dX3_init_50 : decode cX3_init 50 = .ok (.putfield 32, 3) := by decide +kernel
theorem dX3_init_53 : decode cX3_init 53 = .ok (.return_, 1) := by decide +kernel
theorem dX3_place_0 : decode cX3_place 0 = .ok (.iload_n 1, 1) := by decide +kernel
theorem dX3_place_1 : decode cX3_place 1 = .ok (.bipush 9, 2) := by decide +kernel
theorem dX3_place_3 : decode cX3_place 3 = .ok (.invokestatic 36, 3) := by decide +kernel
theorem dX3_place_6 : decode cX3_place 6 = .ok (.aload_n 0, 1) := by decide +kernel
theorem dX3_place_7 : decode cX3_place 7 = .ok (.getfield 10, 3) := by decide +kernel
theorem dX3_place_10 : decode cX3_place 10 = .ok (.getfield 40, 3) := by decide +kernel
theorem dX3_place_13 : decode cX3_place 13 = .ok (.bipush 6, 2) := by decide +kernel
theorem dX3_place_15 : decode cX3_place 15 = .ok (.if_icmp .ne 13, 3) := by decide +kernel
theorem dX3_place_18 : decode cX3_place 18 = .ok (.new 44, 3) := by decide +kernel
theorem dX3_place_21 : decode cX3_place 21 = .ok (.dup, 1) := by decide +kernel
theorem dX3_place_22 : decode cX3_place 22 = .ok (.ldc 46, 2) := by decide +kernel
theorem dX3_place_24 : decode cX3_place 24 = .ok (.invokespecial 48, 3) := by decide +kernel
theorem dX3_place_27 : decode cX3_place 27 = .ok (.athrow, 1) := by decide +kernel
theorem dX3_place_28 : decode cX3_place 28 = .ok (.aload_n 0, 1) := by decide +kernel
theorem dX3_place_29 : decode cX3_place 29 = .ok (.invokevirtual 51, 3) := by decide +kernel
theorem dX3_place_32 : decode cX3_place 32 = .ok (.aload_n 0, 1) := by decide +kernel
theorem dX3_place_33 : decode cX3_place 33 = .ok (.getfield 10, 3) := by decide +kernel
theorem dX3_place_36 : decode cX3_place 36 = .ok (.iload_n 1, 1) := by decide +kernel
theorem dX3_place_37 : decode cX3_place 37 = .ok (.invokevirtual 54, 3) := by decide +kernel
theorem dX3_place_40 : decode cX3_place 40 = .ok (.ireturn, 1) := by decide +kernel
theorem dX3_transition_0 : decode cX3_transition 0 = .ok (.aload_n 0, 1) := by decide +kernel
theorem dX3_transition_1 : decode cX3_transition 1 = .ok (.getfield 10, 3) := by decide +kernel
theorem dX3_transition_4 : decode cX3_transition 4 = .ok (.getfield 58, 3) := by decide +kernel
theorem dX3_transition_7 : decode cX3_transition 7 = .ok (.bipush 8, 2) := by decide +kernel
theorem dX3_transition_9 : decode cX3_transition 9 = .ok (.if_icmp .ne 13, 3) := by decide +kernel
theorem dX3_transition_12 : decode cX3_transition 12 = .ok (.new 44, 3) := by decide +kernel
theorem dX3_transition_15 : decode cX3_transition 15 = .ok (.dup, 1) := by decide +kernel
theorem dX3_transition_16 : decode cX3_transition 16 = .ok (.ldc 61, 2) := by decide +kernel
theorem dX3_transition_18 : decode cX3_transition 18 = .ok (.invokespecial 48, 3) := by decide +kernel
theorem dX3_transition_21 : decode cX3_transition 21 = .ok (.athrow, 1) := by decide +kernel
theorem dX3_transition_22 : decode cX3_transition 22 = .ok (.aload_n 0, 1) := by decide +kernel
theorem dX3_transition_23 : decode cX3_transition 23 = .ok (.invokevirtual 51, 3) := by decide +kernel
theorem dX3_transition_26 : decode cX3_transition 26 = .ok (.aload_n 0, 1) := by decide +kernel
theorem dX3_transition_27 : decode cX3_transition 27 = .ok (.getfield 10, 3) := by decide +kernel
theorem dX3_transition_30 : decode cX3_transition 30 = .ok (.invokevirtual 63, 3) := by decide +kernel
theorem dX3_transition_33 : decode cX3_transition 33 = .ok (.ireturn, 1) := by decide +kernel
theorem dX3_arc_0 : decode cX3_arc 0 = .ok (.aload_n 0, 1) := by decide +kernel
theorem dX3_arc_1 : decode cX3_arc 1 = .ok (.iload_n 1, 1) := by decide +kernel
theorem dX3_arc_2 : decode cX3_arc 2 = .ok (.invokevirtual 67, 3) := by decide +kernel
theorem dX3_arc_5 : decode cX3_arc 5 = .ok (.aload_n 0, 1) := by decide +kernel
theorem dX3_arc_6 : decode cX3_arc 6 = .ok (.iload_n 2, 1) := by decide +kernel
theorem dX3_arc_7 : decode cX3_arc 7 = .ok (.invokevirtual 71, 3) := by decide +kernel
theorem dX3_arc_10 : decode cX3_arc 10 = .ok (.iload_n 3, 1) := by decide +kernel
theorem dX3_arc_11 : decode cX3_arc 11 = .ok (.iconst 4, 1) := by decide +kernel
theorem dX3_arc_12 : decode cX3_arc 12 = .ok (.invokestatic 36, 3) := by decide +kernel
theorem dX3_arc_15 : decode cX3_arc 15 = .ok (.aload_n 0, 1) := by decide +kernel
theorem dX3_arc_16 : decode cX3_arc 16 = .ok (.invokevirtual 51, 3) := by decide +kernel
theorem dX3_arc_19 : decode cX3_arc 19 = .ok (.aload_n 0, 1) := by decide +kernel
theorem dX3_arc_20 : decode cX3_arc 20 = .ok (.getfield 10, 3) := by decide +kernel
theorem dX3_arc_23 : decode cX3_arc 23 = .ok (.iload_n 1, 1) := by decide +kernel
theorem dX3_arc_24 : decode cX3_arc 24 = .ok (.iload_n 2, 1) := by decide +kernel
theorem dX3_arc_25 : decode cX3_arc 25 = .ok (.iload_n 3, 1) := by decide +kernel
theorem dX3_arc_26 : decode cX3_arc 26 = .ok (.iload 4, 2) := by decide +kernel
theorem dX3_arc_28 : decode cX3_arc 28 = .ok (.invokevirtual 74, 3) := by decide +kernel
theorem dX3_arc_31 : decode cX3_arc 31 = .ok (.ireturn, 1) := by decide +kernel
theorem dX3_tokens_0 : decode cX3_tokens 0 = .ok (.aload_n 0, 1) := by decide +kernel
theorem dX3_tokens_1 : decode cX3_tokens 1 = .ok (.iload_n 1, 1) := by decide +kernel
theorem dX3_tokens_2 : decode cX3_tokens 2 = .ok (.invokevirtual 67, 3) := by decide +kernel
theorem dX3_tokens_5 : decode cX3_tokens 5 = .ok (.iload_n 2, 1) := by decide +kernel
theorem dX3_tokens_6 : decode cX3_tokens 6 = .ok (.bipush 9, 2) := by decide +kernel
theorem dX3_tokens_8 : decode cX3_tokens 8 = .ok (.invokestatic 36, 3) := by decide +kernel
theorem dX3_tokens_11 : decode cX3_tokens 11 = .ok (.aload_n 0, 1) := by decide +kernel
theorem dX3_tokens_12 : decode cX3_tokens 12 = .ok (.invokevirtual 51, 3) := by decide +kernel
theorem dX3_tokens_15 : decode cX3_tokens 15 = .ok (.aload_n 0, 1) := by decide +kernel
theorem dX3_tokens_16 : decode cX3_tokens 16 = .ok (.getfield 10, 3) := by decide +kernel
theorem dX3_tokens_19 : decode cX3_tokens 19 = .ok (.getfield 78, 3) := by decide +kernel
theorem dX3_tokens_22 : decode cX3_tokens 22 = .ok (.iload_n 1, 1) := by decide +kernel
theorem dX3_tokens_23 : decode cX3_tokens 23 = .ok (.iload_n 2, 1) := by decide +kernel
theorem dX3_tokens_24 : decode cX3_tokens 24 = .ok (.iastore, 1) := by decide +kernel
theorem dX3_tokens_25 : decode cX3_tokens 25 = .ok (.return_, 1) := by decide +kernel
theorem dX3_explore_0 : decode cX3_explore 0 = .ok (.aload_n 0, 1) := by decide +kernel
theorem dX3_explore_1 : decode cX3_explore 1 = .ok (.invokevirtual 51, 3) := by decide +kernel
theorem dX3_explore_4 : decode cX3_explore 4 = .ok (.aload_n 0, 1) := by decide +kernel
theorem dX3_explore_5 : decode cX3_explore 5 = .ok (.getfield 25, 3) := by decide +kernel
theorem dX3_explore_8 : decode cX3_explore 8 = .ok (.invokevirtual 81, 3) := by decide +kernel
theorem dX3_explore_11 : decode cX3_explore 11 = .ok (.ifCond .ne 13, 3) := by decide +kernel
theorem dX3_explore_14 : decode cX3_explore 14 = .ok (.new 85, 3) := by decide +kernel
theorem dX3_explore_17 : decode cX3_explore 17 = .ok (.dup, 1) := by decide +kernel
theorem dX3_explore_18 : decode cX3_explore 18 = .ok (.ldc 87, 2) := by decide +kernel
theorem dX3_explore_20 : decode cX3_explore 20 = .ok (.invokespecial 89, 3) := by decide +kernel
theorem dX3_explore_23 : decode cX3_explore 23 = .ok (.athrow, 1) := by decide +kernel
theorem dX3_explore_24 : decode cX3_explore 24 = .ok (.aload_n 0, 1) := by decide +kernel
theorem dX3_explore_25 : decode cX3_explore 25 = .ok (.getfield 25, 3) := by decide +kernel
theorem dX3_explore_28 : decode cX3_explore 28 = .ok (.getfield 90, 3) := by decide +kernel
theorem dX3_explore_31 : decode cX3_explore 31 = .ok (.ireturn, 1) := by decide +kernel
theorem dX3_count_0 : decode cX3_count 0 = .ok (.aload_n 0, 1) := by decide +kernel
theorem dX3_count_1 : decode cX3_count 1 = .ok (.invokevirtual 93, 3) := by decide +kernel
theorem dX3_count_4 : decode cX3_count 4 = .ok (.aload_n 0, 1) := by decide +kernel
theorem dX3_count_5 : decode cX3_count 5 = .ok (.iload_n 1, 1) := by decide +kernel
theorem dX3_count_6 : decode cX3_count 6 = .ok (.invokevirtual 96, 3) := by decide +kernel
theorem dX3_count_9 : decode cX3_count 9 = .ok (.aload_n 0, 1) := by decide +kernel
theorem dX3_count_10 : decode cX3_count 10 = .ok (.iload_n 2, 1) := by decide +kernel
theorem dX3_count_11 : decode cX3_count 11 = .ok (.invokevirtual 67, 3) := by decide +kernel
theorem dX3_count_14 : decode cX3_count 14 = .ok (.aload_n 0, 1) := by decide +kernel
theorem dX3_count_15 : decode cX3_count 15 = .ok (.getfield 25, 3) := by decide +kernel
theorem dX3_count_18 : decode cX3_count 18 = .ok (.getfield 99, 3) := by decide +kernel
theorem dX3_count_21 : decode cX3_count 21 = .ok (.iload_n 1, 1) := by decide +kernel
theorem dX3_count_22 : decode cX3_count 22 = .ok (.aaload, 1) := by decide +kernel
theorem dX3_count_23 : decode cX3_count 23 = .ok (.iload_n 2, 1) := by decide +kernel
theorem dX3_count_24 : decode cX3_count 24 = .ok (.iaload, 1) := by decide +kernel
theorem dX3_count_25 : decode cX3_count 25 = .ok (.invokestatic 103, 3) := by decide +kernel
theorem dX3_count_28 : decode cX3_count 28 = .ok (.ireturn, 1) := by decide +kernel
theorem dX3_node_0 : decode cX3_node 0 = .ok (.aload_n 0, 1) := by decide +kernel
theorem dX3_node_1 : decode cX3_node 1 = .ok (.invokevirtual 93, 3) := by decide +kernel
theorem dX3_node_4 : decode cX3_node 4 = .ok (.aload_n 0, 1) := by decide +kernel
theorem dX3_node_5 : decode cX3_node 5 = .ok (.iload_n 1, 1) := by decide +kernel
theorem dX3_node_6 : decode cX3_node 6 = .ok (.invokevirtual 96, 3) := by decide +kernel
theorem dX3_node_9 : decode cX3_node 9 = .ok (.iload_n 2, 1) := by decide +kernel
theorem dX3_node_10 : decode cX3_node 10 = .ok (.tableswitch 64 0 2 #[26, 36, 46], 26) := by decide +kernel
theorem dX3_node_36 : decode cX3_node 36 = .ok (.aload_n 0, 1) := by decide +kernel
theorem dX3_node_37 : decode cX3_node 37 = .ok (.getfield 25, 3) := by decide +kernel
theorem dX3_node_40 : decode cX3_node 40 = .ok (.getfield 106, 3) := by decide +kernel
theorem dX3_node_43 : decode cX3_node 43 = .ok (.iload_n 1, 1) := by decide +kernel
theorem dX3_node_44 : decode cX3_node 44 = .ok (.iaload, 1) := by decide +kernel
theorem dX3_node_45 : decode cX3_node 45 = .ok (.ireturn, 1) := by decide +kernel
theorem dX3_node_46 : decode cX3_node 46 = .ok (.aload_n 0, 1) := by decide +kernel
theorem dX3_node_47 : decode cX3_node 47 = .ok (.getfield 25, 3) := by decide +kernel
theorem dX3_node_50 : decode cX3_node 50 = .ok (.getfield 109, 3) := by decide +kernel
theorem dX3_node_53 : decode cX3_node 53 = .ok (.iload_n 1, 1) := by decide +kernel
theorem dX3_node_54 : decode cX3_node 54 = .ok (.iaload, 1) := by decide +kernel
theorem dX3_node_55 : decode cX3_node 55 = .ok (.ireturn, 1) := by decide +kernel
theorem dX3_node_56 : decode cX3_node 56 = .ok (.aload_n 0, 1) := by decide +kernel
theorem dX3_node_57 : decode cX3_node 57 = .ok (.getfield 25, 3) := by decide +kernel
theorem dX3_node_60 : decode cX3_node 60 = .ok (.getfield 112, 3) := by decide +kernel
theorem dX3_node_63 : decode cX3_node 63 = .ok (.iload_n 1, 1) := by decide +kernel
theorem dX3_node_64 : decode cX3_node 64 = .ok (.baload, 1) := by decide +kernel
theorem dX3_node_65 : decode cX3_node 65 = .ok (.ifCond .eq 7, 3) := by decide +kernel
theorem dX3_node_68 : decode cX3_node 68 = .ok (.iconst 1, 1) := by decide +kernel
theorem dX3_node_69 : decode cX3_node 69 = .ok (.goto 4, 3) := by decide +kernel
theorem dX3_node_72 : decode cX3_node 72 = .ok (.iconst 0, 1) := by decide +kernel
theorem dX3_node_73 : decode cX3_node 73 = .ok (.ireturn, 1) := by decide +kernel
theorem dX3_node_74 : decode cX3_node 74 = .ok (.bipush (-2), 2) := by decide +kernel
theorem dX3_node_76 : decode cX3_node 76 = .ok (.ireturn, 1) := by decide +kernel
theorem dX3_bound_0 : decode cX3_bound 0 = .ok (.aload_n 0, 1) := by decide +kernel
theorem dX3_bound_1 : decode cX3_bound 1 = .ok (.invokevirtual 93, 3) := by decide +kernel
theorem dX3_bound_4 : decode cX3_bound 4 = .ok (.aload_n 0, 1) := by decide +kernel
theorem dX3_bound_5 : decode cX3_bound 5 = .ok (.iload_n 1, 1) := by decide +kernel
theorem dX3_bound_6 : decode cX3_bound 6 = .ok (.invokevirtual 67, 3) := by decide +kernel
theorem dX3_bound_9 : decode cX3_bound 9 = .ok (.aload_n 0, 1) := by decide +kernel
theorem dX3_bound_10 : decode cX3_bound 10 = .ok (.getfield 25, 3) := by decide +kernel
theorem dX3_bound_13 : decode cX3_bound 13 = .ok (.iload_n 1, 1) := by decide +kernel
theorem dX3_bound_14 : decode cX3_bound 14 = .ok (.invokevirtual 116, 3) := by decide +kernel
theorem dX3_bound_17 : decode cX3_bound 17 = .ok (.invokestatic 103, 3) := by decide +kernel
theorem dX3_bound_20 : decode cX3_bound 20 = .ok (.ireturn, 1) := by decide +kernel
theorem dX3_want_0 : decode cX3_want 0 = .ok (.aload_n 0, 1) := by decide +kernel
theorem dX3_want_1 : decode cX3_want 1 = .ok (.iload_n 1, 1) := by decide +kernel
theorem dX3_want_2 : decode cX3_want 2 = .ok (.invokevirtual 67, 3) := by decide +kernel
theorem dX3_want_5 : decode cX3_want 5 = .ok (.iload_n 2, 1) := by decide +kernel
theorem dX3_want_6 : decode cX3_want 6 = .ok (.bipush 99, 2) := by decide +kernel
theorem dX3_want_8 : decode cX3_want 8 = .ok (.invokestatic 36, 3) := by decide +kernel
theorem dX3_want_11 : decode cX3_want 11 = .ok (.aload_n 0, 1) := by decide +kernel
theorem dX3_want_12 : decode cX3_want 12 = .ok (.getfield 16, 3) := by decide +kernel
theorem dX3_want_15 : decode cX3_want 15 = .ok (.iload_n 1, 1) := by decide +kernel
theorem dX3_want_16 : decode cX3_want 16 = .ok (.iload_n 2, 1) := by decide +kernel
theorem dX3_want_17 : decode cX3_want 17 = .ok (.iastore, 1) := by decide +kernel
theorem dX3_want_18 : decode cX3_want 18 = .ok (.return_, 1) := by decide +kernel
theorem dX3_covered_0 : decode cX3_covered 0 = .ok (.aload_n 0, 1) := by decide +kernel
theorem dX3_covered_1 : decode cX3_covered 1 = .ok (.invokevirtual 93, 3) := by decide +kernel
theorem dX3_covered_4 : decode cX3_covered 4 = .ok (.aload_n 0, 1) := by decide +kernel
theorem dX3_covered_5 : decode cX3_covered 5 = .ok (.getfield 25, 3) := by decide +kernel
theorem dX3_covered_8 : decode cX3_covered 8 = .ok (.aload_n 0, 1) := by decide +kernel
theorem dX3_covered_9 : decode cX3_covered 9 = .ok (.getfield 16, 3) := by decide +kernel
theorem dX3_covered_12 : decode cX3_covered 12 = .ok (.invokevirtual 119, 3) := by decide +kernel
theorem dX3_covered_15 : decode cX3_covered 15 = .ok (.ireturn, 1) := by decide +kernel
theorem dX3_possible_0 : decode cX3_possible 0 = .ok (.aload_n 0, 1) := by decide +kernel
theorem dX3_possible_1 : decode cX3_possible 1 = .ok (.invokevirtual 93, 3) := by decide +kernel
theorem dX3_possible_4 : decode cX3_possible 4 = .ok (.aload_n 0, 1) := by decide +kernel
theorem dX3_possible_5 : decode cX3_possible 5 = .ok (.iload_n 1, 1) := by decide +kernel
theorem dX3_possible_6 : decode cX3_possible 6 = .ok (.invokevirtual 71, 3) := by decide +kernel
theorem dX3_possible_9 : decode cX3_possible 9 = .ok (.aload_n 0, 1) := by decide +kernel
theorem dX3_possible_10 : decode cX3_possible 10 = .ok (.getfield 25, 3) := by decide +kernel
theorem dX3_possible_13 : decode cX3_possible 13 = .ok (.iload_n 1, 1) := by decide +kernel
theorem dX3_possible_14 : decode cX3_possible 14 = .ok (.invokevirtual 123, 3) := by decide +kernel
theorem dX3_possible_17 : decode cX3_possible 17 = .ok (.ireturn, 1) := by decide +kernel
theorem dX3_growth_0 : decode cX3_growth 0 = .ok (.aload_n 0, 1) := by decide +kernel
theorem dX3_growth_1 : decode cX3_growth 1 = .ok (.invokevirtual 93, 3) := by decide +kernel
theorem dX3_growth_4 : decode cX3_growth 4 = .ok (.iload_n 1, 1) := by decide +kernel
theorem dX3_growth_5 : decode cX3_growth 5 = .ok (.iconst (-1), 1) := by decide +kernel
theorem dX3_growth_6 : decode cX3_growth 6 = .ok (.if_icmp .ge 13, 3) := by decide +kernel
theorem dX3_growth_9 : decode cX3_growth 9 = .ok (.new 127, 3) := by decide +kernel
theorem dX3_growth_12 : decode cX3_growth 12 = .ok (.dup, 1) := by decide +kernel
theorem dX3_growth_13 : decode cX3_growth 13 = .ok (.ldc 129, 2) := by decide +kernel
theorem dX3_growth_15 : decode cX3_growth 15 = .ok (.invokespecial 131, 3) := by decide +kernel
theorem dX3_growth_18 : decode cX3_growth 18 = .ok (.athrow, 1) := by decide +kernel
theorem dX3_growth_19 : decode cX3_growth 19 = .ok (.aload_n 0, 1) := by decide +kernel
theorem dX3_growth_20 : decode cX3_growth 20 = .ok (.getfield 25, 3) := by decide +kernel
theorem dX3_growth_23 : decode cX3_growth 23 = .ok (.invokevirtual 132, 3) := by decide +kernel
theorem dX3_growth_26 : decode cX3_growth 26 = .ok (.ifCond .ne 6, 3) := by decide +kernel
theorem dX3_growth_29 : decode cX3_growth 29 = .ok (.bipush (-2), 2) := by decide +kernel
theorem dX3_growth_31 : decode cX3_growth 31 = .ok (.ireturn, 1) := by decide +kernel
theorem dX3_growth_32 : decode cX3_growth 32 = .ok (.iload_n 1, 1) := by decide +kernel
theorem dX3_growth_33 : decode cX3_growth 33 = .ok (.iconst (-1), 1) := by decide +kernel
theorem dX3_growth_34 : decode cX3_growth 34 = .ok (.if_icmp .ne 13, 3) := by decide +kernel
theorem dX3_growth_37 : decode cX3_growth 37 = .ok (.aload_n 0, 1) := by decide +kernel
theorem dX3_growth_38 : decode cX3_growth 38 = .ok (.getfield 25, 3) := by decide +kernel
theorem dX3_growth_41 : decode cX3_growth 41 = .ok (.getfield 135, 3) := by decide +kernel
theorem dX3_growth_44 : decode cX3_growth 44 = .ok (.goto 11, 3) := by decide +kernel
theorem dX3_growth_47 : decode cX3_growth 47 = .ok (.aload_n 0, 1) := by decide +kernel
theorem dX3_growth_48 : decode cX3_growth 48 = .ok (.getfield 25, 3) := by decide +kernel
theorem dX3_growth_51 : decode cX3_growth 51 = .ok (.iload_n 1, 1) := by decide +kernel
theorem dX3_growth_52 : decode cX3_growth 52 = .ok (.invokevirtual 138, 3) := by decide +kernel
theorem dX3_growth_55 : decode cX3_growth 55 = .ok (.ireturn, 1) := by decide +kernel
theorem dX3_graph_0 : decode cX3_graph 0 = .ok (.aload_n 0, 1) := by decide +kernel
theorem dX3_graph_1 : decode cX3_graph 1 = .ok (.invokevirtual 93, 3) := by decide +kernel
theorem dX3_graph_4 : decode cX3_graph 4 = .ok (.aload_n 0, 1) := by decide +kernel
theorem dX3_graph_5 : decode cX3_graph 5 = .ok (.getfield 25, 3) := by decide +kernel
theorem dX3_graph_8 : decode cX3_graph 8 = .ok (.invokevirtual 132, 3) := by decide +kernel
theorem dX3_graph_11 : decode cX3_graph 11 = .ok (.ifCond .eq 13, 3) := by decide +kernel
theorem dX3_graph_14 : decode cX3_graph 14 = .ok (.new 44, 3) := by decide +kernel
theorem dX3_graph_17 : decode cX3_graph 17 = .ok (.dup, 1) := by decide +kernel
theorem dX3_graph_18 : decode cX3_graph 18 = .ok (.ldc 141, 2) := by decide +kernel
theorem dX3_graph_20 : decode cX3_graph 20 = .ok (.invokespecial 48, 3) := by decide +kernel
theorem dX3_graph_23 : decode cX3_graph 23 = .ok (.athrow, 1) := by decide +kernel
theorem dX3_graph_24 : decode cX3_graph 24 = .ok (.aload_n 0, 1) := by decide +kernel
theorem dX3_graph_25 : decode cX3_graph 25 = .ok (.getfield 32, 3) := by decide +kernel
theorem dX3_graph_28 : decode cX3_graph 28 = .ok (.invokevirtual 143, 3) := by decide +kernel
theorem dX3_graph_31 : decode cX3_graph 31 = .ok (.ifCond .ne 13, 3) := by decide +kernel
theorem dX3_graph_34 : decode cX3_graph 34 = .ok (.new 85, 3) := by decide +kernel
theorem dX3_graph_37 : decode cX3_graph 37 = .ok (.dup, 1) := by decide +kernel
theorem dX3_graph_38 : decode cX3_graph 38 = .ok (.ldc 146, 2) := by decide +kernel
theorem dX3_graph_40 : decode cX3_graph 40 = .ok (.invokespecial 89, 3) := by decide +kernel
theorem dX3_graph_43 : decode cX3_graph 43 = .ok (.athrow, 1) := by decide +kernel
theorem dX3_graph_44 : decode cX3_graph 44 = .ok (.aload_n 0, 1) := by decide +kernel
theorem dX3_graph_45 : decode cX3_graph 45 = .ok (.getfield 32, 3) := by decide +kernel
theorem dX3_graph_48 : decode cX3_graph 48 = .ok (.getfield 148, 3) := by decide +kernel
theorem dX3_graph_51 : decode cX3_graph 51 = .ok (.ireturn, 1) := by decide +kernel
theorem dX3_reached_0 : decode cX3_reached 0 = .ok (.aload_n 0, 1) := by decide +kernel
theorem dX3_reached_1 : decode cX3_reached 1 = .ok (.invokevirtual 149, 3) := by decide +kernel
theorem dX3_reached_4 : decode cX3_reached 4 = .ok (.aload_n 0, 1) := by decide +kernel
theorem dX3_reached_5 : decode cX3_reached 5 = .ok (.getfield 32, 3) := by decide +kernel
theorem dX3_reached_8 : decode cX3_reached 8 = .ok (.aload_n 0, 1) := by decide +kernel
theorem dX3_reached_9 : decode cX3_reached 9 = .ok (.getfield 16, 3) := by decide +kernel
theorem dX3_reached_12 : decode cX3_reached 12 = .ok (.invokevirtual 152, 3) := by decide +kernel
theorem dX3_reached_15 : decode cX3_reached 15 = .ok (.ireturn, 1) := by decide +kernel
theorem dX3_distance_0 : decode cX3_distance 0 = .ok (.aload_n 0, 1) := by decide +kernel
theorem dX3_distance_1 : decode cX3_distance 1 = .ok (.invokevirtual 149, 3) := by decide +kernel
theorem dX3_distance_4 : decode cX3_distance 4 = .ok (.aload_n 0, 1) := by decide +kernel
theorem dX3_distance_5 : decode cX3_distance 5 = .ok (.iload_n 1, 1) := by decide +kernel
theorem dX3_distance_6 : decode cX3_distance 6 = .ok (.invokevirtual 156, 3) := by decide +kernel
theorem dX3_distance_9 : decode cX3_distance 9 = .ok (.aload_n 0, 1) := by decide +kernel
theorem dX3_distance_10 : decode cX3_distance 10 = .ok (.getfield 32, 3) := by decide +kernel
theorem dX3_distance_13 : decode cX3_distance 13 = .ok (.getfield 159, 3) := by decide +kernel
theorem dX3_distance_16 : decode cX3_distance 16 = .ok (.iload_n 1, 1) := by decide +kernel
theorem dX3_distance_17 : decode cX3_distance 17 = .ok (.iaload, 1) := by decide +kernel
theorem dX3_distance_18 : decode cX3_distance 18 = .ok (.ireturn, 1) := by decide +kernel
theorem dX3_found_0 : decode cX3_found 0 = .ok (.aload_n 0, 1) := by decide +kernel
theorem dX3_found_1 : decode cX3_found 1 = .ok (.invokevirtual 149, 3) := by decide +kernel
theorem dX3_found_4 : decode cX3_found 4 = .ok (.aload_n 0, 1) := by decide +kernel
theorem dX3_found_5 : decode cX3_found 5 = .ok (.iload_n 1, 1) := by decide +kernel
theorem dX3_found_6 : decode cX3_found 6 = .ok (.invokevirtual 156, 3) := by decide +kernel
theorem dX3_found_9 : decode cX3_found 9 = .ok (.iload_n 2, 1) := by decide +kernel
theorem dX3_found_10 : decode cX3_found 10 = .ok (.ifCond .eq 15, 3) := by decide +kernel
theorem dX3_found_13 : decode cX3_found 13 = .ok (.aload_n 0, 1) := by decide +kernel
theorem dX3_found_14 : decode cX3_found 14 = .ok (.getfield 32, 3) := by decide +kernel
theorem dX3_found_17 : decode cX3_found 17 = .ok (.getfield 162, 3) := by decide +kernel
theorem dX3_found_20 : decode cX3_found 20 = .ok (.iload_n 1, 1) := by decide +kernel
theorem dX3_found_21 : decode cX3_found 21 = .ok (.iaload, 1) := by decide +kernel
theorem dX3_found_22 : decode cX3_found 22 = .ok (.goto 12, 3) := by decide +kernel
theorem dX3_found_25 : decode cX3_found 25 = .ok (.aload_n 0, 1) := by decide +kernel
theorem dX3_found_26 : decode cX3_found 26 = .ok (.getfield 32, 3) := by decide +kernel
theorem dX3_found_29 : decode cX3_found 29 = .ok (.getfield 165, 3) := by decide +kernel
theorem dX3_found_32 : decode cX3_found 32 = .ok (.iload_n 1, 1) := by decide +kernel
theorem dX3_found_33 : decode cX3_found 33 = .ok (.iaload, 1) := by decide +kernel
theorem dX3_found_34 : decode cX3_found 34 = .ok (.ireturn, 1) := by decide +kernel
theorem dX3_stops_0 : decode cX3_stops 0 = .ok (.aload_n 0, 1) := by decide +kernel
theorem dX3_stops_1 : decode cX3_stops 1 = .ok (.invokevirtual 149, 3) := by decide +kernel
theorem dX3_stops_4 : decode cX3_stops 4 = .ok (.aload_n 0, 1) := by decide +kernel
theorem dX3_stops_5 : decode cX3_stops 5 = .ok (.getfield 32, 3) := by decide +kernel
theorem dX3_stops_8 : decode cX3_stops 8 = .ok (.invokevirtual 166, 3) := by decide +kernel
theorem dX3_stops_11 : decode cX3_stops 11 = .ok (.ireturn, 1) := by decide +kernel
theorem dX3_live_0 : decode cX3_live 0 = .ok (.aload_n 0, 1) := by decide +kernel
theorem dX3_live_1 : decode cX3_live 1 = .ok (.invokevirtual 149, 3) := by decide +kernel
theorem dX3_live_4 : decode cX3_live 4 = .ok (.aload_n 0, 1) := by decide +kernel
theorem dX3_live_5 : decode cX3_live 5 = .ok (.iload_n 1, 1) := by decide +kernel
theorem dX3_live_6 : decode cX3_live 6 = .ok (.invokevirtual 71, 3) := by decide +kernel
theorem dX3_live_9 : decode cX3_live 9 = .ok (.aload_n 0, 1) := by decide +kernel
theorem dX3_live_10 : decode cX3_live 10 = .ok (.getfield 32, 3) := by decide +kernel
theorem dX3_live_13 : decode cX3_live 13 = .ok (.iload_n 1, 1) := by decide +kernel
theorem dX3_live_14 : decode cX3_live 14 = .ok (.invokevirtual 169, 3) := by decide +kernel
theorem dX3_live_17 : decode cX3_live 17 = .ok (.ireturn, 1) := by decide +kernel
theorem dX3_discard_0 : decode cX3_discard 0 = .ok (.aload_n 0, 1) := by decide +kernel
theorem dX3_discard_1 : decode cX3_discard 1 = .ok (.getfield 25, 3) := by decide +kernel
theorem dX3_discard_4 : decode cX3_discard 4 = .ok (.iconst 0, 1) := by decide +kernel
theorem dX3_discard_5 : decode cX3_discard 5 = .ok (.putfield 90, 3) := by decide +kernel
theorem dX3_discard_8 : decode cX3_discard 8 = .ok (.aload_n 0, 1) := by decide +kernel
theorem dX3_discard_9 : decode cX3_discard 9 = .ok (.getfield 32, 3) := by decide +kernel
theorem dX3_discard_12 : decode cX3_discard 12 = .ok (.iconst 0, 1) := by decide +kernel
theorem dX3_discard_13 : decode cX3_discard 13 = .ok (.putfield 148, 3) := by decide +kernel
theorem dX3_discard_16 : decode cX3_discard 16 = .ok (.return_, 1) := by decide +kernel
theorem dX3_needRange_0 : decode cX3_needRange 0 = .ok (.iload_n 0, 1) := by decide +kernel
theorem dX3_needRange_1 : decode cX3_needRange 1 = .ok (.ifCond .lt 8, 3) := by decide +kernel
theorem dX3_needRange_4 : decode cX3_needRange 4 = .ok (.iload_n 0, 1) := by decide +kernel
theorem dX3_needRange_5 : decode cX3_needRange 5 = .ok (.iload_n 1, 1) := by decide +kernel
theorem dX3_needRange_6 : decode cX3_needRange 6 = .ok (.if_icmp .le 13, 3) := by decide +kernel
theorem dX3_needRange_9 : decode cX3_needRange 9 = .ok (.new 127, 3) := by decide +kernel
theorem dX3_needRange_12 : decode cX3_needRange 12 = .ok (.dup, 1) := by decide +kernel
theorem dX3_needRange_13 : decode cX3_needRange 13 = .ok (.ldc 172, 2) := by decide +kernel
theorem dX3_needRange_15 : decode cX3_needRange 15 = .ok (.invokespecial 131, 3) := by decide +kernel
theorem dX3_needRange_18 : decode cX3_needRange 18 = .ok (.athrow, 1) := by decide +kernel
theorem dX3_needRange_19 : decode cX3_needRange 19 = .ok (.return_, 1) := by decide +kernel
theorem dX3_needPlace_0 : decode cX3_needPlace 0 = .ok (.iload_n 1, 1) := by decide +kernel
theorem dX3_needPlace_1 : decode cX3_needPlace 1 = .ok (.ifCond .lt 14, 3) := by decide +kernel
theorem dX3_needPlace_4 : decode cX3_needPlace 4 = .ok (.iload_n 1, 1) := by decide +kernel
theorem dX3_needPlace_5 : decode cX3_needPlace 5 = .ok (.aload_n 0, 1) := by decide +kernel
theorem dX3_needPlace_6 : decode cX3_needPlace 6 = .ok (.getfield 10, 3) := by decide +kernel
theorem dX3_needPlace_9 : decode cX3_needPlace 9 = .ok (.getfield 40, 3) := by decide +kernel
theorem dX3_needPlace_12 : decode cX3_needPlace 12 = .ok (.if_icmp .lt 13, 3) := by decide +kernel
theorem dX3_needPlace_15 : decode cX3_needPlace 15 = .ok (.new 174, 3) := by decide +kernel
theorem dX3_needPlace_18 : decode cX3_needPlace 18 = .ok (.dup, 1) := by decide +kernel
theorem dX3_needPlace_19 : decode cX3_needPlace 19 = .ok (.ldc 176, 2) := by decide +kernel
theorem dX3_needPlace_21 : decode cX3_needPlace 21 = .ok (.invokespecial 178, 3) := by decide +kernel
theorem dX3_needPlace_24 : decode cX3_needPlace 24 = .ok (.athrow, 1) := by decide +kernel
theorem dX3_needPlace_25 : decode cX3_needPlace 25 = .ok (.return_, 1) := by decide +kernel
theorem dX3_needTransition_0 : decode cX3_needTransition 0 = .ok (.iload_n 1, 1) := by decide +kernel
theorem dX3_needTransition_1 : decode cX3_needTransition 1 = .ok (.ifCond .lt 14, 3) := by decide +kernel
theorem dX3_needTransition_4 : decode cX3_needTransition 4 = .ok (.iload_n 1, 1) := by decide +kernel
theorem dX3_needTransition_5 : decode cX3_needTransition 5 = .ok (.aload_n 0, 1) := by decide +kernel
theorem dX3_needTransition_6 : decode cX3_needTransition 6 = .ok (.getfield 10, 3) := by decide +kernel
theorem dX3_needTransition_9 : decode cX3_needTransition 9 = .ok (.getfield 58, 3) := by decide +kernel
theorem dX3_needTransition_12 : decode cX3_needTransition 12 = .ok (.if_icmp .lt 13, 3) := by decide +kernel
theorem dX3_needTransition_15 : decode cX3_needTransition 15 = .ok (.new 174, 3) := by decide +kernel
theorem dX3_needTransition_18 : decode cX3_needTransition 18 = .ok (.dup, 1) := by decide +kernel
theorem dX3_needTransition_19 : decode cX3_needTransition 19 = .ok (.ldc 179, 2) := by decide +kernel
theorem dX3_needTransition_21 : decode cX3_needTransition 21 = .ok (.invokespecial 178, 3) := by decide +kernel
theorem dX3_needTransition_24 : decode cX3_needTransition 24 = .ok (.athrow, 1) := by decide +kernel
theorem dX3_needTransition_25 : decode cX3_needTransition 25 = .ok (.return_, 1) := by decide +kernel
theorem dX3_needTree_0 : decode cX3_needTree 0 = .ok (.aload_n 0, 1) := by decide +kernel
theorem dX3_needTree_1 : decode cX3_needTree 1 = .ok (.getfield 25, 3) := by decide +kernel
theorem dX3_needTree_4 : decode cX3_needTree 4 = .ok (.getfield 90, 3) := by decide +kernel
theorem dX3_needTree_7 : decode cX3_needTree 7 = .ok (.ifCond .ne 13, 3) := by decide +kernel
theorem dX3_needTree_10 : decode cX3_needTree 10 = .ok (.new 44, 3) := by decide +kernel
theorem dX3_needTree_13 : decode cX3_needTree 13 = .ok (.dup, 1) := by decide +kernel
theorem dX3_needTree_14 : decode cX3_needTree 14 = .ok (.ldc 181, 2) := by decide +kernel
theorem dX3_needTree_16 : decode cX3_needTree 16 = .ok (.invokespecial 48, 3) := by decide +kernel
theorem dX3_needTree_19 : decode cX3_needTree 19 = .ok (.athrow, 1) := by decide +kernel
theorem dX3_needTree_20 : decode cX3_needTree 20 = .ok (.return_, 1) := by decide +kernel
theorem dX3_needNode_0 : decode cX3_needNode 0 = .ok (.iload_n 1, 1) := by decide +kernel
theorem dX3_needNode_1 : decode cX3_needNode 1 = .ok (.ifCond .lt 14, 3) := by decide +kernel
theorem dX3_needNode_4 : decode cX3_needNode 4 = .ok (.iload_n 1, 1) := by decide +kernel
theorem dX3_needNode_5 : decode cX3_needNode 5 = .ok (.aload_n 0, 1) := by decide +kernel
theorem dX3_needNode_6 : decode cX3_needNode 6 = .ok (.getfield 25, 3) := by decide +kernel
theorem dX3_needNode_9 : decode cX3_needNode 9 = .ok (.getfield 90, 3) := by decide +kernel
theorem dX3_needNode_12 : decode cX3_needNode 12 = .ok (.if_icmp .lt 13, 3) := by decide +kernel
theorem dX3_needNode_15 : decode cX3_needNode 15 = .ok (.new 174, 3) := by decide +kernel
theorem dX3_needNode_18 : decode cX3_needNode 18 = .ok (.dup, 1) := by decide +kernel
theorem dX3_needNode_19 : decode cX3_needNode 19 = .ok (.ldc 183, 2) := by decide +kernel
theorem dX3_needNode_21 : decode cX3_needNode 21 = .ok (.invokespecial 178, 3) := by decide +kernel
theorem dX3_needNode_24 : decode cX3_needNode 24 = .ok (.athrow, 1) := by decide +kernel
theorem dX3_needNode_25 : decode cX3_needNode 25 = .ok (.return_, 1) := by decide +kernel
theorem dX3_needGraph_0 : decode cX3_needGraph 0 = .ok (.aload_n 0, 1) := by decide +kernel
theorem dX3_needGraph_1 : decode cX3_needGraph 1 = .ok (.getfield 32, 3) := by decide +kernel
theorem dX3_needGraph_4 : decode cX3_needGraph 4 = .ok (.getfield 148, 3) := by decide +kernel
theorem dX3_needGraph_7 : decode cX3_needGraph 7 = .ok (.ifCond .ne 13, 3) := by decide +kernel
theorem dX3_needGraph_10 : decode cX3_needGraph 10 = .ok (.new 44, 3) := by decide +kernel
theorem dX3_needGraph_13 : decode cX3_needGraph 13 = .ok (.dup, 1) := by decide +kernel
theorem dX3_needGraph_14 : decode cX3_needGraph 14 = .ok (.ldc 185, 2) := by decide +kernel
theorem dX3_needGraph_16 : decode cX3_needGraph 16 = .ok (.invokespecial 48, 3) := by decide +kernel
theorem dX3_needGraph_19 : decode cX3_needGraph 19 = .ok (.athrow, 1) := by decide +kernel
theorem dX3_needGraph_20 : decode cX3_needGraph 20 = .ok (.return_, 1) := by decide +kernel
theorem dX3_needState_0 : decode cX3_needState 0 = .ok (.iload_n 1, 1) := by decide +kernel
theorem dX3_needState_1 : decode cX3_needState 1 = .ok (.ifCond .lt 14, 3) := by decide +kernel
theorem dX3_needState_4 : decode cX3_needState 4 = .ok (.iload_n 1, 1) := by decide +kernel
theorem dX3_needState_5 : decode cX3_needState 5 = .ok (.aload_n 0, 1) := by decide +kernel
theorem dX3_needState_6 : decode cX3_needState 6 = .ok (.getfield 32, 3) := by decide +kernel
theorem dX3_needState_9 : decode cX3_needState 9 = .ok (.getfield 148, 3) := by decide +kernel
theorem dX3_needState_12 : decode cX3_needState 12 = .ok (.if_icmp .lt 13, 3) := by decide +kernel
theorem dX3_needState_15 : decode cX3_needState 15 = .ok (.new 174, 3) := by decide +kernel
theorem dX3_needState_18 : decode cX3_needState 18 = .ok (.dup, 1) := by decide +kernel
theorem dX3_needState_19 : decode cX3_needState 19 = .ok (.ldc 187, 2) := by decide +kernel
theorem dX3_needState_21 : decode cX3_needState 21 = .ok (.invokespecial 178, 3) := by decide +kernel
theorem dX3_needState_24 : decode cX3_needState 24 = .ok (.athrow, 1) := by decide +kernel
theorem dX3_needState_25 : decode cX3_needState 25 = .ok (.return_, 1) := by decide +kernel
theorem dX3_asTold_0 : decode cX3_asTold 0 = .ok (.iload_n 0, 1) := by decide +kernel
theorem dX3_asTold_1 : decode cX3_asTold 1 = .ok (.ldc 189, 2) := by decide +kernel
theorem dX3_asTold_3 : decode cX3_asTold 3 = .ok (.if_icmp .ne 7, 3) := by decide +kernel
theorem dX3_asTold_6 : decode cX3_asTold 6 = .ok (.iconst (-1), 1) := by decide +kernel
theorem dX3_asTold_7 : decode cX3_asTold 7 = .ok (.goto 4, 3) := by decide +kernel
theorem dX3_asTold_10 : decode cX3_asTold 10 = .ok (.iload_n 0, 1) := by decide +kernel
theorem dX3_asTold_11 : decode cX3_asTold 11 = .ok (.ireturn, 1) := by decide +kernel
theorem dX3_covers_0 : decode cX3_covers 0 = .ok (.iconst 0, 1) := by decide +kernel
theorem dX3_covers_1 : decode cX3_covers 1 = .ok (.istore_n 2, 1) := by decide +kernel
theorem dX3_covers_2 : decode cX3_covers 2 = .ok (.iload_n 2, 1) := by decide +kernel
theorem dX3_covers_3 : decode cX3_covers 3 = .ok (.bipush 6, 2) := by decide +kernel
theorem dX3_covers_5 : decode cX3_covers 5 = .ok (.if_icmp .ge 20, 3) := by decide +kernel
theorem dX3_covers_8 : decode cX3_covers 8 = .ok (.aload_n 0, 1) := by decide +kernel
theorem dX3_covers_9 : decode cX3_covers 9 = .ok (.iload_n 2, 1) := by decide +kernel
theorem dX3_covers_10 : decode cX3_covers 10 = .ok (.iaload, 1) := by decide +kernel
theorem dX3_covers_11 : decode cX3_covers 11 = .ok (.aload_n 1, 1) := by decide +kernel
theorem dX3_covers_12 : decode cX3_covers 12 = .ok (.iload_n 2, 1) := by decide +kernel
theorem dX3_covers_13 : decode cX3_covers 13 = .ok (.iaload, 1) := by decide +kernel
theorem dX3_covers_14 : decode cX3_covers 14 = .ok (.if_icmp .ge 5, 3) := by decide +kernel
theorem dX3_covers_17 : decode cX3_covers 17 = .ok (.iconst 0, 1) := by decide +kernel
theorem dX3_covers_18 : decode cX3_covers 18 = .ok (.ireturn, 1) := by decide +kernel
theorem dX3_covers_19 : decode cX3_covers 19 = .ok (.iinc 2 1, 3) := by decide +kernel
theorem dX3_covers_22 : decode cX3_covers 22 = .ok (.goto (-20), 3) := by decide +kernel
theorem dX3_covers_25 : decode cX3_covers 25 = .ok (.iconst 1, 1) := by decide +kernel
theorem dX3_covers_26 : decode cX3_covers 26 = .ok (.ireturn, 1) := by decide +kernel
theorem dX3_same_0 : decode cX3_same 0 = .ok (.iconst 0, 1) := by decide +kernel
theorem dX3_same_1 : decode cX3_same 1 = .ok (.istore_n 2, 1) := by decide +kernel
theorem dX3_same_2 : decode cX3_same 2 = .ok (.iload_n 2, 1) := by decide +kernel
theorem dX3_same_3 : decode cX3_same 3 = .ok (.bipush 6, 2) := by decide +kernel
theorem dX3_same_5 : decode cX3_same 5 = .ok (.if_icmp .ge 20, 3) := by decide +kernel
theorem dX3_same_8 : decode cX3_same 8 = .ok (.aload_n 0, 1) := by decide +kernel
theorem dX3_same_9 : decode cX3_same 9 = .ok (.iload_n 2, 1) := by decide +kernel
end
section
theorem dX3_same_10 : decode cX3_same 10 = .ok (.iaload, 1) := by decide +kernel
theorem dX3_same_11 : decode cX3_same 11 = .ok (.aload_n 1, 1) := by decide +kernel
theorem dX3_same_12 : decode cX3_same 12 = .ok (.iload_n 2, 1) := by decide +kernel
theorem dX3_same_13 : decode cX3_same 13 = .ok (.iaload, 1) := by decide +kernel
theorem dX3_same_14 : decode cX3_same 14 = .ok (.if_icmp .eq 5, 3) := by decide +kernel
theorem dX3_same_17 : decode cX3_same 17 = .ok (.iconst 0, 1) := by decide +kernel
theorem dX3_same_18 : decode cX3_same 18 = .ok (.ireturn, 1) := by decide +kernel
theorem dX3_same_19 : decode cX3_same 19 = .ok (.iinc 2 1, 3) := by decide +kernel
theorem dX3_same_22 : decode cX3_same 22 = .ok (.goto (-20), 3) := by decide +kernel
theorem dX3_same_25 : decode cX3_same 25 = .ok (.iconst 1, 1) := by decide +kernel
theorem dX3_same_26 : decode cX3_same 26 = .ok (.ireturn, 1) := by decide +kernel
theorem dX3_copyInto_0 : decode cX3_copyInto 0 = .ok (.aload_n 1, 1) := by decide +kernel
theorem dX3_copyInto_1 : decode cX3_copyInto 1 = .ok (.iconst 0, 1) := by decide +kernel
theorem dX3_copyInto_2 : decode cX3_copyInto 2 = .ok (.aload_n 0, 1) := by decide +kernel
theorem dX3_copyInto_3 : decode cX3_copyInto 3 = .ok (.iconst 0, 1) := by decide +kernel
theorem dX3_copyInto_4 : decode cX3_copyInto 4 = .ok (.bipush 6, 2) := by decide +kernel
theorem dX3_copyInto_6 : decode cX3_copyInto 6 = .ok (.invokestatic 190, 3) := by decide +kernel
theorem dX3_copyInto_9 : decode cX3_copyInto 9 = .ok (.return_, 1) := by decide +kernel
theorem dX4_init_0 : decode cX4_init 0 = .ok (.aload_n 0, 1) := by decide +kernel
theorem dX4_init_1 : decode cX4_init 1 = .ok (.invokespecial 1, 3) := by decide +kernel
theorem dX4_init_4 : decode cX4_init 4 = .ok (.aload_n 0, 1) := by decide +kernel
theorem dX4_init_5 : decode cX4_init 5 = .ok (.bipush 6, 2) := by decide +kernel
theorem dX4_init_7 : decode cX4_init 7 = .ok (.newarray .int, 2) := by decide +kernel
theorem dX4_init_9 : decode cX4_init 9 = .ok (.putfield 7, 3) := by decide +kernel
theorem dX4_init_12 : decode cX4_init 12 = .ok (.aload_n 0, 1) := by decide +kernel
theorem dX4_init_13 : decode cX4_init 13 = .ok (.bipush 6, 2) := by decide +kernel
theorem dX4_init_15 : decode cX4_init 15 = .ok (.newarray .int, 2) := by decide +kernel
theorem dX4_init_17 : decode cX4_init 17 = .ok (.putfield 13, 3) := by decide +kernel
theorem dX4_init_20 : decode cX4_init 20 = .ok (.aload_n 0, 1) := by decide +kernel
theorem dX4_init_21 : decode cX4_init 21 = .ok (.bipush 48, 2) := by decide +kernel
theorem dX4_init_23 : decode cX4_init 23 = .ok (.newarray .int, 2) := by decide +kernel
theorem dX4_init_25 : decode cX4_init 25 = .ok (.putfield 16, 3) := by decide +kernel
theorem dX4_init_28 : decode cX4_init 28 = .ok (.aload_n 0, 1) := by decide +kernel
theorem dX4_init_29 : decode cX4_init 29 = .ok (.bipush 48, 2) := by decide +kernel
theorem dX4_init_31 : decode cX4_init 31 = .ok (.newarray .int, 2) := by decide +kernel
theorem dX4_init_33 : decode cX4_init 33 = .ok (.putfield 19, 3) := by decide +kernel
theorem dX4_init_36 : decode cX4_init 36 = .ok (.aload_n 0, 1) := by decide +kernel
theorem dX4_init_37 : decode cX4_init 37 = .ok (.iconst (-1), 1) := by decide +kernel
theorem dX4_init_38 : decode cX4_init 38 = .ok (.putfield 22, 3) := by decide +kernel
theorem dX4_init_41 : decode cX4_init 41 = .ok (.aload_n 0, 1) := by decide +kernel
theorem dX4_init_42 : decode cX4_init 42 = .ok (.sipush 600, 3) := by decide +kernel
theorem dX4_init_45 : decode cX4_init 45 = .ok (.newarray .int, 2) := by decide +kernel
theorem dX4_init_47 : decode cX4_init 47 = .ok (.putfield 26, 3) := by decide +kernel
theorem dX4_init_50 : decode cX4_init 50 = .ok (.aload_n 0, 1) := by decide +kernel
theorem dX4_init_51 : decode cX4_init 51 = .ok (.bipush 100, 2) := by decide +kernel
theorem dX4_init_53 : decode cX4_init 53 = .ok (.newarray .int, 2) := by decide +kernel
theorem dX4_init_55 : decode cX4_init 55 = .ok (.putfield 29, 3) := by decide +kernel
theorem dX4_init_58 : decode cX4_init 58 = .ok (.aload_n 0, 1) := by decide +kernel
theorem dX4_init_59 : decode cX4_init 59 = .ok (.bipush 100, 2) := by decide +kernel
theorem dX4_init_61 : decode cX4_init 61 = .ok (.newarray .int, 2) := by decide +kernel
theorem dX4_init_63 : decode cX4_init 63 = .ok (.putfield 32, 3) := by decide +kernel
theorem dX4_init_66 : decode cX4_init 66 = .ok (.aload_n 0, 1) := by decide +kernel
theorem dX4_init_67 : decode cX4_init 67 = .ok (.bipush 100, 2) := by decide +kernel
theorem dX4_init_69 : decode cX4_init 69 = .ok (.newarray .int, 2) := by decide +kernel
theorem dX4_init_71 : decode cX4_init 71 = .ok (.putfield 35, 3) := by decide +kernel
theorem dX4_init_74 : decode cX4_init 74 = .ok (.aload_n 0, 1) := by decide +kernel
theorem dX4_init_75 : decode cX4_init 75 = .ok (.bipush 100, 2) := by decide +kernel
theorem dX4_init_77 : decode cX4_init 77 = .ok (.newarray .boolean, 2) := by decide +kernel
theorem dX4_init_79 : decode cX4_init 79 = .ok (.putfield 38, 3) := by decide +kernel
theorem dX4_init_82 : decode cX4_init 82 = .ok (.aload_n 0, 1) := by decide +kernel
theorem dX4_init_83 : decode cX4_init 83 = .ok (.iconst (-1), 1) := by decide +kernel
theorem dX4_init_84 : decode cX4_init 84 = .ok (.putfield 42, 3) := by decide +kernel
theorem dX4_init_87 : decode cX4_init 87 = .ok (.aload_n 0, 1) := by decide +kernel
theorem dX4_init_88 : decode cX4_init 88 = .ok (.sipush 240, 3) := by decide +kernel
theorem dX4_init_91 : decode cX4_init 91 = .ok (.newarray .int, 2) := by decide +kernel
theorem dX4_init_93 : decode cX4_init 93 = .ok (.putfield 45, 3) := by decide +kernel
theorem dX4_init_96 : decode cX4_init 96 = .ok (.aload_n 0, 1) := by decide +kernel
theorem dX4_init_97 : decode cX4_init 97 = .ok (.sipush 320, 3) := by decide +kernel
theorem dX4_init_100 : decode cX4_init 100 = .ok (.newarray .int, 2) := by decide +kernel
theorem dX4_init_102 : decode cX4_init 102 = .ok (.putfield 48, 3) := by decide +kernel
theorem dX4_init_105 : decode cX4_init 105 = .ok (.aload_n 0, 1) := by decide +kernel
theorem dX4_init_106 : decode cX4_init 106 = .ok (.bipush 40, 2) := by decide +kernel
theorem dX4_init_108 : decode cX4_init 108 = .ok (.newarray .int, 2) := by decide +kernel
theorem dX4_init_110 : decode cX4_init 110 = .ok (.putfield 51, 3) := by decide +kernel
theorem dX4_init_113 : decode cX4_init 113 = .ok (.aload_n 0, 1) := by decide +kernel
theorem dX4_init_114 : decode cX4_init 114 = .ok (.bipush 40, 2) := by decide +kernel
theorem dX4_init_116 : decode cX4_init 116 = .ok (.newarray .int, 2) := by decide +kernel
theorem dX4_init_118 : decode cX4_init 118 = .ok (.putfield 54, 3) := by decide +kernel
theorem dX4_init_121 : decode cX4_init 121 = .ok (.aload_n 0, 1) := by decide +kernel
theorem dX4_init_122 : decode cX4_init 122 = .ok (.bipush 40, 2) := by decide +kernel
theorem dX4_init_124 : decode cX4_init 124 = .ok (.newarray .boolean, 2) := by decide +kernel
theorem dX4_init_126 : decode cX4_init 126 = .ok (.putfield 57, 3) := by decide +kernel
theorem dX4_init_129 : decode cX4_init 129 = .ok (.aload_n 0, 1) := by decide +kernel
theorem dX4_init_130 : decode cX4_init 130 = .ok (.bipush 6, 2) := by decide +kernel
theorem dX4_init_132 : decode cX4_init 132 = .ok (.newarray .int, 2) := by decide +kernel
theorem dX4_init_134 : decode cX4_init 134 = .ok (.putfield 60, 3) := by decide +kernel
theorem dX4_init_137 : decode cX4_init 137 = .ok (.return_, 1) := by decide +kernel
theorem dX4_thrown_0 : decode cX4_thrown 0 = .ok (.aload_n 0, 1) := by decide +kernel
theorem dX4_thrown_1 : decode cX4_thrown 1 = .ok (.getfield 63, 3) := by decide +kernel
theorem dX4_thrown_4 : decode cX4_thrown 4 = .ok (.ireturn, 1) := by decide +kernel
theorem dX4_discard_0 : decode cX4_discard 0 = .ok (.aload_n 0, 1) := by decide +kernel
theorem dX4_discard_1 : decode cX4_discard 1 = .ok (.iconst (-1), 1) := by decide +kernel
theorem dX4_discard_2 : decode cX4_discard 2 = .ok (.putfield 22, 3) := by decide +kernel
theorem dX4_discard_5 : decode cX4_discard 5 = .ok (.aload_n 0, 1) := by decide +kernel
theorem dX4_discard_6 : decode cX4_discard 6 = .ok (.iconst (-1), 1) := by decide +kernel
theorem dX4_discard_7 : decode cX4_discard 7 = .ok (.putfield 42, 3) := by decide +kernel
theorem dX4_discard_10 : decode cX4_discard 10 = .ok (.return_, 1) := by decide +kernel
theorem dX4_noPlace_0 : decode cX4_noPlace 0 = .ok (.iload_n 1, 1) := by decide +kernel
theorem dX4_noPlace_1 : decode cX4_noPlace 1 = .ok (.ifCond .lt 11, 3) := by decide +kernel
theorem dX4_noPlace_4 : decode cX4_noPlace 4 = .ok (.iload_n 1, 1) := by decide +kernel
theorem dX4_noPlace_5 : decode cX4_noPlace 5 = .ok (.aload_n 0, 1) := by decide +kernel
theorem dX4_noPlace_6 : decode cX4_noPlace 6 = .ok (.getfield 66, 3) := by decide +kernel
theorem dX4_noPlace_9 : decode cX4_noPlace 9 = .ok (.if_icmp .lt 7, 3) := by decide +kernel
theorem dX4_noPlace_12 : decode cX4_noPlace 12 = .ok (.iconst 1, 1) := by decide +kernel
theorem dX4_noPlace_13 : decode cX4_noPlace 13 = .ok (.goto 4, 3) := by decide +kernel
theorem dX4_noPlace_16 : decode cX4_noPlace 16 = .ok (.iconst 0, 1) := by decide +kernel
theorem dX4_noPlace_17 : decode cX4_noPlace 17 = .ok (.ireturn, 1) := by decide +kernel
theorem dX4_noTransition_0 : decode cX4_noTransition 0 = .ok (.iload_n 1, 1) := by decide +kernel
theorem dX4_noTransition_1 : decode cX4_noTransition 1 = .ok (.ifCond .lt 11, 3) := by decide +kernel
theorem dX4_noTransition_4 : decode cX4_noTransition 4 = .ok (.iload_n 1, 1) := by decide +kernel
theorem dX4_noTransition_5 : decode cX4_noTransition 5 = .ok (.aload_n 0, 1) := by decide +kernel
theorem dX4_noTransition_6 : decode cX4_noTransition 6 = .ok (.getfield 69, 3) := by decide +kernel
theorem dX4_noTransition_9 : decode cX4_noTransition 9 = .ok (.if_icmp .lt 7, 3) := by decide +kernel
theorem dX4_noTransition_12 : decode cX4_noTransition 12 = .ok (.iconst 1, 1) := by decide +kernel
theorem dX4_noTransition_13 : decode cX4_noTransition 13 = .ok (.goto 4, 3) := by decide +kernel
theorem dX4_noTransition_16 : decode cX4_noTransition 16 = .ok (.iconst 0, 1) := by decide +kernel
theorem dX4_noTransition_17 : decode cX4_noTransition 17 = .ok (.ireturn, 1) := by decide +kernel
theorem dX4_place_0 : decode cX4_place 0 = .ok (.aload_n 0, 1) := by decide +kernel
theorem dX4_place_1 : decode cX4_place 1 = .ok (.iload_n 1, 1) := by decide +kernel
theorem dX4_place_2 : decode cX4_place 2 = .ok (.ifCond .lt 9, 3) := by decide +kernel
theorem dX4_place_5 : decode cX4_place 5 = .ok (.iload_n 1, 1) := by decide +kernel
theorem dX4_place_6 : decode cX4_place 6 = .ok (.bipush 9, 2) := by decide +kernel
theorem dX4_place_8 : decode cX4_place 8 = .ok (.if_icmp .le 7, 3) := by decide +kernel
theorem dX4_place_11 : decode cX4_place 11 = .ok (.iconst 1, 1) := by decide +kernel
theorem dX4_place_12 : decode cX4_place 12 = .ok (.goto 17, 3) := by decide +kernel
theorem dX4_place_15 : decode cX4_place 15 = .ok (.aload_n 0, 1) := by decide +kernel
theorem dX4_place_16 : decode cX4_place 16 = .ok (.getfield 66, 3) := by decide +kernel
theorem dX4_place_19 : decode cX4_place 19 = .ok (.bipush 6, 2) := by decide +kernel
theorem dX4_place_21 : decode cX4_place 21 = .ok (.if_icmp .ne 7, 3) := by decide +kernel
theorem dX4_place_24 : decode cX4_place 24 = .ok (.iconst 2, 1) := by decide +kernel
theorem dX4_place_25 : decode cX4_place 25 = .ok (.goto 4, 3) := by decide +kernel
theorem dX4_place_28 : decode cX4_place 28 = .ok (.iconst 0, 1) := by decide +kernel
theorem dX4_place_29 : decode cX4_place 29 = .ok (.putfield 63, 3) := by decide +kernel
theorem dX4_place_32 : decode cX4_place 32 = .ok (.aload_n 0, 1) := by decide +kernel
theorem dX4_place_33 : decode cX4_place 33 = .ok (.getfield 63, 3) := by decide +kernel
theorem dX4_place_36 : decode cX4_place 36 = .ok (.ifCond .le 5, 3) := by decide +kernel
theorem dX4_place_39 : decode cX4_place 39 = .ok (.iconst 0, 1) := by decide +kernel
theorem dX4_place_40 : decode cX4_place 40 = .ok (.ireturn, 1) := by decide +kernel
theorem dX4_place_41 : decode cX4_place 41 = .ok (.aload_n 0, 1) := by decide +kernel
theorem dX4_place_42 : decode cX4_place 42 = .ok (.invokevirtual 72, 3) := by decide +kernel
theorem dX4_place_45 : decode cX4_place 45 = .ok (.aload_n 0, 1) := by decide +kernel
theorem dX4_place_46 : decode cX4_place 46 = .ok (.getfield 7, 3) := by decide +kernel
theorem dX4_place_49 : decode cX4_place 49 = .ok (.aload_n 0, 1) := by decide +kernel
theorem dX4_place_50 : decode cX4_place 50 = .ok (.getfield 66, 3) := by decide +kernel
theorem dX4_place_53 : decode cX4_place 53 = .ok (.iload_n 1, 1) := by decide +kernel
theorem dX4_place_54 : decode cX4_place 54 = .ok (.iastore, 1) := by decide +kernel
theorem dX4_place_55 : decode cX4_place 55 = .ok (.aload_n 0, 1) := by decide +kernel
theorem dX4_place_56 : decode cX4_place 56 = .ok (.getfield 13, 3) := by decide +kernel
theorem dX4_place_59 : decode cX4_place 59 = .ok (.aload_n 0, 1) := by decide +kernel
theorem dX4_place_60 : decode cX4_place 60 = .ok (.getfield 66, 3) := by decide +kernel
theorem dX4_place_63 : decode cX4_place 63 = .ok (.iconst 0, 1) := by decide +kernel
theorem dX4_place_64 : decode cX4_place 64 = .ok (.iastore, 1) := by decide +kernel
theorem dX4_place_65 : decode cX4_place 65 = .ok (.iconst 0, 1) := by decide +kernel
theorem dX4_place_66 : decode cX4_place 66 = .ok (.istore_n 2, 1) := by decide +kernel
theorem dX4_place_67 : decode cX4_place 67 = .ok (.iload_n 2, 1) := by decide +kernel
theorem dX4_place_68 : decode cX4_place 68 = .ok (.bipush 8, 2) := by decide +kernel
theorem dX4_place_70 : decode cX4_place 70 = .ok (.if_icmp .ge 39, 3) := by decide +kernel
theorem dX4_place_73 : decode cX4_place 73 = .ok (.aload_n 0, 1) := by decide +kernel
theorem dX4_place_74 : decode cX4_place 74 = .ok (.getfield 16, 3) := by decide +kernel
theorem dX4_place_77 : decode cX4_place 77 = .ok (.bipush 6, 2) := by decide +kernel
theorem dX4_place_79 : decode cX4_place 79 = .ok (.iload_n 2, 1) := by decide +kernel
theorem dX4_place_80 : decode cX4_place 80 = .ok (.imul, 1) := by decide +kernel
theorem dX4_place_81 : decode cX4_place 81 = .ok (.aload_n 0, 1) := by decide +kernel
theorem dX4_place_82 : decode cX4_place 82 = .ok (.getfield 66, 3) := by decide +kernel
theorem dX4_place_85 : decode cX4_place 85 = .ok (.iadd, 1) := by decide +kernel
theorem dX4_place_86 : decode cX4_place 86 = .ok (.iconst 0, 1) := by decide +kernel
theorem dX4_place_87 : decode cX4_place 87 = .ok (.iastore, 1) := by decide +kernel
theorem dX4_place_88 : decode cX4_place 88 = .ok (.aload_n 0, 1) := by decide +kernel
theorem dX4_place_89 : decode cX4_place 89 = .ok (.getfield 19, 3) := by decide +kernel
theorem dX4_place_92 : decode cX4_place 92 = .ok (.bipush 6, 2) := by decide +kernel
theorem dX4_place_94 : decode cX4_place 94 = .ok (.iload_n 2, 1) := by decide +kernel
theorem dX4_place_95 : decode cX4_place 95 = .ok (.imul, 1) := by decide +kernel
theorem dX4_place_96 : decode cX4_place 96 = .ok (.aload_n 0, 1) := by decide +kernel
theorem dX4_place_97 : decode cX4_place 97 = .ok (.getfield 66, 3) := by decide +kernel
theorem dX4_place_100 : decode cX4_place 100 = .ok (.iadd, 1) := by decide +kernel
theorem dX4_place_101 : decode cX4_place 101 = .ok (.iconst 0, 1) := by decide +kernel
theorem dX4_place_102 : decode cX4_place 102 = .ok (.iastore, 1) := by decide +kernel
theorem dX4_place_103 : decode cX4_place 103 = .ok (.iinc 2 1, 3) := by decide +kernel
theorem dX4_place_106 : decode cX4_place 106 = .ok (.goto (-39), 3) := by decide +kernel
theorem dX4_place_109 : decode cX4_place 109 = .ok (.aload_n 0, 1) := by decide +kernel
theorem dX4_place_110 : decode cX4_place 110 = .ok (.dup, 1) := by decide +kernel
theorem dX4_place_111 : decode cX4_place 111 = .ok (.getfield 66, 3) := by decide +kernel
theorem dX4_place_114 : decode cX4_place 114 = .ok (.iconst 1, 1) := by decide +kernel
theorem dX4_place_115 : decode cX4_place 115 = .ok (.iadd, 1) := by decide +kernel
theorem dX4_place_116 : decode cX4_place 116 = .ok (.putfield 66, 3) := by decide +kernel
theorem dX4_place_119 : decode cX4_place 119 = .ok (.aload_n 0, 1) := by decide +kernel
theorem dX4_place_120 : decode cX4_place 120 = .ok (.getfield 66, 3) := by decide +kernel
theorem dX4_place_123 : decode cX4_place 123 = .ok (.iconst 1, 1) := by decide +kernel
theorem dX4_place_124 : decode cX4_place 124 = .ok (.isub, 1) := by decide +kernel
theorem dX4_place_125 : decode cX4_place 125 = .ok (.ireturn, 1) := by decide +kernel
theorem dX4_transition_0 : decode cX4_transition 0 = .ok (.aload_n 0, 1) := by decide +kernel
theorem dX4_transition_1 : decode cX4_transition 1 = .ok (.aload_n 0, 1) := by decide +kernel
theorem dX4_transition_2 : decode cX4_transition 2 = .ok (.getfield 69, 3) := by decide +kernel
theorem dX4_transition_5 : decode cX4_transition 5 = .ok (.bipush 8, 2) := by decide +kernel
theorem dX4_transition_7 : decode cX4_transition 7 = .ok (.if_icmp .ne 7, 3) := by decide +kernel
theorem dX4_transition_10 : decode cX4_transition 10 = .ok (.iconst 1, 1) := by decide +kernel
theorem dX4_transition_11 : decode cX4_transition 11 = .ok (.goto 4, 3) := by decide +kernel
theorem dX4_transition_14 : decode cX4_transition 14 = .ok (.iconst 0, 1) := by decide +kernel
theorem dX4_transition_15 : decode cX4_transition 15 = .ok (.putfield 63, 3) := by decide +kernel
theorem dX4_transition_18 : decode cX4_transition 18 = .ok (.aload_n 0, 1) := by decide +kernel
theorem dX4_transition_19 : decode cX4_transition 19 = .ok (.getfield 63, 3) := by decide +kernel
theorem dX4_transition_22 : decode cX4_transition 22 = .ok (.ifCond .le 5, 3) := by decide +kernel
theorem dX4_transition_25 : decode cX4_transition 25 = .ok (.iconst 0, 1) := by decide +kernel
theorem dX4_transition_26 : decode cX4_transition 26 = .ok (.ireturn, 1) := by decide +kernel
theorem dX4_transition_27 : decode cX4_transition 27 = .ok (.aload_n 0, 1) := by decide +kernel
theorem dX4_transition_28 : decode cX4_transition 28 = .ok (.invokevirtual 72, 3) := by decide +kernel
theorem dX4_transition_31 : decode cX4_transition 31 = .ok (.aload_n 0, 1) := by decide +kernel
theorem dX4_transition_32 : decode cX4_transition 32 = .ok (.dup, 1) := by decide +kernel
theorem dX4_transition_33 : decode cX4_transition 33 = .ok (.getfield 69, 3) := by decide +kernel
theorem dX4_transition_36 : decode cX4_transition 36 = .ok (.iconst 1, 1) := by decide +kernel
theorem dX4_transition_37 : decode cX4_transition 37 = .ok (.iadd, 1) := by decide +kernel
theorem dX4_transition_38 : decode cX4_transition 38 = .ok (.putfield 69, 3) := by decide +kernel
theorem dX4_transition_41 : decode cX4_transition 41 = .ok (.aload_n 0, 1) := by decide +kernel
theorem dX4_transition_42 : decode cX4_transition 42 = .ok (.getfield 69, 3) := by decide +kernel
theorem dX4_transition_45 : decode cX4_transition 45 = .ok (.iconst 1, 1) := by decide +kernel
theorem dX4_transition_46 : decode cX4_transition 46 = .ok (.isub, 1) := by decide +kernel
theorem dX4_transition_47 : decode cX4_transition 47 = .ok (.ireturn, 1) := by decide +kernel
theorem dX4_arc_0 : decode cX4_arc 0 = .ok (.aload_n 0, 1) := by decide +kernel
theorem dX4_arc_1 : decode cX4_arc 1 = .ok (.aload_n 0, 1) := by decide +kernel
theorem dX4_arc_2 : decode cX4_arc 2 = .ok (.iload_n 1, 1) := by decide +kernel
theorem dX4_arc_3 : decode cX4_arc 3 = .ok (.invokevirtual 75, 3) := by decide +kernel
theorem dX4_arc_6 : decode cX4_arc 6 = .ok (.ifCond .ne 11, 3) := by decide +kernel
theorem dX4_arc_9 : decode cX4_arc 9 = .ok (.aload_n 0, 1) := by decide +kernel
theorem dX4_arc_10 : decode cX4_arc 10 = .ok (.iload_n 2, 1) := by decide +kernel
theorem dX4_arc_11 : decode cX4_arc 11 = .ok (.invokevirtual 79, 3) := by decide +kernel
theorem dX4_arc_14 : decode cX4_arc 14 = .ok (.ifCond .eq 7, 3) := by decide +kernel
theorem dX4_arc_17 : decode cX4_arc 17 = .ok (.iconst 1, 1) := by decide +kernel
theorem dX4_arc_18 : decode cX4_arc 18 = .ok (.goto 17, 3) := by decide +kernel
theorem dX4_arc_21 : decode cX4_arc 21 = .ok (.iload_n 3, 1) := by decide +kernel
theorem dX4_arc_22 : decode cX4_arc 22 = .ok (.ifCond .lt 8, 3) := by decide +kernel
theorem dX4_arc_25 : decode cX4_arc 25 = .ok (.iload_n 3, 1) := by decide +kernel
theorem dX4_arc_26 : decode cX4_arc 26 = .ok (.iconst 4, 1) := by decide +kernel
theorem dX4_arc_27 : decode cX4_arc 27 = .ok (.if_icmp .le 7, 3) := by decide +kernel
theorem dX4_arc_30 : decode cX4_arc 30 = .ok (.iconst 2, 1) := by decide +kernel
theorem dX4_arc_31 : decode cX4_arc 31 = .ok (.goto 4, 3) := by decide +kernel
theorem dX4_arc_34 : decode cX4_arc 34 = .ok (.iconst 0, 1) := by decide +kernel
theorem dX4_arc_35 : decode cX4_arc 35 = .ok (.putfield 63, 3) := by decide +kernel
theorem dX4_arc_38 : decode cX4_arc 38 = .ok (.aload_n 0, 1) := by decide +kernel
theorem dX4_arc_39 : decode cX4_arc 39 = .ok (.getfield 63, 3) := by decide +kernel
theorem dX4_arc_42 : decode cX4_arc 42 = .ok (.ifCond .le 5, 3) := by decide +kernel
theorem dX4_arc_45 : decode cX4_arc 45 = .ok (.iconst 0, 1) := by decide +kernel
theorem dX4_arc_46 : decode cX4_arc 46 = .ok (.ireturn, 1) := by decide +kernel
theorem dX4_arc_47 : decode cX4_arc 47 = .ok (.aload_n 0, 1) := by decide +kernel
theorem dX4_arc_48 : decode cX4_arc 48 = .ok (.invokevirtual 72, 3) := by decide +kernel
theorem dX4_arc_51 : decode cX4_arc 51 = .ok (.bipush 6, 2) := by decide +kernel
theorem dX4_arc_53 : decode cX4_arc 53 = .ok (.iload_n 2, 1) := by decide +kernel
theorem dX4_arc_54 : decode cX4_arc 54 = .ok (.imul, 1) := by decide +kernel
theorem dX4_arc_55 : decode cX4_arc 55 = .ok (.iload_n 1, 1) := by decide +kernel
theorem dX4_arc_56 : decode cX4_arc 56 = .ok (.iadd, 1) := by decide +kernel
theorem dX4_arc_57 : decode cX4_arc 57 = .ok (.istore 5, 2) := by decide +kernel
theorem dX4_arc_59 : decode cX4_arc 59 = .ok (.iload 4, 2) := by decide +kernel
theorem dX4_arc_61 : decode cX4_arc 61 = .ok (.ifCond .eq 13, 3) := by decide +kernel
theorem dX4_arc_64 : decode cX4_arc 64 = .ok (.aload_n 0, 1) := by decide +kernel
theorem dX4_arc_65 : decode cX4_arc 65 = .ok (.getfield 19, 3) := by decide +kernel
theorem dX4_arc_68 : decode cX4_arc 68 = .ok (.iload 5, 2) := by decide +kernel
theorem dX4_arc_70 : decode cX4_arc 70 = .ok (.iaload, 1) := by decide +kernel
theorem dX4_arc_71 : decode cX4_arc 71 = .ok (.goto 10, 3) := by decide +kernel
theorem dX4_arc_74 : decode cX4_arc 74 = .ok (.aload_n 0, 1) := by decide +kernel
theorem dX4_arc_75 : decode cX4_arc 75 = .ok (.getfield 16, 3) := by decide +kernel
theorem dX4_arc_78 : decode cX4_arc 78 = .ok (.iload 5, 2) := by decide +kernel
theorem dX4_arc_80 : decode cX4_arc 80 = .ok (.iaload, 1) := by decide +kernel
theorem dX4_arc_81 : decode cX4_arc 81 = .ok (.istore 6, 2) := by decide +kernel
theorem dX4_arc_83 : decode cX4_arc 83 = .ok (.iload 4, 2) := by decide +kernel
theorem dX4_arc_85 : decode cX4_arc 85 = .ok (.ifCond .eq 14, 3) := by decide +kernel
theorem dX4_arc_88 : decode cX4_arc 88 = .ok (.aload_n 0, 1) := by decide +kernel
theorem dX4_arc_89 : decode cX4_arc 89 = .ok (.getfield 19, 3) := by decide +kernel
theorem dX4_arc_92 : decode cX4_arc 92 = .ok (.iload 5, 2) := by decide +kernel
theorem dX4_arc_94 : decode cX4_arc 94 = .ok (.iload_n 3, 1) := by decide +kernel
theorem dX4_arc_95 : decode cX4_arc 95 = .ok (.iastore, 1) := by decide +kernel
theorem dX4_arc_96 : decode cX4_arc 96 = .ok (.goto 11, 3) := by decide +kernel
theorem dX4_arc_99 : decode cX4_arc 99 = .ok (.aload_n 0, 1) := by decide +kernel
theorem dX4_arc_100 : decode cX4_arc 100 = .ok (.getfield 16, 3) := by decide +kernel
theorem dX4_arc_103 : decode cX4_arc 103 = .ok (.iload 5, 2) := by decide +kernel
theorem dX4_arc_105 : decode cX4_arc 105 = .ok (.iload_n 3, 1) := by decide +kernel
theorem dX4_arc_106 : decode cX4_arc 106 = .ok (.iastore, 1) := by decide +kernel
theorem dX4_arc_107 : decode cX4_arc 107 = .ok (.iload 6, 2) := by decide +kernel
theorem dX4_arc_109 : decode cX4_arc 109 = .ok (.ireturn, 1) := by decide +kernel
theorem dX4_tokens_0 : decode cX4_tokens 0 = .ok (.aload_n 0, 1) := by decide +kernel
theorem dX4_tokens_1 : decode cX4_tokens 1 = .ok (.aload_n 0, 1) := by decide +kernel
theorem dX4_tokens_2 : decode cX4_tokens 2 = .ok (.iload_n 1, 1) := by decide +kernel
theorem dX4_tokens_3 : decode cX4_tokens 3 = .ok (.invokevirtual 75, 3) := by decide +kernel
theorem dX4_tokens_6 : decode cX4_tokens 6 = .ok (.ifCond .eq 7, 3) := by decide +kernel
theorem dX4_tokens_9 : decode cX4_tokens 9 = .ok (.iconst 1, 1) := by decide +kernel
theorem dX4_tokens_10 : decode cX4_tokens 10 = .ok (.goto 18, 3) := by decide +kernel
theorem dX4_tokens_13 : decode cX4_tokens 13 = .ok (.iload_n 2, 1) := by decide +kernel
theorem dX4_tokens_14 : decode cX4_tokens 14 = .ok (.ifCond .lt 9, 3) := by decide +kernel
theorem dX4_tokens_17 : decode cX4_tokens 17 = .ok (.iload_n 2, 1) := by decide +kernel
theorem dX4_tokens_18 : decode cX4_tokens 18 = .ok (.bipush 9, 2) := by decide +kernel
theorem dX4_tokens_20 : decode cX4_tokens 20 = .ok (.if_icmp .le 7, 3) := by decide +kernel
theorem dX4_tokens_23 : decode cX4_tokens 23 = .ok (.iconst 2, 1) := by decide +kernel
theorem dX4_tokens_24 : decode cX4_tokens 24 = .ok (.goto 4, 3) := by decide +kernel
theorem dX4_tokens_27 : decode cX4_tokens 27 = .ok (.iconst 0, 1) := by decide +kernel
theorem dX4_tokens_28 : decode cX4_tokens 28 = .ok (.putfield 63, 3) := by decide +kernel
theorem dX4_tokens_31 : decode cX4_tokens 31 = .ok (.aload_n 0, 1) := by decide +kernel
theorem dX4_tokens_32 : decode cX4_tokens 32 = .ok (.getfield 63, 3) := by decide +kernel
theorem dX4_tokens_35 : decode cX4_tokens 35 = .ok (.ifCond .le 4, 3) := by decide +kernel
theorem dX4_tokens_38 : decode cX4_tokens 38 = .ok (.return_, 1) := by decide +kernel
theorem dX4_tokens_39 : decode cX4_tokens 39 = .ok (.aload_n 0, 1) := by decide +kernel
theorem dX4_tokens_40 : decode cX4_tokens 40 = .ok (.invokevirtual 72, 3) := by decide +kernel
theorem dX4_tokens_43 : decode cX4_tokens 43 = .ok (.aload_n 0, 1) := by decide +kernel
theorem dX4_tokens_44 : decode cX4_tokens 44 = .ok (.getfield 7, 3) := by decide +kernel
theorem dX4_tokens_47 : decode cX4_tokens 47 = .ok (.iload_n 1, 1) := by decide +kernel
theorem dX4_tokens_48 : decode cX4_tokens 48 = .ok (.iload_n 2, 1) := by decide +kernel
theorem dX4_tokens_49 : decode cX4_tokens 49 = .ok (.iastore, 1) := by decide +kernel
theorem dX4_tokens_50 : decode cX4_tokens 50 = .ok (.return_, 1) := by decide +kernel
theorem dX4_enabledAt_0 : decode cX4_enabledAt 0 = .ok (.iconst 0, 1) := by decide +kernel
theorem dX4_enabledAt_1 : decode cX4_enabledAt 1 = .ok (.istore_n 3, 1) := by decide +kernel
theorem dX4_enabledAt_2 : decode cX4_enabledAt 2 = .ok (.iload_n 3, 1) := by decide +kernel
theorem dX4_enabledAt_3 : decode cX4_enabledAt 3 = .ok (.aload_n 0, 1) := by decide +kernel
theorem dX4_enabledAt_4 : decode cX4_enabledAt 4 = .ok (.getfield 66, 3) := by decide +kernel
theorem dX4_enabledAt_7 : decode cX4_enabledAt 7 = .ok (.if_icmp .ge 36, 3) := by decide +kernel
theorem dX4_enabledAt_10 : decode cX4_enabledAt 10 = .ok (.aload_n 0, 1) := by decide +kernel
theorem dX4_enabledAt_11 : decode cX4_enabledAt 11 = .ok (.getfield 26, 3) := by decide +kernel
theorem dX4_enabledAt_14 : decode cX4_enabledAt 14 = .ok (.bipush 6, 2) := by decide +kernel
theorem dX4_enabledAt_16 : decode cX4_enabledAt 16 = .ok (.iload_n 1, 1) := by decide +kernel
theorem dX4_enabledAt_17 : decode cX4_enabledAt 17 = .ok (.imul, 1) := by decide +kernel
theorem dX4_enabledAt_18 : decode cX4_enabledAt 18 = .ok (.iload_n 3, 1) := by decide +kernel
theorem dX4_enabledAt_19 : decode cX4_enabledAt 19 = .ok (.iadd, 1) := by decide +kernel
theorem dX4_enabledAt_20 : decode cX4_enabledAt 20 = .ok (.iaload, 1) := by decide +kernel
theorem dX4_enabledAt_21 : decode cX4_enabledAt 21 = .ok (.aload_n 0, 1) := by decide +kernel
theorem dX4_enabledAt_22 : decode cX4_enabledAt 22 = .ok (.getfield 16, 3) := by decide +kernel
theorem dX4_enabledAt_25 : decode cX4_enabledAt 25 = .ok (.bipush 6, 2) := by decide +kernel
theorem dX4_enabledAt_27 : decode cX4_enabledAt 27 = .ok (.iload_n 2, 1) := by decide +kernel
theorem dX4_enabledAt_28 : decode cX4_enabledAt 28 = .ok (.imul, 1) := by decide +kernel
theorem dX4_enabledAt_29 : decode cX4_enabledAt 29 = .ok (.iload_n 3, 1) := by decide +kernel
theorem dX4_enabledAt_30 : decode cX4_enabledAt 30 = .ok (.iadd, 1) := by decide +kernel
theorem dX4_enabledAt_31 : decode cX4_enabledAt 31 = .ok (.iaload, 1) := by decide +kernel
theorem dX4_enabledAt_32 : decode cX4_enabledAt 32 = .ok (.if_icmp .ge 5, 3) := by decide +kernel
theorem dX4_enabledAt_35 : decode cX4_enabledAt 35 = .ok (.iconst 0, 1) := by decide +kernel
theorem dX4_enabledAt_36 : decode cX4_enabledAt 36 = .ok (.ireturn, 1) := by decide +kernel
theorem dX4_enabledAt_37 : decode cX4_enabledAt 37 = .ok (.iinc 3 1, 3) := by decide +kernel
theorem dX4_enabledAt_40 : decode cX4_enabledAt 40 = .ok (.goto (-38), 3) := by decide +kernel
theorem dX4_enabledAt_43 : decode cX4_enabledAt 43 = .ok (.iconst 1, 1) := by decide +kernel
theorem dX4_enabledAt_44 : decode cX4_enabledAt 44 = .ok (.ireturn, 1) := by decide +kernel
theorem dX4_below_0 : decode cX4_below 0 = .ok (.iconst 0, 1) := by decide +kernel
theorem dX4_below_1 : decode cX4_below 1 = .ok (.istore_n 2, 1) := by decide +kernel
theorem dX4_below_2 : decode cX4_below 2 = .ok (.iconst 0, 1) := by decide +kernel
theorem dX4_below_3 : decode cX4_below 3 = .ok (.istore_n 3, 1) := by decide +kernel
theorem dX4_below_4 : decode cX4_below 4 = .ok (.iload_n 3, 1) := by decide +kernel
theorem dX4_below_5 : decode cX4_below 5 = .ok (.aload_n 0, 1) := by decide +kernel
theorem dX4_below_6 : decode cX4_below 6 = .ok (.getfield 66, 3) := by decide +kernel
theorem dX4_below_9 : decode cX4_below 9 = .ok (.if_icmp .ge 56, 3) := by decide +kernel
theorem dX4_below_12 : decode cX4_below 12 = .ok (.aload_n 0, 1) := by decide +kernel
theorem dX4_below_13 : decode cX4_below 13 = .ok (.getfield 26, 3) := by decide +kernel
theorem dX4_below_16 : decode cX4_below 16 = .ok (.bipush 6, 2) := by decide +kernel
theorem dX4_below_18 : decode cX4_below 18 = .ok (.iload_n 1, 1) := by decide +kernel
theorem dX4_below_19 : decode cX4_below 19 = .ok (.imul, 1) := by decide +kernel
theorem dX4_below_20 : decode cX4_below 20 = .ok (.iload_n 3, 1) := by decide +kernel
theorem dX4_below_21 : decode cX4_below 21 = .ok (.iadd, 1) := by decide +kernel
theorem dX4_below_22 : decode cX4_below 22 = .ok (.iaload, 1) := by decide +kernel
theorem dX4_below_23 : decode cX4_below 23 = .ok (.istore 4, 2) := by decide +kernel
theorem dX4_below_25 : decode cX4_below 25 = .ok (.iload 4, 2) := by decide +kernel
theorem dX4_below_27 : decode cX4_below 27 = .ok (.aload_n 0, 1) := by decide +kernel
theorem dX4_below_28 : decode cX4_below 28 = .ok (.getfield 60, 3) := by decide +kernel
theorem dX4_below_31 : decode cX4_below 31 = .ok (.iload_n 3, 1) := by decide +kernel
theorem dX4_below_32 : decode cX4_below 32 = .ok (.iaload, 1) := by decide +kernel
theorem dX4_below_33 : decode cX4_below 33 = .ok (.if_icmp .le 5, 3) := by decide +kernel
theorem dX4_below_36 : decode cX4_below 36 = .ok (.iconst 0, 1) := by decide +kernel
theorem dX4_below_37 : decode cX4_below 37 = .ok (.ireturn, 1) := by decide +kernel
theorem dX4_below_38 : decode cX4_below 38 = .ok (.iload_n 2, 1) := by decide +kernel
theorem dX4_below_39 : decode cX4_below 39 = .ok (.ifCond .ne 14, 3) := by decide +kernel
theorem dX4_below_42 : decode cX4_below 42 = .ok (.iload 4, 2) := by decide +kernel
theorem dX4_below_44 : decode cX4_below 44 = .ok (.aload_n 0, 1) := by decide +kernel
theorem dX4_below_45 : decode cX4_below 45 = .ok (.getfield 60, 3) := by decide +kernel
theorem dX4_below_48 : decode cX4_below 48 = .ok (.iload_n 3, 1) := by decide +kernel
theorem dX4_below_49 : decode cX4_below 49 = .ok (.iaload, 1) := by decide +kernel
theorem dX4_below_50 : decode cX4_below 50 = .ok (.if_icmp .ge 7, 3) := by decide +kernel
theorem dX4_below_53 : decode cX4_below 53 = .ok (.iconst 1, 1) := by decide +kernel
theorem dX4_below_54 : decode cX4_below 54 = .ok (.goto 4, 3) := by decide +kernel
theorem dX4_below_57 : decode cX4_below 57 = .ok (.iconst 0, 1) := by decide +kernel
theorem dX4_below_58 : decode cX4_below 58 = .ok (.istore_n 2, 1) := by decide +kernel
theorem dX4_below_59 : decode cX4_below 59 = .ok (.iinc 3 1, 3) := by decide +kernel
theorem dX4_below_62 : decode cX4_below 62 = .ok (.goto (-58), 3) := by decide +kernel
theorem dX4_below_65 : decode cX4_below 65 = .ok (.iload_n 2, 1) := by decide +kernel
theorem dX4_below_66 : decode cX4_below 66 = .ok (.ireturn, 1) := by decide +kernel
theorem dX4_sameAs_0 : decode cX4_sameAs 0 = .ok (.iconst 0, 1) := by decide +kernel
theorem dX4_sameAs_1 : decode cX4_sameAs 1 = .ok (.istore_n 2, 1) := by decide +kernel
theorem dX4_sameAs_2 : decode cX4_sameAs 2 = .ok (.iload_n 2, 1) := by decide +kernel
theorem dX4_sameAs_3 : decode cX4_sameAs 3 = .ok (.aload_n 0, 1) := by decide +kernel
theorem dX4_sameAs_4 : decode cX4_sameAs 4 = .ok (.getfield 66, 3) := by decide +kernel
theorem dX4_sameAs_7 : decode cX4_sameAs 7 = .ok (.if_icmp .ge 31, 3) := by decide +kernel
theorem dX4_sameAs_10 : decode cX4_sameAs 10 = .ok (.aload_n 0, 1) := by decide +kernel
theorem dX4_sameAs_11 : decode cX4_sameAs 11 = .ok (.getfield 26, 3) := by decide +kernel
theorem dX4_sameAs_14 : decode cX4_sameAs 14 = .ok (.bipush 6, 2) := by decide +kernel
theorem dX4_sameAs_16 : decode cX4_sameAs 16 = .ok (.iload_n 1, 1) := by decide +kernel
theorem dX4_sameAs_17 : decode cX4_sameAs 17 = .ok (.imul, 1) := by decide +kernel
theorem dX4_sameAs_18 : decode cX4_sameAs 18 = .ok (.iload_n 2, 1) := by decide +kernel
theorem dX4_sameAs_19 : decode cX4_sameAs 19 = .ok (.iadd, 1) := by decide +kernel
theorem dX4_sameAs_20 : decode cX4_sameAs 20 = .ok (.iaload, 1) := by decide +kernel
theorem dX4_sameAs_21 : decode cX4_sameAs 21 = .ok (.aload_n 0, 1) := by decide +kernel
theorem dX4_sameAs_22 : decode cX4_sameAs 22 = .ok (.getfield 60, 3) := by decide +kernel
theorem dX4_sameAs_25 : decode cX4_sameAs 25 = .ok (.iload_n 2, 1) := by decide +kernel
theorem dX4_sameAs_26 : decode cX4_sameAs 26 = .ok (.iaload, 1) := by decide +kernel
theorem dX4_sameAs_27 : decode cX4_sameAs 27 = .ok (.if_icmp .eq 5, 3) := by decide +kernel
theorem dX4_sameAs_30 : decode cX4_sameAs 30 = .ok (.iconst 0, 1) := by decide +kernel
theorem dX4_sameAs_31 : decode cX4_sameAs 31 = .ok (.ireturn, 1) := by decide +kernel
theorem dX4_sameAs_32 : decode cX4_sameAs 32 = .ok (.iinc 2 1, 3) := by decide +kernel
theorem dX4_sameAs_35 : decode cX4_sameAs 35 = .ok (.goto (-33), 3) := by decide +kernel
theorem dX4_sameAs_38 : decode cX4_sameAs 38 = .ok (.iconst 1, 1) := by decide +kernel
theorem dX4_sameAs_39 : decode cX4_sameAs 39 = .ok (.ireturn, 1) := by decide +kernel
theorem dX4_addNode_0 : decode cX4_addNode 0 = .ok (.aload_n 0, 1) := by decide +kernel
theorem dX4_addNode_1 : decode cX4_addNode 1 = .ok (.getfield 22, 3) := by decide +kernel
theorem dX4_addNode_4 : decode cX4_addNode 4 = .ok (.istore_n 3, 1) := by decide +kernel
theorem dX4_addNode_5 : decode cX4_addNode 5 = .ok (.aload_n 0, 1) := by decide +kernel
theorem dX4_addNode_6 : decode cX4_addNode 6 = .ok (.getfield 38, 3) := by decide +kernel
theorem dX4_addNode_9 : decode cX4_addNode 9 = .ok (.iload_n 3, 1) := by decide +kernel
theorem dX4_addNode_10 : decode cX4_addNode 10 = .ok (.iconst 0, 1) := by decide +kernel
theorem dX4_addNode_11 : decode cX4_addNode 11 = .ok (.bastore, 1) := by decide +kernel
theorem dX4_addNode_12 : decode cX4_addNode 12 = .ok (.iconst 0, 1) := by decide +kernel
theorem dX4_addNode_13 : decode cX4_addNode 13 = .ok (.istore 4, 2) := by decide +kernel
theorem dX4_addNode_15 : decode cX4_addNode 15 = .ok (.iload 4, 2) := by decide +kernel
theorem dX4_addNode_17 : decode cX4_addNode 17 = .ok (.iload_n 3, 1) := by decide +kernel
theorem dX4_addNode_18 : decode cX4_addNode 18 = .ok (.if_icmp .ge 38, 3) := by decide +kernel
theorem dX4_addNode_21 : decode cX4_addNode 21 = .ok (.aload_n 0, 1) := by decide +kernel
theorem dX4_addNode_22 : decode cX4_addNode 22 = .ok (.getfield 38, 3) := by decide +kernel
theorem dX4_addNode_25 : decode cX4_addNode 25 = .ok (.iload_n 3, 1) := by decide +kernel
theorem dX4_addNode_26 : decode cX4_addNode 26 = .ok (.aload_n 0, 1) := by decide +kernel
theorem dX4_addNode_27 : decode cX4_addNode 27 = .ok (.getfield 38, 3) := by decide +kernel
theorem dX4_addNode_30 : decode cX4_addNode 30 = .ok (.iload_n 3, 1) := by decide +kernel
theorem dX4_addNode_31 : decode cX4_addNode 31 = .ok (.baload, 1) := by decide +kernel
theorem dX4_addNode_32 : decode cX4_addNode 32 = .ok (.ifCond .ne 12, 3) := by decide +kernel
theorem dX4_addNode_35 : decode cX4_addNode 35 = .ok (.aload_n 0, 1) := by decide +kernel
theorem dX4_addNode_36 : decode cX4_addNode 36 = .ok (.iload 4, 2) := by decide +kernel
theorem dX4_addNode_38 : decode cX4_addNode 38 = .ok (.invokevirtual 82, 3) := by decide +kernel
theorem dX4_addNode_41 : decode cX4_addNode 41 = .ok (.ifCond .eq 7, 3) := by decide +kernel
theorem dX4_addNode_44 : decode cX4_addNode 44 = .ok (.iconst 1, 1) := by decide +kernel
theorem dX4_addNode_45 : decode cX4_addNode 45 = .ok (.goto 4, 3) := by decide +kernel
theorem dX4_addNode_48 : decode cX4_addNode 48 = .ok (.iconst 0, 1) := by decide +kernel
theorem dX4_addNode_49 : decode cX4_addNode 49 = .ok (.bastore, 1) := by decide +kernel
theorem dX4_addNode_50 : decode cX4_addNode 50 = .ok (.iinc 4 1, 3) := by decide +kernel
theorem dX4_addNode_53 : decode cX4_addNode 53 = .ok (.goto (-38), 3) := by decide +kernel
theorem dX4_addNode_56 : decode cX4_addNode 56 = .ok (.iconst 0, 1) := by decide +kernel
theorem dX4_addNode_57 : decode cX4_addNode 57 = .ok (.istore 4, 2) := by decide +kernel
theorem dX4_addNode_59 : decode cX4_addNode 59 = .ok (.iload 4, 2) := by decide +kernel
theorem dX4_addNode_61 : decode cX4_addNode 61 = .ok (.aload_n 0, 1) := by decide +kernel
theorem dX4_addNode_62 : decode cX4_addNode 62 = .ok (.getfield 66, 3) := by decide +kernel
theorem dX4_addNode_65 : decode cX4_addNode 65 = .ok (.if_icmp .ge 28, 3) := by decide +kernel
theorem dX4_addNode_68 : decode cX4_addNode 68 = .ok (.aload_n 0, 1) := by decide +kernel
theorem dX4_addNode_69 : decode cX4_addNode 69 = .ok (.getfield 26, 3) := by decide +kernel
theorem dX4_addNode_72 : decode cX4_addNode 72 = .ok (.bipush 6, 2) := by decide +kernel
theorem dX4_addNode_74 : decode cX4_addNode 74 = .ok (.iload_n 3, 1) := by decide +kernel
theorem dX4_addNode_75 : decode cX4_addNode 75 = .ok (.imul, 1) := by decide +kernel
theorem dX4_addNode_76 : decode cX4_addNode 76 = .ok (.iload 4, 2) := by decide +kernel
theorem dX4_addNode_78 : decode cX4_addNode 78 = .ok (.iadd, 1) := by decide +kernel
theorem dX4_addNode_79 : decode cX4_addNode 79 = .ok (.aload_n 0, 1) := by decide +kernel
theorem dX4_addNode_80 : decode cX4_addNode 80 = .ok (.getfield 60, 3) := by decide +kernel
theorem dX4_addNode_83 : decode cX4_addNode 83 = .ok (.iload 4, 2) := by decide +kernel
theorem dX4_addNode_85 : decode cX4_addNode 85 = .ok (.iaload, 1) := by decide +kernel
theorem dX4_addNode_86 : decode cX4_addNode 86 = .ok (.iastore, 1) := by decide +kernel
theorem dX4_addNode_87 : decode cX4_addNode 87 = .ok (.iinc 4 1, 3) := by decide +kernel
theorem dX4_addNode_90 : decode cX4_addNode 90 = .ok (.goto (-31), 3) := by decide +kernel
theorem dX4_addNode_93 : decode cX4_addNode 93 = .ok (.aload_n 0, 1) := by decide +kernel
theorem dX4_addNode_94 : decode cX4_addNode 94 = .ok (.getfield 29, 3) := by decide +kernel
theorem dX4_addNode_97 : decode cX4_addNode 97 = .ok (.iload_n 3, 1) := by decide +kernel
theorem dX4_addNode_98 : decode cX4_addNode 98 = .ok (.iload_n 1, 1) := by decide +kernel
theorem dX4_addNode_99 : decode cX4_addNode 99 = .ok (.iastore, 1) := by decide +kernel
theorem dX4_addNode_100 : decode cX4_addNode 100 = .ok (.aload_n 0, 1) := by decide +kernel
theorem dX4_addNode_101 : decode cX4_addNode 101 = .ok (.getfield 32, 3) := by decide +kernel
theorem dX4_addNode_104 : decode cX4_addNode 104 = .ok (.iload_n 3, 1) := by decide +kernel
theorem dX4_addNode_105 : decode cX4_addNode 105 = .ok (.iload_n 2, 1) := by decide +kernel
theorem dX4_addNode_106 : decode cX4_addNode 106 = .ok (.iastore, 1) := by decide +kernel
theorem dX4_addNode_107 : decode cX4_addNode 107 = .ok (.aload_n 0, 1) := by decide +kernel
theorem dX4_addNode_108 : decode cX4_addNode 108 = .ok (.getfield 35, 3) := by decide +kernel
theorem dX4_addNode_111 : decode cX4_addNode 111 = .ok (.iload_n 3, 1) := by decide +kernel
theorem dX4_addNode_112 : decode cX4_addNode 112 = .ok (.iconst 0, 1) := by decide +kernel
theorem dX4_addNode_113 : decode cX4_addNode 113 = .ok (.iastore, 1) := by decide +kernel
theorem dX4_addNode_114 : decode cX4_addNode 114 = .ok (.aload_n 0, 1) := by decide +kernel
theorem dX4_addNode_115 : decode cX4_addNode 115 = .ok (.dup, 1) := by decide +kernel
theorem dX4_addNode_116 : decode cX4_addNode 116 = .ok (.getfield 22, 3) := by decide +kernel
theorem dX4_addNode_119 : decode cX4_addNode 119 = .ok (.iconst 1, 1) := by decide +kernel
theorem dX4_addNode_120 : decode cX4_addNode 120 = .ok (.iadd, 1) := by decide +kernel
theorem dX4_addNode_121 : decode cX4_addNode 121 = .ok (.putfield 22, 3) := by decide +kernel
theorem dX4_addNode_124 : decode cX4_addNode 124 = .ok (.return_, 1) := by decide +kernel
theorem dX4_fire_0 : decode cX4_fire 0 = .ok (.iconst 0, 1) := by decide +kernel
theorem dX4_fire_1 : decode cX4_fire 1 = .ok (.istore_n 3, 1) := by decide +kernel
theorem dX4_fire_2 : decode cX4_fire 2 = .ok (.iload_n 3, 1) := by decide +kernel
theorem dX4_fire_3 : decode cX4_fire 3 = .ok (.aload_n 0, 1) := by decide +kernel
theorem dX4_fire_4 : decode cX4_fire 4 = .ok (.getfield 66, 3) := by decide +kernel
theorem dX4_fire_7 : decode cX4_fire 7 = .ok (.if_icmp .ge 66, 3) := by decide +kernel
theorem dX4_fire_10 : decode cX4_fire 10 = .ok (.aload_n 0, 1) := by decide +kernel
theorem dX4_fire_11 : decode cX4_fire 11 = .ok (.getfield 26, 3) := by decide +kernel
theorem dX4_fire_14 : decode cX4_fire 14 = .ok (.bipush 6, 2) := by decide +kernel
theorem dX4_fire_16 : decode cX4_fire 16 = .ok (.iload_n 1, 1) := by decide +kernel
theorem dX4_fire_17 : decode cX4_fire 17 = .ok (.imul, 1) := by decide +kernel
theorem dX4_fire_18 : decode cX4_fire 18 = .ok (.iload_n 3, 1) := by decide +kernel
theorem dX4_fire_19 : decode cX4_fire 19 = .ok (.iadd, 1) := by decide +kernel
theorem dX4_fire_20 : decode cX4_fire 20 = .ok (.iaload, 1) := by decide +kernel
theorem dX4_fire_21 : decode cX4_fire 21 = .ok (.istore 4, 2) := by decide +kernel
theorem dX4_fire_23 : decode cX4_fire 23 = .ok (.aload_n 0, 1) := by decide +kernel
theorem dX4_fire_24 : decode cX4_fire 24 = .ok (.getfield 60, 3) := by decide +kernel
theorem dX4_fire_27 : decode cX4_fire 27 = .ok (.iload_n 3, 1) := by decide +kernel
theorem dX4_fire_28 : decode cX4_fire 28 = .ok (.iload 4, 2) := by decide +kernel
theorem dX4_fire_30 : decode cX4_fire 30 = .ok (.ldc 85, 2) := by decide +kernel
theorem dX4_fire_32 : decode cX4_fire 32 = .ok (.if_icmp .ne 8, 3) := by decide +kernel
theorem dX4_fire_35 : decode cX4_fire 35 = .ok (.ldc 85, 2) := by decide +kernel
theorem dX4_fire_37 : decode cX4_fire 37 = .ok (.goto 29, 3) := by decide +kernel
theorem dX4_fire_40 : decode cX4_fire 40 = .ok (.iload 4, 2) := by decide +kernel
theorem dX4_fire_42 : decode cX4_fire 42 = .ok (.aload_n 0, 1) := by decide +kernel
theorem dX4_fire_43 : decode cX4_fire 43 = .ok (.getfield 16, 3) := by decide +kernel
theorem dX4_fire_46 : decode cX4_fire 46 = .ok (.bipush 6, 2) := by decide +kernel
theorem dX4_fire_48 : decode cX4_fire 48 = .ok (.iload_n 2, 1) := by decide +kernel
theorem dX4_fire_49 : decode cX4_fire 49 = .ok (.imul, 1) := by decide +kernel
theorem dX4_fire_50 : decode cX4_fire 50 = .ok (.iload_n 3, 1) := by decide +kernel
theorem dX4_fire_51 : decode cX4_fire 51 = .ok (.iadd, 1) := by decide +kernel
theorem dX4_fire_52 : decode cX4_fire 52 = .ok (.iaload, 1) := by decide +kernel
theorem dX4_fire_53 : decode cX4_fire 53 = .ok (.isub, 1) := by decide +kernel
theorem dX4_fire_54 : decode cX4_fire 54 = .ok (.aload_n 0, 1) := by decide +kernel
theorem dX4_fire_55 : decode cX4_fire 55 = .ok (.getfield 19, 3) := by decide +kernel
theorem dX4_fire_58 : decode cX4_fire 58 = .ok (.bipush 6, 2) := by decide +kernel
theorem dX4_fire_60 : decode cX4_fire 60 = .ok (.iload_n 2, 1) := by decide +kernel
theorem dX4_fire_61 : decode cX4_fire 61 = .ok (.imul, 1) := by decide +kernel
theorem dX4_fire_62 : decode cX4_fire 62 = .ok (.iload_n 3, 1) := by decide +kernel
theorem dX4_fire_63 : decode cX4_fire 63 = .ok (.iadd, 1) := by decide +kernel
theorem dX4_fire_64 : decode cX4_fire 64 = .ok (.iaload, 1) := by decide +kernel
theorem dX4_fire_65 : decode cX4_fire 65 = .ok (.iadd, 1) := by decide +kernel
theorem dX4_fire_66 : decode cX4_fire 66 = .ok (.iastore, 1) := by decide +kernel
theorem dX4_fire_67 : decode cX4_fire 67 = .ok (.iinc 3 1, 3) := by decide +kernel
theorem dX4_fire_70 : decode cX4_fire 70 = .ok (.goto (-68), 3) := by decide +kernel
theorem dX4_fire_73 : decode cX4_fire 73 = .ok (.iload_n 1, 1) := by decide +kernel
theorem dX4_fire_74 : decode cX4_fire 74 = .ok (.istore_n 3, 1) := by decide +kernel
theorem dX4_fire_75 : decode cX4_fire 75 = .ok (.iload_n 3, 1) := by decide +kernel
theorem dX4_fire_76 : decode cX4_fire 76 = .ok (.ifCond .lt 100, 3) := by decide +kernel
theorem dX4_fire_79 : decode cX4_fire 79 = .ok (.aload_n 0, 1) := by decide +kernel
theorem dX4_fire_80 : decode cX4_fire 80 = .ok (.iload_n 3, 1) := by decide +kernel
theorem dX4_fire_81 : decode cX4_fire 81 = .ok (.invokevirtual 86, 3) := by decide +kernel
theorem dX4_fire_84 : decode cX4_fire 84 = .ok (.ifCond .eq 82, 3) := by decide +kernel
theorem dX4_fire_87 : decode cX4_fire 87 = .ok (.aload_n 0, 1) := by decide +kernel
theorem dX4_fire_88 : decode cX4_fire 88 = .ok (.getfield 89, 3) := by decide +kernel
theorem dX4_fire_91 : decode cX4_fire 91 = .ok (.ifCond .ge 16, 3) := by decide +kernel
theorem dX4_fire_94 : decode cX4_fire 94 = .ok (.aload_n 0, 1) := by decide +kernel
theorem dX4_fire_95 : decode cX4_fire 95 = .ok (.aload_n 0, 1) := by decide +kernel
theorem dX4_fire_96 : decode cX4_fire 96 = .ok (.getfield 22, 3) := by decide +kernel
theorem dX4_fire_99 : decode cX4_fire 99 = .ok (.putfield 89, 3) := by decide +kernel
theorem dX4_fire_102 : decode cX4_fire 102 = .ok (.aload_n 0, 1) := by decide +kernel
theorem dX4_fire_103 : decode cX4_fire 103 = .ok (.iload_n 3, 1) := by decide +kernel
theorem dX4_fire_104 : decode cX4_fire 104 = .ok (.putfield 92, 3) := by decide +kernel
theorem dX4_fire_107 : decode cX4_fire 107 = .ok (.iconst 0, 1) := by decide +kernel
theorem dX4_fire_108 : decode cX4_fire 108 = .ok (.istore 4, 2) := by decide +kernel
theorem dX4_fire_110 : decode cX4_fire 110 = .ok (.iload 4, 2) := by decide +kernel
theorem dX4_fire_112 : decode cX4_fire 112 = .ok (.aload_n 0, 1) := by decide +kernel
theorem dX4_fire_113 : decode cX4_fire 113 = .ok (.getfield 66, 3) := by decide +kernel
theorem dX4_fire_116 : decode cX4_fire 116 = .ok (.if_icmp .ge 50, 3) := by decide +kernel
theorem dX4_fire_119 : decode cX4_fire 119 = .ok (.aload_n 0, 1) := by decide +kernel
theorem dX4_fire_120 : decode cX4_fire 120 = .ok (.getfield 60, 3) := by decide +kernel
theorem dX4_fire_123 : decode cX4_fire 123 = .ok (.iload 4, 2) := by decide +kernel
theorem dX4_fire_125 : decode cX4_fire 125 = .ok (.aload_n 0, 1) := by decide +kernel
theorem dX4_fire_126 : decode cX4_fire 126 = .ok (.getfield 26, 3) := by decide +kernel
theorem dX4_fire_129 : decode cX4_fire 129 = .ok (.bipush 6, 2) := by decide +kernel
theorem dX4_fire_131 : decode cX4_fire 131 = .ok (.iload_n 3, 1) := by decide +kernel
theorem dX4_fire_132 : decode cX4_fire 132 = .ok (.imul, 1) := by decide +kernel
theorem dX4_fire_133 : decode cX4_fire 133 = .ok (.iload 4, 2) := by decide +kernel
theorem dX4_fire_135 : decode cX4_fire 135 = .ok (.iadd, 1) := by decide +kernel
theorem dX4_fire_136 : decode cX4_fire 136 = .ok (.iaload, 1) := by decide +kernel
theorem dX4_fire_137 : decode cX4_fire 137 = .ok (.aload_n 0, 1) := by decide +kernel
theorem dX4_fire_138 : decode cX4_fire 138 = .ok (.getfield 60, 3) := by decide +kernel
theorem dX4_fire_141 : decode cX4_fire 141 = .ok (.iload 4, 2) := by decide +kernel
theorem dX4_fire_143 : decode cX4_fire 143 = .ok (.iaload, 1) := by decide +kernel
theorem dX4_fire_144 : decode cX4_fire 144 = .ok (.if_icmp .ge 8, 3) := by decide +kernel
theorem dX4_fire_147 : decode cX4_fire 147 = .ok (.ldc 85, 2) := by decide +kernel
theorem dX4_fire_149 : decode cX4_fire 149 = .ok (.goto 10, 3) := by decide +kernel
theorem dX4_fire_152 : decode cX4_fire 152 = .ok (.aload_n 0, 1) := by decide +kernel
theorem dX4_fire_153 : decode cX4_fire 153 = .ok (.getfield 60, 3) := by decide +kernel
theorem dX4_fire_156 : decode cX4_fire 156 = .ok (.iload 4, 2) := by decide +kernel
theorem dX4_fire_158 : decode cX4_fire 158 = .ok (.iaload, 1) := by decide +kernel
theorem dX4_fire_159 : decode cX4_fire 159 = .ok (.iastore, 1) := by decide +kernel
theorem dX4_fire_160 : decode cX4_fire 160 = .ok (.iinc 4 1, 3) := by decide +kernel
theorem dX4_fire_163 : decode cX4_fire 163 = .ok (.goto (-53), 3) := by decide +kernel
theorem dX4_fire_166 : decode cX4_fire 166 = .ok (.aload_n 0, 1) := by decide +kernel
theorem dX4_fire_167 : decode cX4_fire 167 = .ok (.getfield 29, 3) := by decide +kernel
theorem dX4_fire_170 : decode cX4_fire 170 = .ok (.iload_n 3, 1) := by decide +kernel
theorem dX4_fire_171 : decode cX4_fire 171 = .ok (.iaload, 1) := by decide +kernel
theorem dX4_fire_172 : decode cX4_fire 172 = .ok (.istore_n 3, 1) := by decide +kernel
theorem dX4_fire_173 : decode cX4_fire 173 = .ok (.goto (-98), 3) := by decide +kernel
theorem dX4_fire_176 : decode cX4_fire 176 = .ok (.return_, 1) := by decide +kernel
theorem dX4_explore_0 : decode cX4_explore 0 = .ok (.aload_n 0, 1) := by decide +kernel
theorem dX4_explore_1 : decode cX4_explore 1 = .ok (.iconst 0, 1) := by decide +kernel
theorem dX4_explore_2 : decode cX4_explore 2 = .ok (.putfield 63, 3) := by decide +kernel
theorem dX4_explore_5 : decode cX4_explore 5 = .ok (.aload_n 0, 1) := by decide +kernel
theorem dX4_explore_6 : decode cX4_explore 6 = .ok (.invokevirtual 72, 3) := by decide +kernel
theorem dX4_explore_9 : decode cX4_explore 9 = .ok (.aload_n 0, 1) := by decide +kernel
theorem dX4_explore_10 : decode cX4_explore 10 = .ok (.iconst 0, 1) := by decide +kernel
theorem dX4_explore_11 : decode cX4_explore 11 = .ok (.putfield 22, 3) := by decide +kernel
theorem dX4_explore_14 : decode cX4_explore 14 = .ok (.aload_n 0, 1) := by decide +kernel
theorem dX4_explore_15 : decode cX4_explore 15 = .ok (.iconst (-1), 1) := by decide +kernel
theorem dX4_explore_16 : decode cX4_explore 16 = .ok (.putfield 89, 3) := by decide +kernel
theorem dX4_explore_19 : decode cX4_explore 19 = .ok (.aload_n 0, 1) := by decide +kernel
theorem dX4_explore_20 : decode cX4_explore 20 = .ok (.iconst (-1), 1) := by decide +kernel
theorem dX4_explore_21 : decode cX4_explore 21 = .ok (.putfield 92, 3) := by decide +kernel
theorem dX4_explore_24 : decode cX4_explore 24 = .ok (.iconst 0, 1) := by decide +kernel
theorem dX4_explore_25 : decode cX4_explore 25 = .ok (.istore_n 1, 1) := by decide +kernel
theorem dX4_explore_26 : decode cX4_explore 26 = .ok (.iload_n 1, 1) := by decide +kernel
theorem dX4_explore_27 : decode cX4_explore 27 = .ok (.aload_n 0, 1) := by decide +kernel
theorem dX4_explore_28 : decode cX4_explore 28 = .ok (.getfield 66, 3) := by decide +kernel
theorem dX4_explore_31 : decode cX4_explore 31 = .ok (.if_icmp .ge 21, 3) := by decide +kernel
theorem dX4_explore_34 : decode cX4_explore 34 = .ok (.aload_n 0, 1) := by decide +kernel
theorem dX4_explore_35 : decode cX4_explore 35 = .ok (.getfield 60, 3) := by decide +kernel
theorem dX4_explore_38 : decode cX4_explore 38 = .ok (.iload_n 1, 1) := by decide +kernel
theorem dX4_explore_39 : decode cX4_explore 39 = .ok (.aload_n 0, 1) := by decide +kernel
theorem dX4_explore_40 : decode cX4_explore 40 = .ok (.getfield 7, 3) := by decide +kernel
theorem dX4_explore_43 : decode cX4_explore 43 = .ok (.iload_n 1, 1) := by decide +kernel
theorem dX4_explore_44 : decode cX4_explore 44 = .ok (.iaload, 1) := by decide +kernel
theorem dX4_explore_45 : decode cX4_explore 45 = .ok (.iastore, 1) := by decide +kernel
theorem dX4_explore_46 : decode cX4_explore 46 = .ok (.iinc 1 1, 3) := by decide +kernel
theorem dX4_explore_49 : decode cX4_explore 49 = .ok (.goto (-23), 3) := by decide +kernel
theorem dX4_explore_52 : decode cX4_explore 52 = .ok (.aload_n 0, 1) := by decide +kernel
theorem dX4_explore_53 : decode cX4_explore 53 = .ok (.iconst (-1), 1) := by decide +kernel
theorem dX4_explore_54 : decode cX4_explore 54 = .ok (.bipush (-2), 2) := by decide +kernel
theorem dX4_explore_56 : decode cX4_explore 56 = .ok (.invokevirtual 95, 3) := by decide +kernel
theorem dX4_explore_59 : decode cX4_explore 59 = .ok (.iconst 0, 1) := by decide +kernel
theorem dX4_explore_60 : decode cX4_explore 60 = .ok (.istore_n 1, 1) := by decide +kernel
theorem dX4_explore_61 : decode cX4_explore 61 = .ok (.iload_n 1, 1) := by decide +kernel
theorem dX4_explore_62 : decode cX4_explore 62 = .ok (.ifCond .lt 103, 3) := by decide +kernel
theorem dX4_explore_65 : decode cX4_explore 65 = .ok (.aload_n 0, 1) := by decide +kernel
theorem dX4_explore_66 : decode cX4_explore 66 = .ok (.getfield 38, 3) := by decide +kernel
theorem dX4_explore_69 : decode cX4_explore 69 = .ok (.iload_n 1, 1) := by decide +kernel
theorem dX4_explore_70 : decode cX4_explore 70 = .ok (.baload, 1) := by decide +kernel
theorem dX4_explore_71 : decode cX4_explore 71 = .ok (.ifCond .ne 16, 3) := by decide +kernel
theorem dX4_explore_74 : decode cX4_explore 74 = .ok (.aload_n 0, 1) := by decide +kernel
theorem dX4_explore_75 : decode cX4_explore 75 = .ok (.getfield 35, 3) := by decide +kernel
theorem dX4_explore_78 : decode cX4_explore 78 = .ok (.iload_n 1, 1) := by decide +kernel
theorem dX4_explore_79 : decode cX4_explore 79 = .ok (.iaload, 1) := by decide +kernel
theorem dX4_explore_80 : decode cX4_explore 80 = .ok (.aload_n 0, 1) := by decide +kernel
theorem dX4_explore_81 : decode cX4_explore 81 = .ok (.getfield 69, 3) := by decide +kernel
theorem dX4_explore_84 : decode cX4_explore 84 = .ok (.if_icmp .ne 13, 3) := by decide +kernel
theorem dX4_explore_87 : decode cX4_explore 87 = .ok (.aload_n 0, 1) := by decide +kernel
theorem dX4_explore_88 : decode cX4_explore 88 = .ok (.getfield 29, 3) := by decide +kernel
theorem dX4_explore_91 : decode cX4_explore 91 = .ok (.iload_n 1, 1) := by decide +kernel
theorem dX4_explore_92 : decode cX4_explore 92 = .ok (.iaload, 1) := by decide +kernel
theorem dX4_explore_93 : decode cX4_explore 93 = .ok (.istore_n 1, 1) := by decide +kernel
theorem dX4_explore_94 : decode cX4_explore 94 = .ok (.goto (-33), 3) := by decide +kernel
theorem dX4_explore_97 : decode cX4_explore 97 = .ok (.aload_n 0, 1) := by decide +kernel
theorem dX4_explore_98 : decode cX4_explore 98 = .ok (.getfield 35, 3) := by decide +kernel
theorem dX4_explore_101 : decode cX4_explore 101 = .ok (.iload_n 1, 1) := by decide +kernel
theorem dX4_explore_102 : decode cX4_explore 102 = .ok (.iaload, 1) := by decide +kernel
theorem dX4_explore_103 : decode cX4_explore 103 = .ok (.istore_n 2, 1) := by decide +kernel
theorem dX4_explore_104 : decode cX4_explore 104 = .ok (.aload_n 0, 1) := by decide +kernel
theorem dX4_explore_105 : decode cX4_explore 105 = .ok (.getfield 35, 3) := by decide +kernel
theorem dX4_explore_108 : decode cX4_explore 108 = .ok (.iload_n 1, 1) := by decide +kernel
theorem dX4_explore_109 : decode cX4_explore 109 = .ok (.iload_n 2, 1) := by decide +kernel
theorem dX4_explore_110 : decode cX4_explore 110 = .ok (.iconst 1, 1) := by decide +kernel
theorem dX4_explore_111 : decode cX4_explore 111 = .ok (.iadd, 1) := by decide +kernel
theorem dX4_explore_112 : decode cX4_explore 112 = .ok (.iastore, 1) := by decide +kernel
theorem dX4_explore_113 : decode cX4_explore 113 = .ok (.aload_n 0, 1) := by decide +kernel
theorem dX4_explore_114 : decode cX4_explore 114 = .ok (.iload_n 1, 1) := by decide +kernel
theorem dX4_explore_115 : decode cX4_explore 115 = .ok (.iload_n 2, 1) := by decide +kernel
theorem dX4_explore_116 : decode cX4_explore 116 = .ok (.invokevirtual 99, 3) := by decide +kernel
theorem dX4_explore_119 : decode cX4_explore 119 = .ok (.ifCond .eq 43, 3) := by decide +kernel
theorem dX4_explore_122 : decode cX4_explore 122 = .ok (.aload_n 0, 1) := by decide +kernel
theorem dX4_explore_123 : decode cX4_explore 123 = .ok (.getfield 22, 3) := by decide +kernel
theorem dX4_explore_126 : decode cX4_explore 126 = .ok (.bipush 100, 2) := by decide +kernel
theorem dX4_explore_128 : decode cX4_explore 128 = .ok (.if_icmp .ne 15, 3) := by decide +kernel
theorem dX4_explore_131 : decode cX4_explore 131 = .ok (.aload_n 0, 1) := by decide +kernel
theorem dX4_explore_132 : decode cX4_explore 132 = .ok (.iconst (-1), 1) := by decide +kernel
theorem dX4_explore_133 : decode cX4_explore 133 = .ok (.putfield 22, 3) := by decide +kernel
theorem dX4_explore_136 : decode cX4_explore 136 = .ok (.aload_n 0, 1) := by decide +kernel
theorem dX4_explore_137 : decode cX4_explore 137 = .ok (.iconst 1, 1) := by decide +kernel
theorem dX4_explore_138 : decode cX4_explore 138 = .ok (.putfield 63, 3) := by decide +kernel
theorem dX4_explore_141 : decode cX4_explore 141 = .ok (.iconst 0, 1) := by decide +kernel
theorem dX4_explore_142 : decode cX4_explore 142 = .ok (.ireturn, 1) := by decide +kernel
theorem dX4_explore_143 : decode cX4_explore 143 = .ok (.aload_n 0, 1) := by decide +kernel
theorem dX4_explore_144 : decode cX4_explore 144 = .ok (.iload_n 1, 1) := by decide +kernel
theorem dX4_explore_145 : decode cX4_explore 145 = .ok (.iload_n 2, 1) := by decide +kernel
theorem dX4_explore_146 : decode cX4_explore 146 = .ok (.invokevirtual 103, 3) := by decide +kernel
theorem dX4_explore_149 : decode cX4_explore 149 = .ok (.aload_n 0, 1) := by decide +kernel
theorem dX4_explore_150 : decode cX4_explore 150 = .ok (.iload_n 1, 1) := by decide +kernel
theorem dX4_explore_151 : decode cX4_explore 151 = .ok (.iload_n 2, 1) := by decide +kernel
theorem dX4_explore_152 : decode cX4_explore 152 = .ok (.invokevirtual 95, 3) := by decide +kernel
theorem dX4_explore_155 : decode cX4_explore 155 = .ok (.aload_n 0, 1) := by decide +kernel
theorem dX4_explore_156 : decode cX4_explore 156 = .ok (.getfield 22, 3) := by decide +kernel
theorem dX4_explore_159 : decode cX4_explore 159 = .ok (.iconst 1, 1) := by decide +kernel
theorem dX4_explore_160 : decode cX4_explore 160 = .ok (.isub, 1) := by decide +kernel
theorem dX4_explore_161 : decode cX4_explore 161 = .ok (.istore_n 1, 1) := by decide +kernel
theorem dX4_explore_162 : decode cX4_explore 162 = .ok (.goto (-101), 3) := by decide +kernel
theorem dX4_explore_165 : decode cX4_explore 165 = .ok (.aload_n 0, 1) := by decide +kernel
theorem dX4_explore_166 : decode cX4_explore 166 = .ok (.getfield 22, 3) := by decide +kernel
theorem dX4_explore_169 : decode cX4_explore 169 = .ok (.ireturn, 1) := by decide +kernel
theorem dX4_told_0 : decode cX4_told 0 = .ok (.iload_n 0, 1) := by decide +kernel
theorem dX4_told_1 : decode cX4_told 1 = .ok (.ldc 85, 2) := by decide +kernel
theorem dX4_told_3 : decode cX4_told 3 = .ok (.if_icmp .ne 7, 3) := by decide +kernel
theorem dX4_told_6 : decode cX4_told 6 = .ok (.iconst (-1), 1) := by decide +kernel
theorem dX4_told_7 : decode cX4_told 7 = .ok (.goto 4, 3) := by decide +kernel
theorem dX4_told_10 : decode cX4_told 10 = .ok (.iload_n 0, 1) := by decide +kernel
theorem dX4_told_11 : decode cX4_told 11 = .ok (.ireturn, 1) := by decide +kernel
theorem dX4_count_0 : decode cX4_count 0 = .ok (.aload_n 0, 1) := by decide +kernel
theorem dX4_count_1 : decode cX4_count 1 = .ok (.aload_n 0, 1) := by decide +kernel
theorem dX4_count_2 : decode cX4_count 2 = .ok (.getfield 22, 3) := by decide +kernel
theorem dX4_count_5 : decode cX4_count 5 = .ok (.ifCond .ge 7, 3) := by decide +kernel
theorem dX4_count_8 : decode cX4_count 8 = .ok (.iconst 1, 1) := by decide +kernel
theorem dX4_count_9 : decode cX4_count 9 = .ok (.goto 28, 3) := by decide +kernel
theorem dX4_count_12 : decode cX4_count 12 = .ok (.iload_n 1, 1) := by decide +kernel
theorem dX4_count_13 : decode cX4_count 13 = .ok (.ifCond .lt 19, 3) := by decide +kernel
theorem dX4_count_16 : decode cX4_count 16 = .ok (.iload_n 1, 1) := by decide +kernel
theorem dX4_count_17 : decode cX4_count 17 = .ok (.aload_n 0, 1) := by decide +kernel
theorem dX4_count_18 : decode cX4_count 18 = .ok (.getfield 22, 3) := by decide +kernel
theorem dX4_count_21 : decode cX4_count 21 = .ok (.if_icmp .ge 11, 3) := by decide +kernel
theorem dX4_count_24 : decode cX4_count 24 = .ok (.aload_n 0, 1) := by decide +kernel
theorem dX4_count_25 : decode cX4_count 25 = .ok (.iload_n 2, 1) := by decide +kernel
theorem dX4_count_26 : decode cX4_count 26 = .ok (.invokevirtual 75, 3) := by decide +kernel
theorem dX4_count_29 : decode cX4_count 29 = .ok (.ifCond .eq 7, 3) := by decide +kernel
theorem dX4_count_32 : decode cX4_count 32 = .ok (.iconst 2, 1) := by decide +kernel
theorem dX4_count_33 : decode cX4_count 33 = .ok (.goto 4, 3) := by decide +kernel
theorem dX4_count_36 : decode cX4_count 36 = .ok (.iconst 0, 1) := by decide +kernel
theorem dX4_count_37 : decode cX4_count 37 = .ok (.putfield 63, 3) := by decide +kernel
theorem dX4_count_40 : decode cX4_count 40 = .ok (.aload_n 0, 1) := by decide +kernel
theorem dX4_count_41 : decode cX4_count 41 = .ok (.getfield 63, 3) := by decide +kernel
theorem dX4_count_44 : decode cX4_count 44 = .ok (.ifCond .le 7, 3) := by decide +kernel
theorem dX4_count_47 : decode cX4_count 47 = .ok (.iconst 0, 1) := by decide +kernel
theorem dX4_count_48 : decode cX4_count 48 = .ok (.goto 17, 3) := by decide +kernel
theorem dX4_count_51 : decode cX4_count 51 = .ok (.aload_n 0, 1) := by decide +kernel
theorem dX4_count_52 : decode cX4_count 52 = .ok (.getfield 26, 3) := by decide +kernel
theorem dX4_count_55 : decode cX4_count 55 = .ok (.bipush 6, 2) := by decide +kernel
theorem dX4_count_57 : decode cX4_count 57 = .ok (.iload_n 1, 1) := by decide +kernel
theorem dX4_count_58 : decode cX4_count 58 = .ok (.imul, 1) := by decide +kernel
theorem dX4_count_59 : decode cX4_count 59 = .ok (.iload_n 2, 1) := by decide +kernel
theorem dX4_count_60 : decode cX4_count 60 = .ok (.iadd, 1) := by decide +kernel
theorem dX4_count_61 : decode cX4_count 61 = .ok (.iaload, 1) := by decide +kernel
theorem dX4_count_62 : decode cX4_count 62 = .ok (.invokestatic 106, 3) := by decide +kernel
theorem dX4_count_65 : decode cX4_count 65 = .ok (.ireturn, 1) := by decide +kernel
theorem dX4_node_0 : decode cX4_node 0 = .ok (.aload_n 0, 1) := by decide +kernel
theorem dX4_node_1 : decode cX4_node 1 = .ok (.aload_n 0, 1) := by decide +kernel
theorem dX4_node_2 : decode cX4_node 2 = .ok (.getfield 22, 3) := by decide +kernel
theorem dX4_node_5 : decode cX4_node 5 = .ok (.ifCond .ge 7, 3) := by decide +kernel
theorem dX4_node_8 : decode cX4_node 8 = .ok (.iconst 1, 1) := by decide +kernel
theorem dX4_node_9 : decode cX4_node 9 = .ok (.goto 20, 3) := by decide +kernel
theorem dX4_node_12 : decode cX4_node 12 = .ok (.iload_n 1, 1) := by decide +kernel
theorem dX4_node_13 : decode cX4_node 13 = .ok (.ifCond .lt 11, 3) := by decide +kernel
theorem dX4_node_16 : decode cX4_node 16 = .ok (.iload_n 1, 1) := by decide +kernel
theorem dX4_node_17 : decode cX4_node 17 = .ok (.aload_n 0, 1) := by decide +kernel
theorem dX4_node_18 : decode cX4_node 18 = .ok (.getfield 22, 3) := by decide +kernel
theorem dX4_node_21 : decode cX4_node 21 = .ok (.if_icmp .lt 7, 3) := by decide +kernel
theorem dX4_node_24 : decode cX4_node 24 = .ok (.iconst 2, 1) := by decide +kernel
theorem dX4_node_25 : decode cX4_node 25 = .ok (.goto 4, 3) := by decide +kernel
theorem dX4_node_28 : decode cX4_node 28 = .ok (.iconst 0, 1) := by decide +kernel
theorem dX4_node_29 : decode cX4_node 29 = .ok (.putfield 63, 3) := by decide +kernel
theorem dX4_node_32 : decode cX4_node 32 = .ok (.aload_n 0, 1) := by decide +kernel
theorem dX4_node_33 : decode cX4_node 33 = .ok (.getfield 63, 3) := by decide +kernel
theorem dX4_node_36 : decode cX4_node 36 = .ok (.ifCond .le 5, 3) := by decide +kernel
theorem dX4_node_39 : decode cX4_node 39 = .ok (.iconst 0, 1) := by decide +kernel
theorem dX4_node_40 : decode cX4_node 40 = .ok (.ireturn, 1) := by decide +kernel
theorem dX4_node_41 : decode cX4_node 41 = .ok (.iload_n 2, 1) := by decide +kernel
theorem dX4_node_42 : decode cX4_node 42 = .ok (.iconst 2, 1) := by decide +kernel
theorem dX4_node_43 : decode cX4_node 43 = .ok (.if_icmp .ne 18, 3) := by decide +kernel
theorem dX4_node_46 : decode cX4_node 46 = .ok (.aload_n 0, 1) := by decide +kernel
theorem dX4_node_47 : decode cX4_node 47 = .ok (.getfield 38, 3) := by decide +kernel
theorem dX4_node_50 : decode cX4_node 50 = .ok (.iload_n 1, 1) := by decide +kernel
theorem dX4_node_51 : decode cX4_node 51 = .ok (.baload, 1) := by decide +kernel
theorem dX4_node_52 : decode cX4_node 52 = .ok (.ifCond .eq 7, 3) := by decide +kernel
theorem dX4_node_55 : decode cX4_node 55 = .ok (.iconst 1, 1) := by decide +kernel
theorem dX4_node_56 : decode cX4_node 56 = .ok (.goto 4, 3) := by decide +kernel
theorem dX4_node_59 : decode cX4_node 59 = .ok (.iconst 0, 1) := by decide +kernel
theorem dX4_node_60 : decode cX4_node 60 = .ok (.ireturn, 1) := by decide +kernel
theorem dX4_node_61 : decode cX4_node 61 = .ok (.iload_n 1, 1) := by decide +kernel
theorem dX4_node_62 : decode cX4_node 62 = .ok (.ifCond .eq 12, 3) := by decide +kernel
theorem dX4_node_65 : decode cX4_node 65 = .ok (.iload_n 2, 1) := by decide +kernel
theorem dX4_node_66 : decode cX4_node 66 = .ok (.ifCond .eq 11, 3) := by decide +kernel
theorem dX4_node_69 : decode cX4_node 69 = .ok (.iload_n 2, 1) := by decide +kernel
theorem dX4_node_70 : decode cX4_node 70 = .ok (.iconst 1, 1) := by decide +kernel
theorem dX4_node_71 : decode cX4_node 71 = .ok (.if_icmp .eq 6, 3) := by decide +kernel
theorem dX4_node_74 : decode cX4_node 74 = .ok (.bipush (-2), 2) := by decide +kernel
theorem dX4_node_76 : decode cX4_node 76 = .ok (.ireturn, 1) := by decide +kernel
theorem dX4_node_77 : decode cX4_node 77 = .ok (.iload_n 2, 1) := by decide +kernel
theorem dX4_node_78 : decode cX4_node 78 = .ok (.ifCond .ne 12, 3) := by decide +kernel
theorem dX4_node_81 : decode cX4_node 81 = .ok (.aload_n 0, 1) := by decide +kernel
theorem dX4_node_82 : decode cX4_node 82 = .ok (.getfield 29, 3) := by decide +kernel
theorem dX4_node_85 : decode cX4_node 85 = .ok (.iload_n 1, 1) := by decide +kernel
theorem dX4_node_86 : decode cX4_node 86 = .ok (.iaload, 1) := by decide +kernel
theorem dX4_node_87 : decode cX4_node 87 = .ok (.goto 9, 3) := by decide +kernel
theorem dX4_node_90 : decode cX4_node 90 = .ok (.aload_n 0, 1) := by decide +kernel
theorem dX4_node_91 : decode cX4_node 91 = .ok (.getfield 32, 3) := by decide +kernel
theorem dX4_node_94 : decode cX4_node 94 = .ok (.iload_n 1, 1) := by decide +kernel
theorem dX4_node_95 : decode cX4_node 95 = .ok (.iaload, 1) := by decide +kernel
theorem dX4_node_96 : decode cX4_node 96 = .ok (.ireturn, 1) := by decide +kernel
theorem dX4_greatest_0 : decode cX4_greatest 0 = .ok (.iconst 0, 1) := by decide +kernel
theorem dX4_greatest_1 : decode cX4_greatest 1 = .ok (.istore_n 2, 1) := by decide +kernel
theorem dX4_greatest_2 : decode cX4_greatest 2 = .ok (.iconst 0, 1) := by decide +kernel
theorem dX4_greatest_3 : decode cX4_greatest 3 = .ok (.istore_n 3, 1) := by decide +kernel
theorem dX4_greatest_4 : decode cX4_greatest 4 = .ok (.iload_n 3, 1) := by decide +kernel
theorem dX4_greatest_5 : decode cX4_greatest 5 = .ok (.aload_n 0, 1) := by decide +kernel
theorem dX4_greatest_6 : decode cX4_greatest 6 = .ok (.getfield 22, 3) := by decide +kernel
theorem dX4_greatest_9 : decode cX4_greatest 9 = .ok (.if_icmp .ge 40, 3) := by decide +kernel
theorem dX4_greatest_12 : decode cX4_greatest 12 = .ok (.aload_n 0, 1) := by decide +kernel
theorem dX4_greatest_13 : decode cX4_greatest 13 = .ok (.getfield 26, 3) := by decide +kernel
theorem dX4_greatest_16 : decode cX4_greatest 16 = .ok (.bipush 6, 2) := by decide +kernel
theorem dX4_greatest_18 : decode cX4_greatest 18 = .ok (.iload_n 3, 1) := by decide +kernel
theorem dX4_greatest_19 : decode cX4_greatest 19 = .ok (.imul, 1) := by decide +kernel
theorem dX4_greatest_20 : decode cX4_greatest 20 = .ok (.iload_n 1, 1) := by decide +kernel
theorem dX4_greatest_21 : decode cX4_greatest 21 = .ok (.iadd, 1) := by decide +kernel
theorem dX4_greatest_22 : decode cX4_greatest 22 = .ok (.iaload, 1) := by decide +kernel
theorem dX4_greatest_23 : decode cX4_greatest 23 = .ok (.iload_n 2, 1) := by decide +kernel
theorem dX4_greatest_24 : decode cX4_greatest 24 = .ok (.if_icmp .le 17, 3) := by decide +kernel
theorem dX4_greatest_27 : decode cX4_greatest 27 = .ok (.aload_n 0, 1) := by decide +kernel
theorem dX4_greatest_28 : decode cX4_greatest 28 = .ok (.getfield 26, 3) := by decide +kernel
theorem dX4_greatest_31 : decode cX4_greatest 31 = .ok (.bipush 6, 2) := by decide +kernel
theorem dX4_greatest_33 : decode cX4_greatest 33 = .ok (.iload_n 3, 1) := by decide +kernel
theorem dX4_greatest_34 : decode cX4_greatest 34 = .ok (.imul, 1) := by decide +kernel
theorem dX4_greatest_35 : decode cX4_greatest 35 = .ok (.iload_n 1, 1) := by decide +kernel
theorem dX4_greatest_36 : decode cX4_greatest 36 = .ok (.iadd, 1) := by decide +kernel
theorem dX4_greatest_37 : decode cX4_greatest 37 = .ok (.iaload, 1) := by decide +kernel
theorem dX4_greatest_38 : decode cX4_greatest 38 = .ok (.goto 4, 3) := by decide +kernel
theorem dX4_greatest_41 : decode cX4_greatest 41 = .ok (.iload_n 2, 1) := by decide +kernel
theorem dX4_greatest_42 : decode cX4_greatest 42 = .ok (.istore_n 2, 1) := by decide +kernel
theorem dX4_greatest_43 : decode cX4_greatest 43 = .ok (.iinc 3 1, 3) := by decide +kernel
theorem dX4_greatest_46 : decode cX4_greatest 46 = .ok (.goto (-42), 3) := by decide +kernel
theorem dX4_greatest_49 : decode cX4_greatest 49 = .ok (.iload_n 2, 1) := by decide +kernel
theorem dX4_greatest_50 : decode cX4_greatest 50 = .ok (.ireturn, 1) := by decide +kernel
theorem dX4_bound_0 : decode cX4_bound 0 = .ok (.aload_n 0, 1) := by decide +kernel
theorem dX4_bound_1 : decode cX4_bound 1 = .ok (.aload_n 0, 1) := by decide +kernel
theorem dX4_bound_2 : decode cX4_bound 2 = .ok (.getfield 22, 3) := by decide +kernel
theorem dX4_bound_5 : decode cX4_bound 5 = .ok (.ifCond .ge 7, 3) := by decide +kernel
theorem dX4_bound_8 : decode cX4_bound 8 = .ok (.iconst 1, 1) := by decide +kernel
theorem dX4_bound_9 : decode cX4_bound 9 = .ok (.goto 16, 3) := by decide +kernel
theorem dX4_bound_12 : decode cX4_bound 12 = .ok (.aload_n 0, 1) := by decide +kernel
theorem dX4_bound_13 : decode cX4_bound 13 = .ok (.iload_n 1, 1) := by decide +kernel
theorem dX4_bound_14 : decode cX4_bound 14 = .ok (.invokevirtual 75, 3) := by decide +kernel
theorem dX4_bound_17 : decode cX4_bound 17 = .ok (.ifCond .eq 7, 3) := by decide +kernel
theorem dX4_bound_20 : decode cX4_bound 20 = .ok (.iconst 2, 1) := by decide +kernel
theorem dX4_bound_21 : decode cX4_bound 21 = .ok (.goto 4, 3) := by decide +kernel
theorem dX4_bound_24 : decode cX4_bound 24 = .ok (.iconst 0, 1) := by decide +kernel
theorem dX4_bound_25 : decode cX4_bound 25 = .ok (.putfield 63, 3) := by decide +kernel
theorem dX4_bound_28 : decode cX4_bound 28 = .ok (.aload_n 0, 1) := by decide +kernel
theorem dX4_bound_29 : decode cX4_bound 29 = .ok (.getfield 63, 3) := by decide +kernel
theorem dX4_bound_32 : decode cX4_bound 32 = .ok (.ifCond .le 7, 3) := by decide +kernel
theorem dX4_bound_35 : decode cX4_bound 35 = .ok (.iconst 0, 1) := by decide +kernel
theorem dX4_bound_36 : decode cX4_bound 36 = .ok (.goto 11, 3) := by decide +kernel
theorem dX4_bound_39 : decode cX4_bound 39 = .ok (.aload_n 0, 1) := by decide +kernel
theorem dX4_bound_40 : decode cX4_bound 40 = .ok (.iload_n 1, 1) := by decide +kernel
theorem dX4_bound_41 : decode cX4_bound 41 = .ok (.invokevirtual 110, 3) := by decide +kernel
theorem dX4_bound_44 : decode cX4_bound 44 = .ok (.invokestatic 106, 3) := by decide +kernel
theorem dX4_bound_47 : decode cX4_bound 47 = .ok (.ireturn, 1) := by decide +kernel
theorem dX4_want_0 : decode cX4_want 0 = .ok (.aload_n 0, 1) := by decide +kernel
theorem dX4_want_1 : decode cX4_want 1 = .ok (.aload_n 0, 1) := by decide +kernel
theorem dX4_want_2 : decode cX4_want 2 = .ok (.iload_n 1, 1) := by decide +kernel
theorem dX4_want_3 : decode cX4_want 3 = .ok (.invokevirtual 75, 3) := by decide +kernel
theorem dX4_want_6 : decode cX4_want 6 = .ok (.ifCond .eq 7, 3) := by decide +kernel
theorem dX4_want_9 : decode cX4_want 9 = .ok (.iconst 1, 1) := by decide +kernel
theorem dX4_want_10 : decode cX4_want 10 = .ok (.goto 18, 3) := by decide +kernel
theorem dX4_want_13 : decode cX4_want 13 = .ok (.iload_n 2, 1) := by decide +kernel
theorem dX4_want_14 : decode cX4_want 14 = .ok (.ifCond .lt 9, 3) := by decide +kernel
theorem dX4_want_17 : decode cX4_want 17 = .ok (.iload_n 2, 1) := by decide +kernel
theorem dX4_want_18 : decode cX4_want 18 = .ok (.bipush 99, 2) := by decide +kernel
theorem dX4_want_20 : decode cX4_want 20 = .ok (.if_icmp .le 7, 3) := by decide +kernel
theorem dX4_want_23 : decode cX4_want 23 = .ok (.iconst 2, 1) := by decide +kernel
theorem dX4_want_24 : decode cX4_want 24 = .ok (.goto 4, 3) := by decide +kernel
theorem dX4_want_27 : decode cX4_want 27 = .ok (.iconst 0, 1) := by decide +kernel
theorem dX4_want_28 : decode cX4_want 28 = .ok (.putfield 63, 3) := by decide +kernel
theorem dX4_want_31 : decode cX4_want 31 = .ok (.aload_n 0, 1) := by decide +kernel
theorem dX4_want_32 : decode cX4_want 32 = .ok (.getfield 63, 3) := by decide +kernel
theorem dX4_want_35 : decode cX4_want 35 = .ok (.ifCond .ne 10, 3) := by decide +kernel
theorem dX4_want_38 : decode cX4_want 38 = .ok (.aload_n 0, 1) := by decide +kernel
theorem dX4_want_39 : decode cX4_want 39 = .ok (.getfield 13, 3) := by decide +kernel
theorem dX4_want_42 : decode cX4_want 42 = .ok (.iload_n 1, 1) := by decide +kernel
theorem dX4_want_43 : decode cX4_want 43 = .ok (.iload_n 2, 1) := by decide +kernel
theorem dX4_want_44 : decode cX4_want 44 = .ok (.iastore, 1) := by decide +kernel
theorem dX4_want_45 : decode cX4_want 45 = .ok (.return_, 1) := by decide +kernel
theorem dX4_covered_0 : decode cX4_covered 0 = .ok (.aload_n 0, 1) := by decide +kernel
theorem dX4_covered_1 : decode cX4_covered 1 = .ok (.aload_n 0, 1) := by decide +kernel
theorem dX4_covered_2 : decode cX4_covered 2 = .ok (.getfield 22, 3) := by decide +kernel
theorem dX4_covered_5 : decode cX4_covered 5 = .ok (.ifCond .ge 7, 3) := by decide +kernel
theorem dX4_covered_8 : decode cX4_covered 8 = .ok (.iconst 1, 1) := by decide +kernel
theorem dX4_covered_9 : decode cX4_covered 9 = .ok (.goto 4, 3) := by decide +kernel
theorem dX4_covered_12 : decode cX4_covered 12 = .ok (.iconst 0, 1) := by decide +kernel
theorem dX4_covered_13 : decode cX4_covered 13 = .ok (.putfield 63, 3) := by decide +kernel
theorem dX4_covered_16 : decode cX4_covered 16 = .ok (.iconst 0, 1) := by decide +kernel
theorem dX4_covered_17 : decode cX4_covered 17 = .ok (.istore_n 1, 1) := by decide +kernel
theorem dX4_covered_18 : decode cX4_covered 18 = .ok (.iconst 0, 1) := by decide +kernel
theorem dX4_covered_19 : decode cX4_covered 19 = .ok (.istore_n 2, 1) := by decide +kernel
theorem dX4_covered_20 : decode cX4_covered 20 = .ok (.iload_n 2, 1) := by decide +kernel
theorem dX4_covered_21 : decode cX4_covered 21 = .ok (.aload_n 0, 1) := by decide +kernel
theorem dX4_covered_22 : decode cX4_covered 22 = .ok (.getfield 22, 3) := by decide +kernel
theorem dX4_covered_25 : decode cX4_covered 25 = .ok (.if_icmp .ge 75, 3) := by decide +kernel
theorem dX4_covered_28 : decode cX4_covered 28 = .ok (.iconst 1, 1) := by decide +kernel
theorem dX4_covered_29 : decode cX4_covered 29 = .ok (.istore_n 3, 1) := by decide +kernel
theorem dX4_covered_30 : decode cX4_covered 30 = .ok (.iconst 0, 1) := by decide +kernel
theorem dX4_covered_31 : decode cX4_covered 31 = .ok (.istore 4, 2) := by decide +kernel
theorem dX4_covered_33 : decode cX4_covered 33 = .ok (.iload 4, 2) := by decide +kernel
theorem dX4_covered_35 : decode cX4_covered 35 = .ok (.aload_n 0, 1) := by decide +kernel
theorem dX4_covered_36 : decode cX4_covered 36 = .ok (.getfield 66, 3) := by decide +kernel
theorem dX4_covered_39 : decode cX4_covered 39 = .ok (.if_icmp .ge 41, 3) := by decide +kernel
theorem dX4_covered_42 : decode cX4_covered 42 = .ok (.iload_n 3, 1) := by decide +kernel
theorem dX4_covered_43 : decode cX4_covered 43 = .ok (.ifCond .eq 29, 3) := by decide +kernel
theorem dX4_covered_46 : decode cX4_covered 46 = .ok (.aload_n 0, 1) := by decide +kernel
theorem dX4_covered_47 : decode cX4_covered 47 = .ok (.getfield 26, 3) := by decide +kernel
theorem dX4_covered_50 : decode cX4_covered 50 = .ok (.bipush 6, 2) := by decide +kernel
theorem dX4_covered_52 : decode cX4_covered 52 = .ok (.iload_n 2, 1) := by decide +kernel
theorem dX4_covered_53 : decode cX4_covered 53 = .ok (.imul, 1) := by decide +kernel
theorem dX4_covered_54 : decode cX4_covered 54 = .ok (.iload 4, 2) := by decide +kernel
theorem dX4_covered_56 : decode cX4_covered 56 = .ok (.iadd, 1) := by decide +kernel
theorem dX4_covered_57 : decode cX4_covered 57 = .ok (.iaload, 1) := by decide +kernel
theorem dX4_covered_58 : decode cX4_covered 58 = .ok (.aload_n 0, 1) := by decide +kernel
theorem dX4_covered_59 : decode cX4_covered 59 = .ok (.getfield 13, 3) := by decide +kernel
theorem dX4_covered_62 : decode cX4_covered 62 = .ok (.iload 4, 2) := by decide +kernel
theorem dX4_covered_64 : decode cX4_covered 64 = .ok (.iaload, 1) := by decide +kernel
theorem dX4_covered_65 : decode cX4_covered 65 = .ok (.if_icmp .lt 7, 3) := by decide +kernel
theorem dX4_covered_68 : decode cX4_covered 68 = .ok (.iconst 1, 1) := by decide +kernel
theorem dX4_covered_69 : decode cX4_covered 69 = .ok (.goto 4, 3) := by decide +kernel
theorem dX4_covered_72 : decode cX4_covered 72 = .ok (.iconst 0, 1) := by decide +kernel
theorem dX4_covered_73 : decode cX4_covered 73 = .ok (.istore_n 3, 1) := by decide +kernel
theorem dX4_covered_74 : decode cX4_covered 74 = .ok (.iinc 4 1, 3) := by decide +kernel
theorem dX4_covered_77 : decode cX4_covered 77 = .ok (.goto (-44), 3) := by decide +kernel
theorem dX4_covered_80 : decode cX4_covered 80 = .ok (.iload_n 1, 1) := by decide +kernel
theorem dX4_covered_81 : decode cX4_covered 81 = .ok (.ifCond .ne 7, 3) := by decide +kernel
theorem dX4_covered_84 : decode cX4_covered 84 = .ok (.iload_n 3, 1) := by decide +kernel
theorem dX4_covered_85 : decode cX4_covered 85 = .ok (.ifCond .eq 7, 3) := by decide +kernel
theorem dX4_covered_88 : decode cX4_covered 88 = .ok (.iconst 1, 1) := by decide +kernel
theorem dX4_covered_89 : decode cX4_covered 89 = .ok (.goto 4, 3) := by decide +kernel
theorem dX4_covered_92 : decode cX4_covered 92 = .ok (.iconst 0, 1) := by decide +kernel
theorem dX4_covered_93 : decode cX4_covered 93 = .ok (.istore_n 1, 1) := by decide +kernel
theorem dX4_covered_94 : decode cX4_covered 94 = .ok (.iinc 2 1, 3) := by decide +kernel
theorem dX4_covered_97 : decode cX4_covered 97 = .ok (.goto (-77), 3) := by decide +kernel
theorem dX4_covered_100 : decode cX4_covered 100 = .ok (.iload_n 1, 1) := by decide +kernel
theorem dX4_covered_101 : decode cX4_covered 101 = .ok (.ireturn, 1) := by decide +kernel
theorem dX4_possible_0 : decode cX4_possible 0 = .ok (.aload_n 0, 1) := by decide +kernel
theorem dX4_possible_1 : decode cX4_possible 1 = .ok (.aload_n 0, 1) := by decide +kernel
theorem dX4_possible_2 : decode cX4_possible 2 = .ok (.getfield 22, 3) := by decide +kernel
theorem dX4_possible_5 : decode cX4_possible 5 = .ok (.ifCond .ge 7, 3) := by decide +kernel
theorem dX4_possible_8 : decode cX4_possible 8 = .ok (.iconst 1, 1) := by decide +kernel
theorem dX4_possible_9 : decode cX4_possible 9 = .ok (.goto 16, 3) := by decide +kernel
theorem dX4_possible_12 : decode cX4_possible 12 = .ok (.aload_n 0, 1) := by decide +kernel
theorem dX4_possible_13 : decode cX4_possible 13 = .ok (.iload_n 1, 1) := by decide +kernel
theorem dX4_possible_14 : decode cX4_possible 14 = .ok (.invokevirtual 79, 3) := by decide +kernel
theorem dX4_possible_17 : decode cX4_possible 17 = .ok (.ifCond .eq 7, 3) := by decide +kernel
theorem dX4_possible_20 : decode cX4_possible 20 = .ok (.iconst 2, 1) := by decide +kernel
theorem dX4_possible_21 : decode cX4_possible 21 = .ok (.goto 4, 3) := by decide +kernel
theorem dX4_possible_24 : decode cX4_possible 24 = .ok (.iconst 0, 1) := by decide +kernel
theorem dX4_possible_25 : decode cX4_possible 25 = .ok (.putfield 63, 3) := by decide +kernel
theorem dX4_possible_28 : decode cX4_possible 28 = .ok (.iconst 0, 1) := by decide +kernel
theorem dX4_possible_29 : decode cX4_possible 29 = .ok (.istore_n 2, 1) := by decide +kernel
theorem dX4_possible_30 : decode cX4_possible 30 = .ok (.iconst 0, 1) := by decide +kernel
theorem dX4_possible_31 : decode cX4_possible 31 = .ok (.istore_n 3, 1) := by decide +kernel
theorem dX4_possible_32 : decode cX4_possible 32 = .ok (.iload_n 3, 1) := by decide +kernel
theorem dX4_possible_33 : decode cX4_possible 33 = .ok (.aload_n 0, 1) := by decide +kernel
theorem dX4_possible_34 : decode cX4_possible 34 = .ok (.getfield 22, 3) := by decide +kernel
theorem dX4_possible_37 : decode cX4_possible 37 = .ok (.if_icmp .ge 35, 3) := by decide +kernel
theorem dX4_possible_40 : decode cX4_possible 40 = .ok (.aload_n 0, 1) := by decide +kernel
theorem dX4_possible_41 : decode cX4_possible 41 = .ok (.getfield 63, 3) := by decide +kernel
theorem dX4_possible_44 : decode cX4_possible 44 = .ok (.ifCond .ne 28, 3) := by decide +kernel
theorem dX4_possible_47 : decode cX4_possible 47 = .ok (.iload_n 2, 1) := by decide +kernel
theorem dX4_possible_48 : decode cX4_possible 48 = .ok (.ifCond .ne 12, 3) := by decide +kernel
theorem dX4_possible_51 : decode cX4_possible 51 = .ok (.aload_n 0, 1) := by decide +kernel
theorem dX4_possible_52 : decode cX4_possible 52 = .ok (.iload_n 3, 1) := by decide +kernel
theorem dX4_possible_53 : decode cX4_possible 53 = .ok (.iload_n 1, 1) := by decide +kernel
theorem dX4_possible_54 : decode cX4_possible 54 = .ok (.invokevirtual 99, 3) := by decide +kernel
theorem dX4_possible_57 : decode cX4_possible 57 = .ok (.ifCond .eq 7, 3) := by decide +kernel
theorem dX4_possible_60 : decode cX4_possible 60 = .ok (.iconst 1, 1) := by decide +kernel
theorem dX4_possible_61 : decode cX4_possible 61 = .ok (.goto 4, 3) := by decide +kernel
theorem dX4_possible_64 : decode cX4_possible 64 = .ok (.iconst 0, 1) := by decide +kernel
theorem dX4_possible_65 : decode cX4_possible 65 = .ok (.istore_n 2, 1) := by decide +kernel
theorem dX4_possible_66 : decode cX4_possible 66 = .ok (.iinc 3 1, 3) := by decide +kernel
theorem dX4_possible_69 : decode cX4_possible 69 = .ok (.goto (-37), 3) := by decide +kernel
theorem dX4_possible_72 : decode cX4_possible 72 = .ok (.iload_n 2, 1) := by decide +kernel
theorem dX4_possible_73 : decode cX4_possible 73 = .ok (.ireturn, 1) := by decide +kernel
theorem dX4_depth_0 : decode cX4_depth 0 = .ok (.iconst 0, 1) := by decide +kernel
theorem dX4_depth_1 : decode cX4_depth 1 = .ok (.istore_n 2, 1) := by decide +kernel
theorem dX4_depth_2 : decode cX4_depth 2 = .ok (.iload_n 1, 1) := by decide +kernel
theorem dX4_depth_3 : decode cX4_depth 3 = .ok (.istore_n 3, 1) := by decide +kernel
theorem dX4_depth_4 : decode cX4_depth 4 = .ok (.iload_n 3, 1) := by decide +kernel
theorem dX4_depth_5 : decode cX4_depth 5 = .ok (.ifCond .le 16, 3) := by decide +kernel
theorem dX4_depth_8 : decode cX4_depth 8 = .ok (.iinc 2 1, 3) := by decide +kernel
theorem dX4_depth_11 : decode cX4_depth 11 = .ok (.aload_n 0, 1) := by decide +kernel
theorem dX4_depth_12 : decode cX4_depth 12 = .ok (.getfield 29, 3) := by decide +kernel
theorem dX4_depth_15 : decode cX4_depth 15 = .ok (.iload_n 3, 1) := by decide +kernel
theorem dX4_depth_16 : decode cX4_depth 16 = .ok (.iaload, 1) := by decide +kernel
theorem dX4_depth_17 : decode cX4_depth 17 = .ok (.istore_n 3, 1) := by decide +kernel
theorem dX4_depth_18 : decode cX4_depth 18 = .ok (.goto (-14), 3) := by decide +kernel
theorem dX4_depth_21 : decode cX4_depth 21 = .ok (.iload_n 2, 1) := by decide +kernel
theorem dX4_depth_22 : decode cX4_depth 22 = .ok (.ireturn, 1) := by decide +kernel
theorem dX4_growth_0 : decode cX4_growth 0 = .ok (.aload_n 0, 1) := by decide +kernel
theorem dX4_growth_1 : decode cX4_growth 1 = .ok (.aload_n 0, 1) := by decide +kernel
theorem dX4_growth_2 : decode cX4_growth 2 = .ok (.getfield 22, 3) := by decide +kernel
theorem dX4_growth_5 : decode cX4_growth 5 = .ok (.ifCond .ge 7, 3) := by decide +kernel
theorem dX4_growth_8 : decode cX4_growth 8 = .ok (.iconst 1, 1) := by decide +kernel
theorem dX4_growth_9 : decode cX4_growth 9 = .ok (.goto 13, 3) := by decide +kernel
theorem dX4_growth_12 : decode cX4_growth 12 = .ok (.iload_n 1, 1) := by decide +kernel
theorem dX4_growth_13 : decode cX4_growth 13 = .ok (.iconst (-1), 1) := by decide +kernel
theorem dX4_growth_14 : decode cX4_growth 14 = .ok (.if_icmp .ge 7, 3) := by decide +kernel
theorem dX4_growth_17 : decode cX4_growth 17 = .ok (.iconst 2, 1) := by decide +kernel
theorem dX4_growth_18 : decode cX4_growth 18 = .ok (.goto 4, 3) := by decide +kernel
theorem dX4_growth_21 : decode cX4_growth 21 = .ok (.iconst 0, 1) := by decide +kernel
theorem dX4_growth_22 : decode cX4_growth 22 = .ok (.putfield 63, 3) := by decide +kernel
theorem dX4_growth_25 : decode cX4_growth 25 = .ok (.aload_n 0, 1) := by decide +kernel
theorem dX4_growth_26 : decode cX4_growth 26 = .ok (.getfield 63, 3) := by decide +kernel
theorem dX4_growth_29 : decode cX4_growth 29 = .ok (.ifCond .le 5, 3) := by decide +kernel
theorem dX4_growth_32 : decode cX4_growth 32 = .ok (.iconst 0, 1) := by decide +kernel
theorem dX4_growth_33 : decode cX4_growth 33 = .ok (.ireturn, 1) := by decide +kernel
theorem dX4_growth_34 : decode cX4_growth 34 = .ok (.aload_n 0, 1) := by decide +kernel
theorem dX4_growth_35 : decode cX4_growth 35 = .ok (.getfield 89, 3) := by decide +kernel
theorem dX4_growth_38 : decode cX4_growth 38 = .ok (.ifCond .ge 6, 3) := by decide +kernel
theorem dX4_growth_41 : decode cX4_growth 41 = .ok (.bipush (-2), 2) := by decide +kernel
theorem dX4_growth_43 : decode cX4_growth 43 = .ok (.ireturn, 1) := by decide +kernel
theorem dX4_growth_44 : decode cX4_growth 44 = .ok (.iload_n 1, 1) := by decide +kernel
theorem dX4_growth_45 : decode cX4_growth 45 = .ok (.ifCond .ge 12, 3) := by decide +kernel
theorem dX4_growth_48 : decode cX4_growth 48 = .ok (.aload_n 0, 1) := by decide +kernel
theorem dX4_growth_49 : decode cX4_growth 49 = .ok (.aload_n 0, 1) := by decide +kernel
theorem dX4_growth_50 : decode cX4_growth 50 = .ok (.getfield 92, 3) := by decide +kernel
theorem dX4_growth_53 : decode cX4_growth 53 = .ok (.invokevirtual 113, 3) := by decide +kernel
theorem dX4_growth_56 : decode cX4_growth 56 = .ok (.ireturn, 1) := by decide +kernel
theorem dX4_growth_57 : decode cX4_growth 57 = .ok (.aload_n 0, 1) := by decide +kernel
theorem dX4_growth_58 : decode cX4_growth 58 = .ok (.aload_n 0, 1) := by decide +kernel
theorem dX4_growth_59 : decode cX4_growth 59 = .ok (.getfield 89, 3) := by decide +kernel
theorem dX4_growth_62 : decode cX4_growth 62 = .ok (.invokevirtual 113, 3) := by decide +kernel
theorem dX4_growth_65 : decode cX4_growth 65 = .ok (.iconst 1, 1) := by decide +kernel
theorem dX4_growth_66 : decode cX4_growth 66 = .ok (.isub, 1) := by decide +kernel
theorem dX4_growth_67 : decode cX4_growth 67 = .ok (.iload_n 1, 1) := by decide +kernel
theorem dX4_growth_68 : decode cX4_growth 68 = .ok (.isub, 1) := by decide +kernel
theorem dX4_growth_69 : decode cX4_growth 69 = .ok (.istore_n 2, 1) := by decide +kernel
theorem dX4_growth_70 : decode cX4_growth 70 = .ok (.aload_n 0, 1) := by decide +kernel
theorem dX4_growth_71 : decode cX4_growth 71 = .ok (.getfield 89, 3) := by decide +kernel
theorem dX4_growth_74 : decode cX4_growth 74 = .ok (.istore_n 3, 1) := by decide +kernel
theorem dX4_growth_75 : decode cX4_growth 75 = .ok (.iload_n 2, 1) := by decide +kernel
theorem dX4_growth_76 : decode cX4_growth 76 = .ok (.ifCond .le 16, 3) := by decide +kernel
theorem dX4_growth_79 : decode cX4_growth 79 = .ok (.aload_n 0, 1) := by decide +kernel
theorem dX4_growth_80 : decode cX4_growth 80 = .ok (.getfield 29, 3) := by decide +kernel
theorem dX4_growth_83 : decode cX4_growth 83 = .ok (.iload_n 3, 1) := by decide +kernel
theorem dX4_growth_84 : decode cX4_growth 84 = .ok (.iaload, 1) := by decide +kernel
theorem dX4_growth_85 : decode cX4_growth 85 = .ok (.istore_n 3, 1) := by decide +kernel
theorem dX4_growth_86 : decode cX4_growth 86 = .ok (.iinc 2 (-1), 3) := by decide +kernel
theorem dX4_growth_89 : decode cX4_growth 89 = .ok (.goto (-14), 3) := by decide +kernel
theorem dX4_growth_92 : decode cX4_growth 92 = .ok (.iload_n 2, 1) := by decide +kernel
theorem dX4_growth_93 : decode cX4_growth 93 = .ok (.ifCond .ge 7, 3) := by decide +kernel
theorem dX4_growth_96 : decode cX4_growth 96 = .ok (.iconst (-1), 1) := by decide +kernel
theorem dX4_growth_97 : decode cX4_growth 97 = .ok (.goto 9, 3) := by decide +kernel
theorem dX4_growth_100 : decode cX4_growth 100 = .ok (.aload_n 0, 1) := by decide +kernel
theorem dX4_growth_101 : decode cX4_growth 101 = .ok (.getfield 32, 3) := by decide +kernel
theorem dX4_growth_104 : decode cX4_growth 104 = .ok (.iload_n 3, 1) := by decide +kernel
theorem dX4_growth_105 : decode cX4_growth 105 = .ok (.iaload, 1) := by decide +kernel
theorem dX4_growth_106 : decode cX4_growth 106 = .ok (.ireturn, 1) := by decide +kernel
theorem dX4_anyEndless_0 : decode cX4_anyEndless 0 = .ok (.iconst 0, 1) := by decide +kernel
theorem dX4_anyEndless_1 : decode cX4_anyEndless 1 = .ok (.istore_n 1, 1) := by decide +kernel
theorem dX4_anyEndless_2 : decode cX4_anyEndless 2 = .ok (.iconst 0, 1) := by decide +kernel
theorem dX4_anyEndless_3 : decode cX4_anyEndless 3 = .ok (.istore_n 2, 1) := by decide +kernel
theorem dX4_anyEndless_4 : decode cX4_anyEndless 4 = .ok (.iload_n 2, 1) := by decide +kernel
theorem dX4_anyEndless_5 : decode cX4_anyEndless 5 = .ok (.aload_n 0, 1) := by decide +kernel
theorem dX4_anyEndless_6 : decode cX4_anyEndless 6 = .ok (.getfield 66, 3) := by decide +kernel
theorem dX4_anyEndless_9 : decode cX4_anyEndless 9 = .ok (.if_icmp .ge 29, 3) := by decide +kernel
theorem dX4_anyEndless_12 : decode cX4_anyEndless 12 = .ok (.iload_n 1, 1) := by decide +kernel
theorem dX4_anyEndless_13 : decode cX4_anyEndless 13 = .ok (.ifCond .ne 13, 3) := by decide +kernel
theorem dX4_anyEndless_16 : decode cX4_anyEndless 16 = .ok (.aload_n 0, 1) := by decide +kernel
theorem dX4_anyEndless_17 : decode cX4_anyEndless 17 = .ok (.iload_n 2, 1) := by decide +kernel
theorem dX4_anyEndless_18 : decode cX4_anyEndless 18 = .ok (.invokevirtual 110, 3) := by decide +kernel
theorem dX4_anyEndless_21 : decode cX4_anyEndless 21 = .ok (.ldc 85, 2) := by decide +kernel
theorem dX4_anyEndless_23 : decode cX4_anyEndless 23 = .ok (.if_icmp .ne 7, 3) := by decide +kernel
theorem dX4_anyEndless_26 : decode cX4_anyEndless 26 = .ok (.iconst 1, 1) := by decide +kernel
theorem dX4_anyEndless_27 : decode cX4_anyEndless 27 = .ok (.goto 4, 3) := by decide +kernel
theorem dX4_anyEndless_30 : decode cX4_anyEndless 30 = .ok (.iconst 0, 1) := by decide +kernel
theorem dX4_anyEndless_31 : decode cX4_anyEndless 31 = .ok (.istore_n 1, 1) := by decide +kernel
theorem dX4_anyEndless_32 : decode cX4_anyEndless 32 = .ok (.iinc 2 1, 3) := by decide +kernel
theorem dX4_anyEndless_35 : decode cX4_anyEndless 35 = .ok (.goto (-31), 3) := by decide +kernel
theorem dX4_anyEndless_38 : decode cX4_anyEndless 38 = .ok (.iload_n 1, 1) := by decide +kernel
theorem dX4_anyEndless_39 : decode cX4_anyEndless 39 = .ok (.ireturn, 1) := by decide +kernel
theorem dX4_enabledIn_0 : decode cX4_enabledIn 0 = .ok (.iconst 0, 1) := by decide +kernel
theorem dX4_enabledIn_1 : decode cX4_enabledIn 1 = .ok (.istore_n 3, 1) := by decide +kernel
theorem dX4_enabledIn_2 : decode cX4_enabledIn 2 = .ok (.iload_n 3, 1) := by decide +kernel
theorem dX4_enabledIn_3 : decode cX4_enabledIn 3 = .ok (.aload_n 0, 1) := by decide +kernel
theorem dX4_enabledIn_4 : decode cX4_enabledIn 4 = .ok (.getfield 66, 3) := by decide +kernel
theorem dX4_enabledIn_7 : decode cX4_enabledIn 7 = .ok (.if_icmp .ge 36, 3) := by decide +kernel
theorem dX4_enabledIn_10 : decode cX4_enabledIn 10 = .ok (.aload_n 0, 1) := by decide +kernel
theorem dX4_enabledIn_11 : decode cX4_enabledIn 11 = .ok (.getfield 45, 3) := by decide +kernel
theorem dX4_enabledIn_14 : decode cX4_enabledIn 14 = .ok (.bipush 6, 2) := by decide +kernel
theorem dX4_enabledIn_16 : decode cX4_enabledIn 16 = .ok (.iload_n 1, 1) := by decide +kernel
theorem dX4_enabledIn_17 : decode cX4_enabledIn 17 = .ok (.imul, 1) := by decide +kernel
theorem dX4_enabledIn_18 : decode cX4_enabledIn 18 = .ok (.iload_n 3, 1) := by decide +kernel
theorem dX4_enabledIn_19 : decode cX4_enabledIn 19 = .ok (.iadd, 1) := by decide +kernel
theorem dX4_enabledIn_20 : decode cX4_enabledIn 20 = .ok (.iaload, 1) := by decide +kernel
theorem dX4_enabledIn_21 : decode cX4_enabledIn 21 = .ok (.aload_n 0, 1) := by decide +kernel
theorem dX4_enabledIn_22 : decode cX4_enabledIn 22 = .ok (.getfield 16, 3) := by decide +kernel
theorem dX4_enabledIn_25 : decode cX4_enabledIn 25 = .ok (.bipush 6, 2) := by decide +kernel
theorem dX4_enabledIn_27 : decode cX4_enabledIn 27 = .ok (.iload_n 2, 1) := by decide +kernel
theorem dX4_enabledIn_28 : decode cX4_enabledIn 28 = .ok (.imul, 1) := by decide +kernel
theorem dX4_enabledIn_29 : decode cX4_enabledIn 29 = .ok (.iload_n 3, 1) := by decide +kernel
theorem dX4_enabledIn_30 : decode cX4_enabledIn 30 = .ok (.iadd, 1) := by decide +kernel
theorem dX4_enabledIn_31 : decode cX4_enabledIn 31 = .ok (.iaload, 1) := by decide +kernel
theorem dX4_enabledIn_32 : decode cX4_enabledIn 32 = .ok (.if_icmp .ge 5, 3) := by decide +kernel
theorem dX4_enabledIn_35 : decode cX4_enabledIn 35 = .ok (.iconst 0, 1) := by decide +kernel
theorem dX4_enabledIn_36 : decode cX4_enabledIn 36 = .ok (.ireturn, 1) := by decide +kernel
theorem dX4_enabledIn_37 : decode cX4_enabledIn 37 = .ok (.iinc 3 1, 3) := by decide +kernel
theorem dX4_enabledIn_40 : decode cX4_enabledIn 40 = .ok (.goto (-38), 3) := by decide +kernel
theorem dX4_enabledIn_43 : decode cX4_enabledIn 43 = .ok (.iconst 1, 1) := by decide +kernel
theorem dX4_enabledIn_44 : decode cX4_enabledIn 44 = .ok (.ireturn, 1) := by decide +kernel
theorem dX4_find_0 : decode cX4_find 0 = .ok (.iconst 0, 1) := by decide +kernel
theorem dX4_find_1 : decode cX4_find 1 = .ok (.istore_n 1, 1) := by decide +kernel
theorem dX4_find_2 : decode cX4_find 2 = .ok (.iload_n 1, 1) := by decide +kernel
theorem dX4_find_3 : decode cX4_find 3 = .ok (.aload_n 0, 1) := by decide +kernel
theorem dX4_find_4 : decode cX4_find 4 = .ok (.getfield 42, 3) := by decide +kernel
theorem dX4_find_7 : decode cX4_find 7 = .ok (.if_icmp .ge 63, 3) := by decide +kernel
theorem dX4_find_10 : decode cX4_find 10 = .ok (.iconst 1, 1) := by decide +kernel
theorem dX4_find_11 : decode cX4_find 11 = .ok (.istore_n 2, 1) := by decide +kernel
theorem dX4_find_12 : decode cX4_find 12 = .ok (.iconst 0, 1) := by decide +kernel
theorem dX4_find_13 : decode cX4_find 13 = .ok (.istore_n 3, 1) := by decide +kernel
theorem dX4_find_14 : decode cX4_find 14 = .ok (.iload_n 3, 1) := by decide +kernel
theorem dX4_find_15 : decode cX4_find 15 = .ok (.aload_n 0, 1) := by decide +kernel
theorem dX4_find_16 : decode cX4_find 16 = .ok (.getfield 66, 3) := by decide +kernel
theorem dX4_find_19 : decode cX4_find 19 = .ok (.if_icmp .ge 39, 3) := by decide +kernel
theorem dX4_find_22 : decode cX4_find 22 = .ok (.iload_n 2, 1) := by decide +kernel
theorem dX4_find_23 : decode cX4_find 23 = .ok (.ifCond .eq 27, 3) := by decide +kernel
theorem dX4_find_26 : decode cX4_find 26 = .ok (.aload_n 0, 1) := by decide +kernel
theorem dX4_find_27 : decode cX4_find 27 = .ok (.getfield 45, 3) := by decide +kernel
theorem dX4_find_30 : decode cX4_find 30 = .ok (.bipush 6, 2) := by decide +kernel
theorem dX4_find_32 : decode cX4_find 32 = .ok (.iload_n 1, 1) := by decide +kernel
theorem dX4_find_33 : decode cX4_find 33 = .ok (.imul, 1) := by decide +kernel
theorem dX4_find_34 : decode cX4_find 34 = .ok (.iload_n 3, 1) := by decide +kernel
theorem dX4_find_35 : decode cX4_find 35 = .ok (.iadd, 1) := by decide +kernel
theorem dX4_find_36 : decode cX4_find 36 = .ok (.iaload, 1) := by decide +kernel
theorem dX4_find_37 : decode cX4_find 37 = .ok (.aload_n 0, 1) := by decide +kernel
theorem dX4_find_38 : decode cX4_find 38 = .ok (.getfield 60, 3) := by decide +kernel
theorem dX4_find_41 : decode cX4_find 41 = .ok (.iload_n 3, 1) := by decide +kernel
theorem dX4_find_42 : decode cX4_find 42 = .ok (.iaload, 1) := by decide +kernel
theorem dX4_find_43 : decode cX4_find 43 = .ok (.if_icmp .ne 7, 3) := by decide +kernel
theorem dX4_find_46 : decode cX4_find 46 = .ok (.iconst 1, 1) := by decide +kernel
theorem dX4_find_47 : decode cX4_find 47 = .ok (.goto 4, 3) := by decide +kernel
theorem dX4_find_50 : decode cX4_find 50 = .ok (.iconst 0, 1) := by decide +kernel
theorem dX4_find_51 : decode cX4_find 51 = .ok (.istore_n 2, 1) := by decide +kernel
theorem dX4_find_52 : decode cX4_find 52 = .ok (.iinc 3 1, 3) := by decide +kernel
theorem dX4_find_55 : decode cX4_find 55 = .ok (.goto (-41), 3) := by decide +kernel
theorem dX4_find_58 : decode cX4_find 58 = .ok (.iload_n 2, 1) := by decide +kernel
theorem dX4_find_59 : decode cX4_find 59 = .ok (.ifCond .eq 5, 3) := by decide +kernel
theorem dX4_find_62 : decode cX4_find 62 = .ok (.iload_n 1, 1) := by decide +kernel
theorem dX4_find_63 : decode cX4_find 63 = .ok (.ireturn, 1) := by decide +kernel
theorem dX4_find_64 : decode cX4_find 64 = .ok (.iinc 1 1, 3) := by decide +kernel
theorem dX4_find_67 : decode cX4_find 67 = .ok (.goto (-65), 3) := by decide +kernel
theorem dX4_find_70 : decode cX4_find 70 = .ok (.iconst (-1), 1) := by decide +kernel
theorem dX4_find_71 : decode cX4_find 71 = .ok (.ireturn, 1) := by decide +kernel
theorem dX4_addState_0 : decode cX4_addState 0 = .ok (.iconst 0, 1) := by decide +kernel
theorem dX4_addState_1 : decode cX4_addState 1 = .ok (.istore_n 3, 1) := by decide +kernel
theorem dX4_addState_2 : decode cX4_addState 2 = .ok (.iload_n 3, 1) := by decide +kernel
theorem dX4_addState_3 : decode cX4_addState 3 = .ok (.aload_n 0, 1) := by decide +kernel
theorem dX4_addState_4 : decode cX4_addState 4 = .ok (.getfield 66, 3) := by decide +kernel
theorem dX4_addState_7 : decode cX4_addState 7 = .ok (.if_icmp .ge 29, 3) := by decide +kernel
theorem dX4_addState_10 : decode cX4_addState 10 = .ok (.aload_n 0, 1) := by decide +kernel
theorem dX4_addState_11 : decode cX4_addState 11 = .ok (.getfield 45, 3) := by decide +kernel
theorem dX4_addState_14 : decode cX4_addState 14 = .ok (.bipush 6, 2) := by decide +kernel
theorem dX4_addState_16 : decode cX4_addState 16 = .ok (.aload_n 0, 1) := by decide +kernel
theorem dX4_addState_17 : decode cX4_addState 17 = .ok (.getfield 42, 3) := by decide +kernel
theorem dX4_addState_20 : decode cX4_addState 20 = .ok (.imul, 1) := by decide +kernel
theorem dX4_addState_21 : decode cX4_addState 21 = .ok (.iload_n 3, 1) := by decide +kernel
theorem dX4_addState_22 : decode cX4_addState 22 = .ok (.iadd, 1) := by decide +kernel
theorem dX4_addState_23 : decode cX4_addState 23 = .ok (.aload_n 0, 1) := by decide +kernel
theorem dX4_addState_24 : decode cX4_addState 24 = .ok (.getfield 60, 3) := by decide +kernel
theorem dX4_addState_27 : decode cX4_addState 27 = .ok (.iload_n 3, 1) := by decide +kernel
theorem dX4_addState_28 : decode cX4_addState 28 = .ok (.iaload, 1) := by decide +kernel
theorem dX4_addState_29 : decode cX4_addState 29 = .ok (.iastore, 1) := by decide +kernel
theorem dX4_addState_30 : decode cX4_addState 30 = .ok (.iinc 3 1, 3) := by decide +kernel
theorem dX4_addState_33 : decode cX4_addState 33 = .ok (.goto (-31), 3) := by decide +kernel
theorem dX4_addState_36 : decode cX4_addState 36 = .ok (.aload_n 0, 1) := by decide +kernel
theorem dX4_addState_37 : decode cX4_addState 37 = .ok (.getfield 51, 3) := by decide +kernel
theorem dX4_addState_40 : decode cX4_addState 40 = .ok (.aload_n 0, 1) := by decide +kernel
theorem dX4_addState_41 : decode cX4_addState 41 = .ok (.getfield 42, 3) := by decide +kernel
theorem dX4_addState_44 : decode cX4_addState 44 = .ok (.iload_n 1, 1) := by decide +kernel
theorem dX4_addState_45 : decode cX4_addState 45 = .ok (.iastore, 1) := by decide +kernel
theorem dX4_addState_46 : decode cX4_addState 46 = .ok (.aload_n 0, 1) := by decide +kernel
theorem dX4_addState_47 : decode cX4_addState 47 = .ok (.getfield 54, 3) := by decide +kernel
theorem dX4_addState_50 : decode cX4_addState 50 = .ok (.aload_n 0, 1) := by decide +kernel
theorem dX4_addState_51 : decode cX4_addState 51 = .ok (.getfield 42, 3) := by decide +kernel
theorem dX4_addState_54 : decode cX4_addState 54 = .ok (.iload_n 2, 1) := by decide +kernel
theorem dX4_addState_55 : decode cX4_addState 55 = .ok (.iastore, 1) := by decide +kernel
theorem dX4_addState_56 : decode cX4_addState 56 = .ok (.aload_n 0, 1) := by decide +kernel
theorem dX4_addState_57 : decode cX4_addState 57 = .ok (.dup, 1) := by decide +kernel
theorem dX4_addState_58 : decode cX4_addState 58 = .ok (.getfield 42, 3) := by decide +kernel
theorem dX4_addState_61 : decode cX4_addState 61 = .ok (.iconst 1, 1) := by decide +kernel
theorem dX4_addState_62 : decode cX4_addState 62 = .ok (.iadd, 1) := by decide +kernel
theorem dX4_addState_63 : decode cX4_addState 63 = .ok (.putfield 42, 3) := by decide +kernel
theorem dX4_addState_66 : decode cX4_addState 66 = .ok (.return_, 1) := by decide +kernel
theorem dX4_graph_0 : decode cX4_graph 0 = .ok (.aload_n 0, 1) := by decide +kernel
theorem dX4_graph_1 : decode cX4_graph 1 = .ok (.aload_n 0, 1) := by decide +kernel
theorem dX4_graph_2 : decode cX4_graph 2 = .ok (.getfield 22, 3) := by decide +kernel
theorem dX4_graph_5 : decode cX4_graph 5 = .ok (.ifCond .lt 10, 3) := by decide +kernel
theorem dX4_graph_8 : decode cX4_graph 8 = .ok (.aload_n 0, 1) := by decide +kernel
theorem dX4_graph_9 : decode cX4_graph 9 = .ok (.invokevirtual 116, 3) := by decide +kernel
theorem dX4_graph_12 : decode cX4_graph 12 = .ok (.ifCond .eq 7, 3) := by decide +kernel
theorem dX4_graph_15 : decode cX4_graph 15 = .ok (.iconst 1, 1) := by decide +kernel
theorem dX4_graph_16 : decode cX4_graph 16 = .ok (.goto 4, 3) := by decide +kernel
theorem dX4_graph_19 : decode cX4_graph 19 = .ok (.iconst 0, 1) := by decide +kernel
theorem dX4_graph_20 : decode cX4_graph 20 = .ok (.putfield 63, 3) := by decide +kernel
theorem dX4_graph_23 : decode cX4_graph 23 = .ok (.aload_n 0, 1) := by decide +kernel
theorem dX4_graph_24 : decode cX4_graph 24 = .ok (.getfield 63, 3) := by decide +kernel
theorem dX4_graph_27 : decode cX4_graph 27 = .ok (.ifCond .le 5, 3) := by decide +kernel
theorem dX4_graph_30 : decode cX4_graph 30 = .ok (.iconst 0, 1) := by decide +kernel
theorem dX4_graph_31 : decode cX4_graph 31 = .ok (.ireturn, 1) := by decide +kernel
theorem dX4_graph_32 : decode cX4_graph 32 = .ok (.aload_n 0, 1) := by decide +kernel
theorem dX4_graph_33 : decode cX4_graph 33 = .ok (.iconst 0, 1) := by decide +kernel
theorem dX4_graph_34 : decode cX4_graph 34 = .ok (.putfield 42, 3) := by decide +kernel
theorem dX4_graph_37 : decode cX4_graph 37 = .ok (.iconst 0, 1) := by decide +kernel
theorem dX4_graph_38 : decode cX4_graph 38 = .ok (.istore_n 1, 1) := by decide +kernel
theorem dX4_graph_39 : decode cX4_graph 39 = .ok (.iload_n 1, 1) := by decide +kernel
theorem dX4_graph_40 : decode cX4_graph 40 = .ok (.aload_n 0, 1) := by decide +kernel
theorem dX4_graph_41 : decode cX4_graph 41 = .ok (.getfield 66, 3) := by decide +kernel
theorem dX4_graph_44 : decode cX4_graph 44 = .ok (.if_icmp .ge 21, 3) := by decide +kernel
theorem dX4_graph_47 : decode cX4_graph 47 = .ok (.aload_n 0, 1) := by decide +kernel
theorem dX4_graph_48 : decode cX4_graph 48 = .ok (.getfield 60, 3) := by decide +kernel
theorem dX4_graph_51 : decode cX4_graph 51 = .ok (.iload_n 1, 1) := by decide +kernel
theorem dX4_graph_52 : decode cX4_graph 52 = .ok (.aload_n 0, 1) := by decide +kernel
theorem dX4_graph_53 : decode cX4_graph 53 = .ok (.getfield 7, 3) := by decide +kernel
theorem dX4_graph_56 : decode cX4_graph 56 = .ok (.iload_n 1, 1) := by decide +kernel
theorem dX4_graph_57 : decode cX4_graph 57 = .ok (.iaload, 1) := by decide +kernel
theorem dX4_graph_58 : decode cX4_graph 58 = .ok (.iastore, 1) := by decide +kernel
theorem dX4_graph_59 : decode cX4_graph 59 = .ok (.iinc 1 1, 3) := by decide +kernel
theorem dX4_graph_62 : decode cX4_graph 62 = .ok (.goto (-23), 3) := by decide +kernel
theorem dX4_graph_65 : decode cX4_graph 65 = .ok (.aload_n 0, 1) := by decide +kernel
theorem dX4_graph_66 : decode cX4_graph 66 = .ok (.bipush (-2), 2) := by decide +kernel
theorem dX4_graph_68 : decode cX4_graph 68 = .ok (.bipush (-2), 2) := by decide +kernel
theorem dX4_graph_70 : decode cX4_graph 70 = .ok (.invokevirtual 120, 3) := by decide +kernel
theorem dX4_graph_73 : decode cX4_graph 73 = .ok (.iconst 0, 1) := by decide +kernel
theorem dX4_graph_74 : decode cX4_graph 74 = .ok (.istore_n 1, 1) := by decide +kernel
theorem dX4_graph_75 : decode cX4_graph 75 = .ok (.iload_n 1, 1) := by decide +kernel
theorem dX4_graph_76 : decode cX4_graph 76 = .ok (.aload_n 0, 1) := by decide +kernel
theorem dX4_graph_77 : decode cX4_graph 77 = .ok (.getfield 42, 3) := by decide +kernel
theorem dX4_graph_80 : decode cX4_graph 80 = .ok (.if_icmp .ge 160, 3) := by decide +kernel
theorem dX4_graph_83 : decode cX4_graph 83 = .ok (.iconst 0, 1) := by decide +kernel
theorem dX4_graph_84 : decode cX4_graph 84 = .ok (.istore_n 2, 1) := by decide +kernel
theorem dX4_graph_85 : decode cX4_graph 85 = .ok (.iload_n 2, 1) := by decide +kernel
theorem dX4_graph_86 : decode cX4_graph 86 = .ok (.aload_n 0, 1) := by decide +kernel
theorem dX4_graph_87 : decode cX4_graph 87 = .ok (.getfield 69, 3) := by decide +kernel
theorem dX4_graph_90 : decode cX4_graph 90 = .ok (.if_icmp .ge 144, 3) := by decide +kernel
theorem dX4_graph_93 : decode cX4_graph 93 = .ok (.aload_n 0, 1) := by decide +kernel
theorem dX4_graph_94 : decode cX4_graph 94 = .ok (.getfield 48, 3) := by decide +kernel
theorem dX4_graph_97 : decode cX4_graph 97 = .ok (.bipush 8, 2) := by decide +kernel
theorem dX4_graph_99 : decode cX4_graph 99 = .ok (.iload_n 1, 1) := by decide +kernel
theorem dX4_graph_100 : decode cX4_graph 100 = .ok (.imul, 1) := by decide +kernel
theorem dX4_graph_101 : decode cX4_graph 101 = .ok (.iload_n 2, 1) := by decide +kernel
theorem dX4_graph_102 : decode cX4_graph 102 = .ok (.iadd, 1) := by decide +kernel
theorem dX4_graph_103 : decode cX4_graph 103 = .ok (.iconst (-1), 1) := by decide +kernel
theorem dX4_graph_104 : decode cX4_graph 104 = .ok (.iastore, 1) := by decide +kernel
theorem dX4_graph_105 : decode cX4_graph 105 = .ok (.aload_n 0, 1) := by decide +kernel
theorem dX4_graph_106 : decode cX4_graph 106 = .ok (.iload_n 1, 1) := by decide +kernel
theorem dX4_graph_107 : decode cX4_graph 107 = .ok (.iload_n 2, 1) := by decide +kernel
theorem dX4_graph_108 : decode cX4_graph 108 = .ok (.invokevirtual 123, 3) := by decide +kernel
theorem dX4_graph_111 : decode cX4_graph 111 = .ok (.ifCond .eq 117, 3) := by decide +kernel
theorem dX4_graph_114 : decode cX4_graph 114 = .ok (.iconst 0, 1) := by decide +kernel
theorem dX4_graph_115 : decode cX4_graph 115 = .ok (.istore_n 3, 1) := by decide +kernel
theorem dX4_graph_116 : decode cX4_graph 116 = .ok (.iload_n 3, 1) := by decide +kernel
theorem dX4_graph_117 : decode cX4_graph 117 = .ok (.aload_n 0, 1) := by decide +kernel
theorem dX4_graph_118 : decode cX4_graph 118 = .ok (.getfield 66, 3) := by decide +kernel
theorem dX4_graph_121 : decode cX4_graph 121 = .ok (.if_icmp .ge 50, 3) := by decide +kernel
theorem dX4_graph_124 : decode cX4_graph 124 = .ok (.aload_n 0, 1) := by decide +kernel
theorem dX4_graph_125 : decode cX4_graph 125 = .ok (.getfield 60, 3) := by decide +kernel
theorem dX4_graph_128 : decode cX4_graph 128 = .ok (.iload_n 3, 1) := by decide +kernel
theorem dX4_graph_129 : decode cX4_graph 129 = .ok (.aload_n 0, 1) := by decide +kernel
theorem dX4_graph_130 : decode cX4_graph 130 = .ok (.getfield 45, 3) := by decide +kernel
theorem dX4_graph_133 : decode cX4_graph 133 = .ok (.bipush 6, 2) := by decide +kernel
theorem dX4_graph_135 : decode cX4_graph 135 = .ok (.iload_n 1, 1) := by decide +kernel
theorem dX4_graph_136 : decode cX4_graph 136 = .ok (.imul, 1) := by decide +kernel
theorem dX4_graph_137 : decode cX4_graph 137 = .ok (.iload_n 3, 1) := by decide +kernel
theorem dX4_graph_138 : decode cX4_graph 138 = .ok (.iadd, 1) := by decide +kernel
theorem dX4_graph_139 : decode cX4_graph 139 = .ok (.iaload, 1) := by decide +kernel
theorem dX4_graph_140 : decode cX4_graph 140 = .ok (.aload_n 0, 1) := by decide +kernel
theorem dX4_graph_141 : decode cX4_graph 141 = .ok (.getfield 16, 3) := by decide +kernel
theorem dX4_graph_144 : decode cX4_graph 144 = .ok (.bipush 6, 2) := by decide +kernel
theorem dX4_graph_146 : decode cX4_graph 146 = .ok (.iload_n 2, 1) := by decide +kernel
theorem dX4_graph_147 : decode cX4_graph 147 = .ok (.imul, 1) := by decide +kernel
theorem dX4_graph_148 : decode cX4_graph 148 = .ok (.iload_n 3, 1) := by decide +kernel
theorem dX4_graph_149 : decode cX4_graph 149 = .ok (.iadd, 1) := by decide +kernel
theorem dX4_graph_150 : decode cX4_graph 150 = .ok (.iaload, 1) := by decide +kernel
theorem dX4_graph_151 : decode cX4_graph 151 = .ok (.isub, 1) := by decide +kernel
theorem dX4_graph_152 : decode cX4_graph 152 = .ok (.aload_n 0, 1) := by decide +kernel
theorem dX4_graph_153 : decode cX4_graph 153 = .ok (.getfield 19, 3) := by decide +kernel
theorem dX4_graph_156 : decode cX4_graph 156 = .ok (.bipush 6, 2) := by decide +kernel
theorem dX4_graph_158 : decode cX4_graph 158 = .ok (.iload_n 2, 1) := by decide +kernel
theorem dX4_graph_159 : decode cX4_graph 159 = .ok (.imul, 1) := by decide +kernel
theorem dX4_graph_160 : decode cX4_graph 160 = .ok (.iload_n 3, 1) := by decide +kernel
theorem dX4_graph_161 : decode cX4_graph 161 = .ok (.iadd, 1) := by decide +kernel
theorem dX4_graph_162 : decode cX4_graph 162 = .ok (.iaload, 1) := by decide +kernel
theorem dX4_graph_163 : decode cX4_graph 163 = .ok (.iadd, 1) := by decide +kernel
theorem dX4_graph_164 : decode cX4_graph 164 = .ok (.iastore, 1) := by decide +kernel
theorem dX4_graph_165 : decode cX4_graph 165 = .ok (.iinc 3 1, 3) := by decide +kernel
theorem dX4_graph_168 : decode cX4_graph 168 = .ok (.goto (-52), 3) := by decide +kernel
theorem dX4_graph_171 : decode cX4_graph 171 = .ok (.aload_n 0, 1) := by decide +kernel
end
section
theorem dX4_graph_172 : decode cX4_graph 172 = .ok (.invokevirtual 126, 3) := by decide +kernel
theorem dX4_graph_175 : decode cX4_graph 175 = .ok (.istore_n 3, 1) := by decide +kernel
theorem dX4_graph_176 : decode cX4_graph 176 = .ok (.iload_n 3, 1) := by decide +kernel
theorem dX4_graph_177 : decode cX4_graph 177 = .ok (.ifCond .ge 24, 3) := by decide +kernel
theorem dX4_graph_180 : decode cX4_graph 180 = .ok (.aload_n 0, 1) := by decide +kernel
theorem dX4_graph_181 : decode cX4_graph 181 = .ok (.getfield 42, 3) := by decide +kernel
theorem dX4_graph_184 : decode cX4_graph 184 = .ok (.bipush 40, 2) := by decide +kernel
theorem dX4_graph_186 : decode cX4_graph 186 = .ok (.if_icmp .ne 15, 3) := by decide +kernel
theorem dX4_graph_189 : decode cX4_graph 189 = .ok (.aload_n 0, 1) := by decide +kernel
theorem dX4_graph_190 : decode cX4_graph 190 = .ok (.iconst (-1), 1) := by decide +kernel
theorem dX4_graph_191 : decode cX4_graph 191 = .ok (.putfield 42, 3) := by decide +kernel
theorem dX4_graph_194 : decode cX4_graph 194 = .ok (.aload_n 0, 1) := by decide +kernel
theorem dX4_graph_195 : decode cX4_graph 195 = .ok (.iconst 2, 1) := by decide +kernel
theorem dX4_graph_196 : decode cX4_graph 196 = .ok (.putfield 63, 3) := by decide +kernel
theorem dX4_graph_199 : decode cX4_graph 199 = .ok (.iconst 0, 1) := by decide +kernel
theorem dX4_graph_200 : decode cX4_graph 200 = .ok (.ireturn, 1) := by decide +kernel
theorem dX4_graph_201 : decode cX4_graph 201 = .ok (.iload_n 3, 1) := by decide +kernel
theorem dX4_graph_202 : decode cX4_graph 202 = .ok (.ifCond .ge 14, 3) := by decide +kernel
theorem dX4_graph_205 : decode cX4_graph 205 = .ok (.aload_n 0, 1) := by decide +kernel
theorem dX4_graph_206 : decode cX4_graph 206 = .ok (.getfield 42, 3) := by decide +kernel
theorem dX4_graph_209 : decode cX4_graph 209 = .ok (.istore_n 3, 1) := by decide +kernel
theorem dX4_graph_210 : decode cX4_graph 210 = .ok (.aload_n 0, 1) := by decide +kernel
theorem dX4_graph_211 : decode cX4_graph 211 = .ok (.iload_n 1, 1) := by decide +kernel
theorem dX4_graph_212 : decode cX4_graph 212 = .ok (.iload_n 2, 1) := by decide +kernel
theorem dX4_graph_213 : decode cX4_graph 213 = .ok (.invokevirtual 120, 3) := by decide +kernel
theorem dX4_graph_216 : decode cX4_graph 216 = .ok (.aload_n 0, 1) := by decide +kernel
theorem dX4_graph_217 : decode cX4_graph 217 = .ok (.getfield 48, 3) := by decide +kernel
theorem dX4_graph_220 : decode cX4_graph 220 = .ok (.bipush 8, 2) := by decide +kernel
theorem dX4_graph_222 : decode cX4_graph 222 = .ok (.iload_n 1, 1) := by decide +kernel
theorem dX4_graph_223 : decode cX4_graph 223 = .ok (.imul, 1) := by decide +kernel
theorem dX4_graph_224 : decode cX4_graph 224 = .ok (.iload_n 2, 1) := by decide +kernel
theorem dX4_graph_225 : decode cX4_graph 225 = .ok (.iadd, 1) := by decide +kernel
theorem dX4_graph_226 : decode cX4_graph 226 = .ok (.iload_n 3, 1) := by decide +kernel
theorem dX4_graph_227 : decode cX4_graph 227 = .ok (.iastore, 1) := by decide +kernel
theorem dX4_graph_228 : decode cX4_graph 228 = .ok (.iinc 2 1, 3) := by decide +kernel
theorem dX4_graph_231 : decode cX4_graph 231 = .ok (.goto (-146), 3) := by decide +kernel
theorem dX4_graph_234 : decode cX4_graph 234 = .ok (.iinc 1 1, 3) := by decide +kernel
theorem dX4_graph_237 : decode cX4_graph 237 = .ok (.goto (-162), 3) := by decide +kernel
theorem dX4_graph_240 : decode cX4_graph 240 = .ok (.aload_n 0, 1) := by decide +kernel
theorem dX4_graph_241 : decode cX4_graph 241 = .ok (.getfield 42, 3) := by decide +kernel
theorem dX4_graph_244 : decode cX4_graph 244 = .ok (.ireturn, 1) := by decide +kernel
theorem dX4_noState_0 : decode cX4_noState 0 = .ok (.aload_n 0, 1) := by decide +kernel
theorem dX4_noState_1 : decode cX4_noState 1 = .ok (.aload_n 0, 1) := by decide +kernel
theorem dX4_noState_2 : decode cX4_noState 2 = .ok (.getfield 42, 3) := by decide +kernel
theorem dX4_noState_5 : decode cX4_noState 5 = .ok (.ifCond .ge 7, 3) := by decide +kernel
theorem dX4_noState_8 : decode cX4_noState 8 = .ok (.iconst 1, 1) := by decide +kernel
theorem dX4_noState_9 : decode cX4_noState 9 = .ok (.goto 20, 3) := by decide +kernel
theorem dX4_noState_12 : decode cX4_noState 12 = .ok (.iload_n 1, 1) := by decide +kernel
theorem dX4_noState_13 : decode cX4_noState 13 = .ok (.ifCond .lt 11, 3) := by decide +kernel
theorem dX4_noState_16 : decode cX4_noState 16 = .ok (.iload_n 1, 1) := by decide +kernel
theorem dX4_noState_17 : decode cX4_noState 17 = .ok (.aload_n 0, 1) := by decide +kernel
theorem dX4_noState_18 : decode cX4_noState 18 = .ok (.getfield 42, 3) := by decide +kernel
theorem dX4_noState_21 : decode cX4_noState 21 = .ok (.if_icmp .lt 7, 3) := by decide +kernel
theorem dX4_noState_24 : decode cX4_noState 24 = .ok (.iconst 2, 1) := by decide +kernel
theorem dX4_noState_25 : decode cX4_noState 25 = .ok (.goto 4, 3) := by decide +kernel
theorem dX4_noState_28 : decode cX4_noState 28 = .ok (.iconst 0, 1) := by decide +kernel
theorem dX4_noState_29 : decode cX4_noState 29 = .ok (.putfield 63, 3) := by decide +kernel
theorem dX4_noState_32 : decode cX4_noState 32 = .ok (.aload_n 0, 1) := by decide +kernel
theorem dX4_noState_33 : decode cX4_noState 33 = .ok (.getfield 63, 3) := by decide +kernel
theorem dX4_noState_36 : decode cX4_noState 36 = .ok (.ifCond .le 7, 3) := by decide +kernel
theorem dX4_noState_39 : decode cX4_noState 39 = .ok (.iconst 1, 1) := by decide +kernel
theorem dX4_noState_40 : decode cX4_noState 40 = .ok (.goto 4, 3) := by decide +kernel
theorem dX4_noState_43 : decode cX4_noState 43 = .ok (.iconst 0, 1) := by decide +kernel
theorem dX4_noState_44 : decode cX4_noState 44 = .ok (.ireturn, 1) := by decide +kernel
theorem dX4_reached_0 : decode cX4_reached 0 = .ok (.aload_n 0, 1) := by decide +kernel
theorem dX4_reached_1 : decode cX4_reached 1 = .ok (.aload_n 0, 1) := by decide +kernel
theorem dX4_reached_2 : decode cX4_reached 2 = .ok (.getfield 42, 3) := by decide +kernel
theorem dX4_reached_5 : decode cX4_reached 5 = .ok (.ifCond .ge 7, 3) := by decide +kernel
theorem dX4_reached_8 : decode cX4_reached 8 = .ok (.iconst 1, 1) := by decide +kernel
theorem dX4_reached_9 : decode cX4_reached 9 = .ok (.goto 4, 3) := by decide +kernel
theorem dX4_reached_12 : decode cX4_reached 12 = .ok (.iconst 0, 1) := by decide +kernel
theorem dX4_reached_13 : decode cX4_reached 13 = .ok (.putfield 63, 3) := by decide +kernel
theorem dX4_reached_16 : decode cX4_reached 16 = .ok (.aload_n 0, 1) := by decide +kernel
theorem dX4_reached_17 : decode cX4_reached 17 = .ok (.getfield 63, 3) := by decide +kernel
theorem dX4_reached_20 : decode cX4_reached 20 = .ok (.ifCond .le 5, 3) := by decide +kernel
theorem dX4_reached_23 : decode cX4_reached 23 = .ok (.iconst 0, 1) := by decide +kernel
theorem dX4_reached_24 : decode cX4_reached 24 = .ok (.ireturn, 1) := by decide +kernel
theorem dX4_reached_25 : decode cX4_reached 25 = .ok (.iconst 0, 1) := by decide +kernel
theorem dX4_reached_26 : decode cX4_reached 26 = .ok (.istore_n 1, 1) := by decide +kernel
theorem dX4_reached_27 : decode cX4_reached 27 = .ok (.iload_n 1, 1) := by decide +kernel
theorem dX4_reached_28 : decode cX4_reached 28 = .ok (.aload_n 0, 1) := by decide +kernel
theorem dX4_reached_29 : decode cX4_reached 29 = .ok (.getfield 66, 3) := by decide +kernel
theorem dX4_reached_32 : decode cX4_reached 32 = .ok (.if_icmp .ge 21, 3) := by decide +kernel
theorem dX4_reached_35 : decode cX4_reached 35 = .ok (.aload_n 0, 1) := by decide +kernel
theorem dX4_reached_36 : decode cX4_reached 36 = .ok (.getfield 60, 3) := by decide +kernel
theorem dX4_reached_39 : decode cX4_reached 39 = .ok (.iload_n 1, 1) := by decide +kernel
theorem dX4_reached_40 : decode cX4_reached 40 = .ok (.aload_n 0, 1) := by decide +kernel
theorem dX4_reached_41 : decode cX4_reached 41 = .ok (.getfield 13, 3) := by decide +kernel
theorem dX4_reached_44 : decode cX4_reached 44 = .ok (.iload_n 1, 1) := by decide +kernel
theorem dX4_reached_45 : decode cX4_reached 45 = .ok (.iaload, 1) := by decide +kernel
theorem dX4_reached_46 : decode cX4_reached 46 = .ok (.iastore, 1) := by decide +kernel
theorem dX4_reached_47 : decode cX4_reached 47 = .ok (.iinc 1 1, 3) := by decide +kernel
theorem dX4_reached_50 : decode cX4_reached 50 = .ok (.goto (-23), 3) := by decide +kernel
theorem dX4_reached_53 : decode cX4_reached 53 = .ok (.aload_n 0, 1) := by decide +kernel
theorem dX4_reached_54 : decode cX4_reached 54 = .ok (.invokevirtual 126, 3) := by decide +kernel
theorem dX4_reached_57 : decode cX4_reached 57 = .ok (.istore_n 1, 1) := by decide +kernel
theorem dX4_reached_58 : decode cX4_reached 58 = .ok (.iload_n 1, 1) := by decide +kernel
theorem dX4_reached_59 : decode cX4_reached 59 = .ok (.ifCond .ge 8, 3) := by decide +kernel
theorem dX4_reached_62 : decode cX4_reached 62 = .ok (.bipush (-2), 2) := by decide +kernel
theorem dX4_reached_64 : decode cX4_reached 64 = .ok (.goto 4, 3) := by decide +kernel
theorem dX4_reached_67 : decode cX4_reached 67 = .ok (.iload_n 1, 1) := by decide +kernel
theorem dX4_reached_68 : decode cX4_reached 68 = .ok (.ireturn, 1) := by decide +kernel
theorem dX4_distance_0 : decode cX4_distance 0 = .ok (.aload_n 0, 1) := by decide +kernel
theorem dX4_distance_1 : decode cX4_distance 1 = .ok (.iload_n 1, 1) := by decide +kernel
theorem dX4_distance_2 : decode cX4_distance 2 = .ok (.invokevirtual 130, 3) := by decide +kernel
theorem dX4_distance_5 : decode cX4_distance 5 = .ok (.ifCond .eq 5, 3) := by decide +kernel
theorem dX4_distance_8 : decode cX4_distance 8 = .ok (.iconst 0, 1) := by decide +kernel
theorem dX4_distance_9 : decode cX4_distance 9 = .ok (.ireturn, 1) := by decide +kernel
theorem dX4_distance_10 : decode cX4_distance 10 = .ok (.iconst 0, 1) := by decide +kernel
theorem dX4_distance_11 : decode cX4_distance 11 = .ok (.istore_n 2, 1) := by decide +kernel
theorem dX4_distance_12 : decode cX4_distance 12 = .ok (.iload_n 1, 1) := by decide +kernel
theorem dX4_distance_13 : decode cX4_distance 13 = .ok (.istore_n 3, 1) := by decide +kernel
theorem dX4_distance_14 : decode cX4_distance 14 = .ok (.iload_n 3, 1) := by decide +kernel
theorem dX4_distance_15 : decode cX4_distance 15 = .ok (.ifCond .le 16, 3) := by decide +kernel
theorem dX4_distance_18 : decode cX4_distance 18 = .ok (.iinc 2 1, 3) := by decide +kernel
theorem dX4_distance_21 : decode cX4_distance 21 = .ok (.aload_n 0, 1) := by decide +kernel
theorem dX4_distance_22 : decode cX4_distance 22 = .ok (.getfield 51, 3) := by decide +kernel
theorem dX4_distance_25 : decode cX4_distance 25 = .ok (.iload_n 3, 1) := by decide +kernel
theorem dX4_distance_26 : decode cX4_distance 26 = .ok (.iaload, 1) := by decide +kernel
theorem dX4_distance_27 : decode cX4_distance 27 = .ok (.istore_n 3, 1) := by decide +kernel
theorem dX4_distance_28 : decode cX4_distance 28 = .ok (.goto (-14), 3) := by decide +kernel
theorem dX4_distance_31 : decode cX4_distance 31 = .ok (.iload_n 2, 1) := by decide +kernel
theorem dX4_distance_32 : decode cX4_distance 32 = .ok (.ireturn, 1) := by decide +kernel
theorem dX4_found_0 : decode cX4_found 0 = .ok (.aload_n 0, 1) := by decide +kernel
theorem dX4_found_1 : decode cX4_found 1 = .ok (.iload_n 1, 1) := by decide +kernel
theorem dX4_found_2 : decode cX4_found 2 = .ok (.invokevirtual 130, 3) := by decide +kernel
theorem dX4_found_5 : decode cX4_found 5 = .ok (.ifCond .eq 5, 3) := by decide +kernel
theorem dX4_found_8 : decode cX4_found 8 = .ok (.iconst 0, 1) := by decide +kernel
theorem dX4_found_9 : decode cX4_found 9 = .ok (.ireturn, 1) := by decide +kernel
theorem dX4_found_10 : decode cX4_found 10 = .ok (.iload_n 2, 1) := by decide +kernel
theorem dX4_found_11 : decode cX4_found 11 = .ok (.ifCond .eq 12, 3) := by decide +kernel
theorem dX4_found_14 : decode cX4_found 14 = .ok (.aload_n 0, 1) := by decide +kernel
theorem dX4_found_15 : decode cX4_found 15 = .ok (.getfield 51, 3) := by decide +kernel
theorem dX4_found_18 : decode cX4_found 18 = .ok (.iload_n 1, 1) := by decide +kernel
theorem dX4_found_19 : decode cX4_found 19 = .ok (.iaload, 1) := by decide +kernel
theorem dX4_found_20 : decode cX4_found 20 = .ok (.goto 9, 3) := by decide +kernel
theorem dX4_found_23 : decode cX4_found 23 = .ok (.aload_n 0, 1) := by decide +kernel
theorem dX4_found_24 : decode cX4_found 24 = .ok (.getfield 54, 3) := by decide +kernel
theorem dX4_found_27 : decode cX4_found 27 = .ok (.iload_n 1, 1) := by decide +kernel
theorem dX4_found_28 : decode cX4_found 28 = .ok (.iaload, 1) := by decide +kernel
theorem dX4_found_29 : decode cX4_found 29 = .ok (.ireturn, 1) := by decide +kernel
theorem dX4_stops_0 : decode cX4_stops 0 = .ok (.aload_n 0, 1) := by decide +kernel
theorem dX4_stops_1 : decode cX4_stops 1 = .ok (.aload_n 0, 1) := by decide +kernel
theorem dX4_stops_2 : decode cX4_stops 2 = .ok (.getfield 42, 3) := by decide +kernel
theorem dX4_stops_5 : decode cX4_stops 5 = .ok (.ifCond .ge 7, 3) := by decide +kernel
theorem dX4_stops_8 : decode cX4_stops 8 = .ok (.iconst 1, 1) := by decide +kernel
theorem dX4_stops_9 : decode cX4_stops 9 = .ok (.goto 4, 3) := by decide +kernel
theorem dX4_stops_12 : decode cX4_stops 12 = .ok (.iconst 0, 1) := by decide +kernel
theorem dX4_stops_13 : decode cX4_stops 13 = .ok (.putfield 63, 3) := by decide +kernel
theorem dX4_stops_16 : decode cX4_stops 16 = .ok (.iconst 0, 1) := by decide +kernel
theorem dX4_stops_17 : decode cX4_stops 17 = .ok (.istore_n 1, 1) := by decide +kernel
theorem dX4_stops_18 : decode cX4_stops 18 = .ok (.iconst 0, 1) := by decide +kernel
theorem dX4_stops_19 : decode cX4_stops 19 = .ok (.istore_n 2, 1) := by decide +kernel
theorem dX4_stops_20 : decode cX4_stops 20 = .ok (.iload_n 2, 1) := by decide +kernel
theorem dX4_stops_21 : decode cX4_stops 21 = .ok (.aload_n 0, 1) := by decide +kernel
theorem dX4_stops_22 : decode cX4_stops 22 = .ok (.getfield 42, 3) := by decide +kernel
theorem dX4_stops_25 : decode cX4_stops 25 = .ok (.if_icmp .ge 66, 3) := by decide +kernel
theorem dX4_stops_28 : decode cX4_stops 28 = .ok (.iconst 0, 1) := by decide +kernel
theorem dX4_stops_29 : decode cX4_stops 29 = .ok (.istore_n 3, 1) := by decide +kernel
theorem dX4_stops_30 : decode cX4_stops 30 = .ok (.iconst 0, 1) := by decide +kernel
theorem dX4_stops_31 : decode cX4_stops 31 = .ok (.istore 4, 2) := by decide +kernel
theorem dX4_stops_33 : decode cX4_stops 33 = .ok (.iload 4, 2) := by decide +kernel
theorem dX4_stops_35 : decode cX4_stops 35 = .ok (.aload_n 0, 1) := by decide +kernel
theorem dX4_stops_36 : decode cX4_stops 36 = .ok (.getfield 69, 3) := by decide +kernel
theorem dX4_stops_39 : decode cX4_stops 39 = .ok (.if_icmp .ge 34, 3) := by decide +kernel
theorem dX4_stops_42 : decode cX4_stops 42 = .ok (.iload_n 3, 1) := by decide +kernel
theorem dX4_stops_43 : decode cX4_stops 43 = .ok (.ifCond .ne 18, 3) := by decide +kernel
theorem dX4_stops_46 : decode cX4_stops 46 = .ok (.aload_n 0, 1) := by decide +kernel
theorem dX4_stops_47 : decode cX4_stops 47 = .ok (.getfield 48, 3) := by decide +kernel
theorem dX4_stops_50 : decode cX4_stops 50 = .ok (.bipush 8, 2) := by decide +kernel
theorem dX4_stops_52 : decode cX4_stops 52 = .ok (.iload_n 2, 1) := by decide +kernel
theorem dX4_stops_53 : decode cX4_stops 53 = .ok (.imul, 1) := by decide +kernel
theorem dX4_stops_54 : decode cX4_stops 54 = .ok (.iload 4, 2) := by decide +kernel
theorem dX4_stops_56 : decode cX4_stops 56 = .ok (.iadd, 1) := by decide +kernel
theorem dX4_stops_57 : decode cX4_stops 57 = .ok (.iaload, 1) := by decide +kernel
theorem dX4_stops_58 : decode cX4_stops 58 = .ok (.ifCond .lt 7, 3) := by decide +kernel
theorem dX4_stops_61 : decode cX4_stops 61 = .ok (.iconst 1, 1) := by decide +kernel
theorem dX4_stops_62 : decode cX4_stops 62 = .ok (.goto 4, 3) := by decide +kernel
theorem dX4_stops_65 : decode cX4_stops 65 = .ok (.iconst 0, 1) := by decide +kernel
theorem dX4_stops_66 : decode cX4_stops 66 = .ok (.istore_n 3, 1) := by decide +kernel
theorem dX4_stops_67 : decode cX4_stops 67 = .ok (.iinc 4 1, 3) := by decide +kernel
theorem dX4_stops_70 : decode cX4_stops 70 = .ok (.goto (-37), 3) := by decide +kernel
theorem dX4_stops_73 : decode cX4_stops 73 = .ok (.iload_n 3, 1) := by decide +kernel
theorem dX4_stops_74 : decode cX4_stops 74 = .ok (.ifCond .eq 7, 3) := by decide +kernel
theorem dX4_stops_77 : decode cX4_stops 77 = .ok (.iload_n 1, 1) := by decide +kernel
theorem dX4_stops_78 : decode cX4_stops 78 = .ok (.goto 6, 3) := by decide +kernel
theorem dX4_stops_81 : decode cX4_stops 81 = .ok (.iload_n 1, 1) := by decide +kernel
theorem dX4_stops_82 : decode cX4_stops 82 = .ok (.iconst 1, 1) := by decide +kernel
theorem dX4_stops_83 : decode cX4_stops 83 = .ok (.iadd, 1) := by decide +kernel
theorem dX4_stops_84 : decode cX4_stops 84 = .ok (.istore_n 1, 1) := by decide +kernel
theorem dX4_stops_85 : decode cX4_stops 85 = .ok (.iinc 2 1, 3) := by decide +kernel
theorem dX4_stops_88 : decode cX4_stops 88 = .ok (.goto (-68), 3) := by decide +kernel
theorem dX4_stops_91 : decode cX4_stops 91 = .ok (.iload_n 1, 1) := by decide +kernel
theorem dX4_stops_92 : decode cX4_stops 92 = .ok (.ireturn, 1) := by decide +kernel
theorem dX4_live_0 : decode cX4_live 0 = .ok (.aload_n 0, 1) := by decide +kernel
theorem dX4_live_1 : decode cX4_live 1 = .ok (.aload_n 0, 1) := by decide +kernel
theorem dX4_live_2 : decode cX4_live 2 = .ok (.getfield 42, 3) := by decide +kernel
theorem dX4_live_5 : decode cX4_live 5 = .ok (.ifCond .ge 7, 3) := by decide +kernel
theorem dX4_live_8 : decode cX4_live 8 = .ok (.iconst 1, 1) := by decide +kernel
theorem dX4_live_9 : decode cX4_live 9 = .ok (.goto 16, 3) := by decide +kernel
theorem dX4_live_12 : decode cX4_live 12 = .ok (.aload_n 0, 1) := by decide +kernel
theorem dX4_live_13 : decode cX4_live 13 = .ok (.iload_n 1, 1) := by decide +kernel
theorem dX4_live_14 : decode cX4_live 14 = .ok (.invokevirtual 79, 3) := by decide +kernel
theorem dX4_live_17 : decode cX4_live 17 = .ok (.ifCond .eq 7, 3) := by decide +kernel
theorem dX4_live_20 : decode cX4_live 20 = .ok (.iconst 2, 1) := by decide +kernel
theorem dX4_live_21 : decode cX4_live 21 = .ok (.goto 4, 3) := by decide +kernel
theorem dX4_live_24 : decode cX4_live 24 = .ok (.iconst 0, 1) := by decide +kernel
theorem dX4_live_25 : decode cX4_live 25 = .ok (.putfield 63, 3) := by decide +kernel
theorem dX4_live_28 : decode cX4_live 28 = .ok (.aload_n 0, 1) := by decide +kernel
theorem dX4_live_29 : decode cX4_live 29 = .ok (.getfield 63, 3) := by decide +kernel
theorem dX4_live_32 : decode cX4_live 32 = .ok (.ifCond .le 5, 3) := by decide +kernel
theorem dX4_live_35 : decode cX4_live 35 = .ok (.iconst 0, 1) := by decide +kernel
theorem dX4_live_36 : decode cX4_live 36 = .ok (.ireturn, 1) := by decide +kernel
theorem dX4_live_37 : decode cX4_live 37 = .ok (.iconst 0, 1) := by decide +kernel
theorem dX4_live_38 : decode cX4_live 38 = .ok (.istore_n 2, 1) := by decide +kernel
theorem dX4_live_39 : decode cX4_live 39 = .ok (.iload_n 2, 1) := by decide +kernel
theorem dX4_live_40 : decode cX4_live 40 = .ok (.aload_n 0, 1) := by decide +kernel
theorem dX4_live_41 : decode cX4_live 41 = .ok (.getfield 42, 3) := by decide +kernel
theorem dX4_live_44 : decode cX4_live 44 = .ok (.if_icmp .ge 34, 3) := by decide +kernel
theorem dX4_live_47 : decode cX4_live 47 = .ok (.aload_n 0, 1) := by decide +kernel
theorem dX4_live_48 : decode cX4_live 48 = .ok (.getfield 57, 3) := by decide +kernel
theorem dX4_live_51 : decode cX4_live 51 = .ok (.iload_n 2, 1) := by decide +kernel
theorem dX4_live_52 : decode cX4_live 52 = .ok (.aload_n 0, 1) := by decide +kernel
theorem dX4_live_53 : decode cX4_live 53 = .ok (.getfield 48, 3) := by decide +kernel
theorem dX4_live_56 : decode cX4_live 56 = .ok (.bipush 8, 2) := by decide +kernel
theorem dX4_live_58 : decode cX4_live 58 = .ok (.iload_n 2, 1) := by decide +kernel
theorem dX4_live_59 : decode cX4_live 59 = .ok (.imul, 1) := by decide +kernel
theorem dX4_live_60 : decode cX4_live 60 = .ok (.iload_n 1, 1) := by decide +kernel
theorem dX4_live_61 : decode cX4_live 61 = .ok (.iadd, 1) := by decide +kernel
theorem dX4_live_62 : decode cX4_live 62 = .ok (.iaload, 1) := by decide +kernel
theorem dX4_live_63 : decode cX4_live 63 = .ok (.ifCond .lt 7, 3) := by decide +kernel
theorem dX4_live_66 : decode cX4_live 66 = .ok (.iconst 1, 1) := by decide +kernel
theorem dX4_live_67 : decode cX4_live 67 = .ok (.goto 4, 3) := by decide +kernel
theorem dX4_live_70 : decode cX4_live 70 = .ok (.iconst 0, 1) := by decide +kernel
theorem dX4_live_71 : decode cX4_live 71 = .ok (.bastore, 1) := by decide +kernel
theorem dX4_live_72 : decode cX4_live 72 = .ok (.iinc 2 1, 3) := by decide +kernel
theorem dX4_live_75 : decode cX4_live 75 = .ok (.goto (-36), 3) := by decide +kernel
theorem dX4_live_78 : decode cX4_live 78 = .ok (.iconst 1, 1) := by decide +kernel
theorem dX4_live_79 : decode cX4_live 79 = .ok (.istore_n 2, 1) := by decide +kernel
theorem dX4_live_80 : decode cX4_live 80 = .ok (.iload_n 2, 1) := by decide +kernel
theorem dX4_live_81 : decode cX4_live 81 = .ok (.ifCond .eq 90, 3) := by decide +kernel
theorem dX4_live_84 : decode cX4_live 84 = .ok (.iconst 0, 1) := by decide +kernel
theorem dX4_live_85 : decode cX4_live 85 = .ok (.istore_n 2, 1) := by decide +kernel
theorem dX4_live_86 : decode cX4_live 86 = .ok (.aload_n 0, 1) := by decide +kernel
theorem dX4_live_87 : decode cX4_live 87 = .ok (.getfield 42, 3) := by decide +kernel
theorem dX4_live_90 : decode cX4_live 90 = .ok (.iconst 1, 1) := by decide +kernel
theorem dX4_live_91 : decode cX4_live 91 = .ok (.isub, 1) := by decide +kernel
theorem dX4_live_92 : decode cX4_live 92 = .ok (.istore_n 3, 1) := by decide +kernel
theorem dX4_live_93 : decode cX4_live 93 = .ok (.iload_n 3, 1) := by decide +kernel
theorem dX4_live_94 : decode cX4_live 94 = .ok (.ifCond .lt 74, 3) := by decide +kernel
theorem dX4_live_97 : decode cX4_live 97 = .ok (.iconst 0, 1) := by decide +kernel
theorem dX4_live_98 : decode cX4_live 98 = .ok (.istore 4, 2) := by decide +kernel
theorem dX4_live_100 : decode cX4_live 100 = .ok (.iload 4, 2) := by decide +kernel
theorem dX4_live_102 : decode cX4_live 102 = .ok (.aload_n 0, 1) := by decide +kernel
theorem dX4_live_103 : decode cX4_live 103 = .ok (.getfield 69, 3) := by decide +kernel
theorem dX4_live_106 : decode cX4_live 106 = .ok (.if_icmp .ge 56, 3) := by decide +kernel
theorem dX4_live_109 : decode cX4_live 109 = .ok (.aload_n 0, 1) := by decide +kernel
theorem dX4_live_110 : decode cX4_live 110 = .ok (.getfield 57, 3) := by decide +kernel
theorem dX4_live_113 : decode cX4_live 113 = .ok (.iload_n 3, 1) := by decide +kernel
theorem dX4_live_114 : decode cX4_live 114 = .ok (.baload, 1) := by decide +kernel
theorem dX4_live_115 : decode cX4_live 115 = .ok (.ifCond .ne 47, 3) := by decide +kernel
theorem dX4_live_118 : decode cX4_live 118 = .ok (.aload_n 0, 1) := by decide +kernel
theorem dX4_live_119 : decode cX4_live 119 = .ok (.getfield 48, 3) := by decide +kernel
theorem dX4_live_122 : decode cX4_live 122 = .ok (.bipush 8, 2) := by decide +kernel
theorem dX4_live_124 : decode cX4_live 124 = .ok (.iload_n 3, 1) := by decide +kernel
theorem dX4_live_125 : decode cX4_live 125 = .ok (.imul, 1) := by decide +kernel
theorem dX4_live_126 : decode cX4_live 126 = .ok (.iload 4, 2) := by decide +kernel
theorem dX4_live_128 : decode cX4_live 128 = .ok (.iadd, 1) := by decide +kernel
theorem dX4_live_129 : decode cX4_live 129 = .ok (.iaload, 1) := by decide +kernel
theorem dX4_live_130 : decode cX4_live 130 = .ok (.istore 5, 2) := by decide +kernel
theorem dX4_live_132 : decode cX4_live 132 = .ok (.iload 5, 2) := by decide +kernel
theorem dX4_live_134 : decode cX4_live 134 = .ok (.ifCond .lt 22, 3) := by decide +kernel
theorem dX4_live_137 : decode cX4_live 137 = .ok (.aload_n 0, 1) := by decide +kernel
theorem dX4_live_138 : decode cX4_live 138 = .ok (.getfield 57, 3) := by decide +kernel
theorem dX4_live_141 : decode cX4_live 141 = .ok (.iload 5, 2) := by decide +kernel
theorem dX4_live_143 : decode cX4_live 143 = .ok (.baload, 1) := by decide +kernel
theorem dX4_live_144 : decode cX4_live 144 = .ok (.ifCond .eq 12, 3) := by decide +kernel
theorem dX4_live_147 : decode cX4_live 147 = .ok (.aload_n 0, 1) := by decide +kernel
theorem dX4_live_148 : decode cX4_live 148 = .ok (.getfield 57, 3) := by decide +kernel
theorem dX4_live_151 : decode cX4_live 151 = .ok (.iload_n 3, 1) := by decide +kernel
theorem dX4_live_152 : decode cX4_live 152 = .ok (.iconst 1, 1) := by decide +kernel
theorem dX4_live_153 : decode cX4_live 153 = .ok (.bastore, 1) := by decide +kernel
theorem dX4_live_154 : decode cX4_live 154 = .ok (.iconst 1, 1) := by decide +kernel
theorem dX4_live_155 : decode cX4_live 155 = .ok (.istore_n 2, 1) := by decide +kernel
theorem dX4_live_156 : decode cX4_live 156 = .ok (.iinc 4 1, 3) := by decide +kernel
theorem dX4_live_159 : decode cX4_live 159 = .ok (.goto (-59), 3) := by decide +kernel
theorem dX4_live_162 : decode cX4_live 162 = .ok (.iinc 3 (-1), 3) := by decide +kernel
theorem dX4_live_165 : decode cX4_live 165 = .ok (.goto (-72), 3) := by decide +kernel
theorem dX4_live_168 : decode cX4_live 168 = .ok (.goto (-88), 3) := by decide +kernel
theorem dX4_live_171 : decode cX4_live 171 = .ok (.iconst 1, 1) := by decide +kernel
theorem dX4_live_172 : decode cX4_live 172 = .ok (.istore_n 3, 1) := by decide +kernel
theorem dX4_live_173 : decode cX4_live 173 = .ok (.iconst 0, 1) := by decide +kernel
theorem dX4_live_174 : decode cX4_live 174 = .ok (.istore 4, 2) := by decide +kernel
theorem dX4_live_176 : decode cX4_live 176 = .ok (.iload 4, 2) := by decide +kernel
theorem dX4_live_178 : decode cX4_live 178 = .ok (.aload_n 0, 1) := by decide +kernel
theorem dX4_live_179 : decode cX4_live 179 = .ok (.getfield 42, 3) := by decide +kernel
theorem dX4_live_182 : decode cX4_live 182 = .ok (.if_icmp .ge 29, 3) := by decide +kernel
theorem dX4_live_185 : decode cX4_live 185 = .ok (.iload_n 3, 1) := by decide +kernel
theorem dX4_live_186 : decode cX4_live 186 = .ok (.ifCond .eq 17, 3) := by decide +kernel
theorem dX4_live_189 : decode cX4_live 189 = .ok (.aload_n 0, 1) := by decide +kernel
theorem dX4_live_190 : decode cX4_live 190 = .ok (.getfield 57, 3) := by decide +kernel
theorem dX4_live_193 : decode cX4_live 193 = .ok (.iload 4, 2) := by decide +kernel
theorem dX4_live_195 : decode cX4_live 195 = .ok (.baload, 1) := by decide +kernel
theorem dX4_live_196 : decode cX4_live 196 = .ok (.ifCond .eq 7, 3) := by decide +kernel
theorem dX4_live_199 : decode cX4_live 199 = .ok (.iconst 1, 1) := by decide +kernel
theorem dX4_live_200 : decode cX4_live 200 = .ok (.goto 4, 3) := by decide +kernel
theorem dX4_live_203 : decode cX4_live 203 = .ok (.iconst 0, 1) := by decide +kernel
theorem dX4_live_204 : decode cX4_live 204 = .ok (.istore_n 3, 1) := by decide +kernel
theorem dX4_live_205 : decode cX4_live 205 = .ok (.iinc 4 1, 3) := by decide +kernel
theorem dX4_live_208 : decode cX4_live 208 = .ok (.goto (-32), 3) := by decide +kernel
theorem dX4_live_211 : decode cX4_live 211 = .ok (.iload_n 3, 1) := by decide +kernel
theorem dX4_live_212 : decode cX4_live 212 = .ok (.ireturn, 1) := by decide +kernel
theorem dL_place_0 : decode cL_place 0 = .ok (.aload_n 2, 1) := by decide +kernel
theorem dL_place_1 : decode cL_place 1 = .ok (.iconst 0, 1) := by decide +kernel
theorem dL_place_2 : decode cL_place 2 = .ok (.aload_n 0, 1) := by decide +kernel
theorem dL_place_3 : decode cL_place 3 = .ok (.iload_n 1, 1) := by decide +kernel
theorem dL_place_4 : decode cL_place 4 = .ok (.invokevirtual 7, 3) := by decide +kernel
theorem dL_place_7 : decode cL_place 7 = .ok (.i2l, 1) := by decide +kernel
theorem dL_place_8 : decode cL_place 8 = .ok (.lastore, 1) := by decide +kernel
theorem dL_place_9 : decode cL_place 9 = .ok (.goto 9, 3) := by decide +kernel
theorem dL_place_12 : decode cL_place 12 = .ok (.astore_n 3, 1) := by decide +kernel
theorem dL_place_13 : decode cL_place 13 = .ok (.iconst 1, 1) := by decide +kernel
theorem dL_place_14 : decode cL_place 14 = .ok (.ireturn, 1) := by decide +kernel
theorem dL_place_15 : decode cL_place 15 = .ok (.astore_n 3, 1) := by decide +kernel
theorem dL_place_16 : decode cL_place 16 = .ok (.iconst 2, 1) := by decide +kernel
theorem dL_place_17 : decode cL_place 17 = .ok (.ireturn, 1) := by decide +kernel
theorem dL_place_18 : decode cL_place 18 = .ok (.iconst 0, 1) := by decide +kernel
theorem dL_place_19 : decode cL_place 19 = .ok (.ireturn, 1) := by decide +kernel
theorem dL_transition_0 : decode cL_transition 0 = .ok (.aload_n 1, 1) := by decide +kernel
theorem dL_transition_1 : decode cL_transition 1 = .ok (.iconst 0, 1) := by decide +kernel
theorem dL_transition_2 : decode cL_transition 2 = .ok (.aload_n 0, 1) := by decide +kernel
theorem dL_transition_3 : decode cL_transition 3 = .ok (.invokevirtual 17, 3) := by decide +kernel
theorem dL_transition_6 : decode cL_transition 6 = .ok (.i2l, 1) := by decide +kernel
theorem dL_transition_7 : decode cL_transition 7 = .ok (.lastore, 1) := by decide +kernel
theorem dL_transition_8 : decode cL_transition 8 = .ok (.goto 6, 3) := by decide +kernel
theorem dL_transition_11 : decode cL_transition 11 = .ok (.astore_n 2, 1) := by decide +kernel
theorem dL_transition_12 : decode cL_transition 12 = .ok (.iconst 1, 1) := by decide +kernel
theorem dL_transition_13 : decode cL_transition 13 = .ok (.ireturn, 1) := by decide +kernel
theorem dL_transition_14 : decode cL_transition 14 = .ok (.iconst 0, 1) := by decide +kernel
theorem dL_transition_15 : decode cL_transition 15 = .ok (.ireturn, 1) := by decide +kernel
theorem dL_arc_0 : decode cL_arc 0 = .ok (.aload 5, 2) := by decide +kernel
theorem dL_arc_2 : decode cL_arc 2 = .ok (.iconst 0, 1) := by decide +kernel
theorem dL_arc_3 : decode cL_arc 3 = .ok (.aload_n 0, 1) := by decide +kernel
theorem dL_arc_4 : decode cL_arc 4 = .ok (.iload_n 1, 1) := by decide +kernel
theorem dL_arc_5 : decode cL_arc 5 = .ok (.iload_n 2, 1) := by decide +kernel
theorem dL_arc_6 : decode cL_arc 6 = .ok (.iload_n 3, 1) := by decide +kernel
theorem dL_arc_7 : decode cL_arc 7 = .ok (.iload 4, 2) := by decide +kernel
theorem dL_arc_9 : decode cL_arc 9 = .ok (.invokevirtual 21, 3) := by decide +kernel
theorem dL_arc_12 : decode cL_arc 12 = .ok (.i2l, 1) := by decide +kernel
theorem dL_arc_13 : decode cL_arc 13 = .ok (.lastore, 1) := by decide +kernel
theorem dL_arc_14 : decode cL_arc 14 = .ok (.goto 11, 3) := by decide +kernel
theorem dL_arc_17 : decode cL_arc 17 = .ok (.astore 6, 2) := by decide +kernel
theorem dL_arc_19 : decode cL_arc 19 = .ok (.iconst 1, 1) := by decide +kernel
theorem dL_arc_20 : decode cL_arc 20 = .ok (.ireturn, 1) := by decide +kernel
theorem dL_arc_21 : decode cL_arc 21 = .ok (.astore 6, 2) := by decide +kernel
theorem dL_arc_23 : decode cL_arc 23 = .ok (.iconst 2, 1) := by decide +kernel
theorem dL_arc_24 : decode cL_arc 24 = .ok (.ireturn, 1) := by decide +kernel
theorem dL_arc_25 : decode cL_arc 25 = .ok (.iconst 0, 1) := by decide +kernel
theorem dL_arc_26 : decode cL_arc 26 = .ok (.ireturn, 1) := by decide +kernel
theorem dL_tokens_0 : decode cL_tokens 0 = .ok (.aload_n 0, 1) := by decide +kernel
theorem dL_tokens_1 : decode cL_tokens 1 = .ok (.iload_n 1, 1) := by decide +kernel
theorem dL_tokens_2 : decode cL_tokens 2 = .ok (.iload_n 2, 1) := by decide +kernel
theorem dL_tokens_3 : decode cL_tokens 3 = .ok (.invokevirtual 27, 3) := by decide +kernel
theorem dL_tokens_6 : decode cL_tokens 6 = .ok (.goto 9, 3) := by decide +kernel
theorem dL_tokens_9 : decode cL_tokens 9 = .ok (.astore_n 3, 1) := by decide +kernel
theorem dL_tokens_10 : decode cL_tokens 10 = .ok (.iconst 1, 1) := by decide +kernel
theorem dL_tokens_11 : decode cL_tokens 11 = .ok (.ireturn, 1) := by decide +kernel
theorem dL_tokens_12 : decode cL_tokens 12 = .ok (.astore_n 3, 1) := by decide +kernel
theorem dL_tokens_13 : decode cL_tokens 13 = .ok (.iconst 2, 1) := by decide +kernel
theorem dL_tokens_14 : decode cL_tokens 14 = .ok (.ireturn, 1) := by decide +kernel
theorem dL_tokens_15 : decode cL_tokens 15 = .ok (.iconst 0, 1) := by decide +kernel
theorem dL_tokens_16 : decode cL_tokens 16 = .ok (.ireturn, 1) := by decide +kernel
theorem dL_explore_0 : decode cL_explore 0 = .ok (.aload_n 1, 1) := by decide +kernel
theorem dL_explore_1 : decode cL_explore 1 = .ok (.iconst 0, 1) := by decide +kernel
theorem dL_explore_2 : decode cL_explore 2 = .ok (.aload_n 0, 1) := by decide +kernel
theorem dL_explore_3 : decode cL_explore 3 = .ok (.invokevirtual 31, 3) := by decide +kernel
theorem dL_explore_6 : decode cL_explore 6 = .ok (.i2l, 1) := by decide +kernel
theorem dL_explore_7 : decode cL_explore 7 = .ok (.lastore, 1) := by decide +kernel
theorem dL_explore_8 : decode cL_explore 8 = .ok (.goto 6, 3) := by decide +kernel
theorem dL_explore_11 : decode cL_explore 11 = .ok (.astore_n 2, 1) := by decide +kernel
theorem dL_explore_12 : decode cL_explore 12 = .ok (.iconst 1, 1) := by decide +kernel
theorem dL_explore_13 : decode cL_explore 13 = .ok (.ireturn, 1) := by decide +kernel
theorem dL_explore_14 : decode cL_explore 14 = .ok (.iconst 0, 1) := by decide +kernel
theorem dL_explore_15 : decode cL_explore 15 = .ok (.ireturn, 1) := by decide +kernel
theorem dL_count_0 : decode cL_count 0 = .ok (.aload_n 3, 1) := by decide +kernel
theorem dL_count_1 : decode cL_count 1 = .ok (.iconst 0, 1) := by decide +kernel
theorem dL_count_2 : decode cL_count 2 = .ok (.aload_n 0, 1) := by decide +kernel
theorem dL_count_3 : decode cL_count 3 = .ok (.iload_n 1, 1) := by decide +kernel
theorem dL_count_4 : decode cL_count 4 = .ok (.iload_n 2, 1) := by decide +kernel
theorem dL_count_5 : decode cL_count 5 = .ok (.invokevirtual 36, 3) := by decide +kernel
theorem dL_count_8 : decode cL_count 8 = .ok (.i2l, 1) := by decide +kernel
theorem dL_count_9 : decode cL_count 9 = .ok (.lastore, 1) := by decide +kernel
theorem dL_count_10 : decode cL_count 10 = .ok (.goto 11, 3) := by decide +kernel
theorem dL_count_13 : decode cL_count 13 = .ok (.astore 4, 2) := by decide +kernel
theorem dL_count_15 : decode cL_count 15 = .ok (.iconst 1, 1) := by decide +kernel
theorem dL_count_16 : decode cL_count 16 = .ok (.ireturn, 1) := by decide +kernel
theorem dL_count_17 : decode cL_count 17 = .ok (.astore 4, 2) := by decide +kernel
theorem dL_count_19 : decode cL_count 19 = .ok (.iconst 2, 1) := by decide +kernel
theorem dL_count_20 : decode cL_count 20 = .ok (.ireturn, 1) := by decide +kernel
theorem dL_count_21 : decode cL_count 21 = .ok (.iconst 0, 1) := by decide +kernel
theorem dL_count_22 : decode cL_count 22 = .ok (.ireturn, 1) := by decide +kernel
theorem dL_node_0 : decode cL_node 0 = .ok (.aload_n 3, 1) := by decide +kernel
theorem dL_node_1 : decode cL_node 1 = .ok (.iconst 0, 1) := by decide +kernel
theorem dL_node_2 : decode cL_node 2 = .ok (.aload_n 0, 1) := by decide +kernel
theorem dL_node_3 : decode cL_node 3 = .ok (.iload_n 1, 1) := by decide +kernel
theorem dL_node_4 : decode cL_node 4 = .ok (.iload_n 2, 1) := by decide +kernel
theorem dL_node_5 : decode cL_node 5 = .ok (.invokevirtual 40, 3) := by decide +kernel
theorem dL_node_8 : decode cL_node 8 = .ok (.i2l, 1) := by decide +kernel
theorem dL_node_9 : decode cL_node 9 = .ok (.lastore, 1) := by decide +kernel
theorem dL_node_10 : decode cL_node 10 = .ok (.goto 11, 3) := by decide +kernel
theorem dL_node_13 : decode cL_node 13 = .ok (.astore 4, 2) := by decide +kernel
theorem dL_node_15 : decode cL_node 15 = .ok (.iconst 1, 1) := by decide +kernel
theorem dL_node_16 : decode cL_node 16 = .ok (.ireturn, 1) := by decide +kernel
theorem dL_node_17 : decode cL_node 17 = .ok (.astore 4, 2) := by decide +kernel
theorem dL_node_19 : decode cL_node 19 = .ok (.iconst 2, 1) := by decide +kernel
theorem dL_node_20 : decode cL_node 20 = .ok (.ireturn, 1) := by decide +kernel
theorem dL_node_21 : decode cL_node 21 = .ok (.iconst 0, 1) := by decide +kernel
theorem dL_node_22 : decode cL_node 22 = .ok (.ireturn, 1) := by decide +kernel
theorem dL_bound_0 : decode cL_bound 0 = .ok (.aload_n 2, 1) := by decide +kernel
theorem dL_bound_1 : decode cL_bound 1 = .ok (.iconst 0, 1) := by decide +kernel
theorem dL_bound_2 : decode cL_bound 2 = .ok (.aload_n 0, 1) := by decide +kernel
theorem dL_bound_3 : decode cL_bound 3 = .ok (.iload_n 1, 1) := by decide +kernel
theorem dL_bound_4 : decode cL_bound 4 = .ok (.invokevirtual 43, 3) := by decide +kernel
theorem dL_bound_7 : decode cL_bound 7 = .ok (.i2l, 1) := by decide +kernel
theorem dL_bound_8 : decode cL_bound 8 = .ok (.lastore, 1) := by decide +kernel
theorem dL_bound_9 : decode cL_bound 9 = .ok (.goto 9, 3) := by decide +kernel
theorem dL_bound_12 : decode cL_bound 12 = .ok (.astore_n 3, 1) := by decide +kernel
theorem dL_bound_13 : decode cL_bound 13 = .ok (.iconst 1, 1) := by decide +kernel
theorem dL_bound_14 : decode cL_bound 14 = .ok (.ireturn, 1) := by decide +kernel
theorem dL_bound_15 : decode cL_bound 15 = .ok (.astore_n 3, 1) := by decide +kernel
theorem dL_bound_16 : decode cL_bound 16 = .ok (.iconst 2, 1) := by decide +kernel
theorem dL_bound_17 : decode cL_bound 17 = .ok (.ireturn, 1) := by decide +kernel
theorem dL_bound_18 : decode cL_bound 18 = .ok (.iconst 0, 1) := by decide +kernel
theorem dL_bound_19 : decode cL_bound 19 = .ok (.ireturn, 1) := by decide +kernel
theorem dL_want_0 : decode cL_want 0 = .ok (.aload_n 0, 1) := by decide +kernel
theorem dL_want_1 : decode cL_want 1 = .ok (.iload_n 1, 1) := by decide +kernel
theorem dL_want_2 : decode cL_want 2 = .ok (.iload_n 2, 1) := by decide +kernel
theorem dL_want_3 : decode cL_want 3 = .ok (.invokevirtual 46, 3) := by decide +kernel
theorem dL_want_6 : decode cL_want 6 = .ok (.goto 9, 3) := by decide +kernel
theorem dL_want_9 : decode cL_want 9 = .ok (.astore_n 3, 1) := by decide +kernel
theorem dL_want_10 : decode cL_want 10 = .ok (.iconst 1, 1) := by decide +kernel
theorem dL_want_11 : decode cL_want 11 = .ok (.ireturn, 1) := by decide +kernel
theorem dL_want_12 : decode cL_want 12 = .ok (.astore_n 3, 1) := by decide +kernel
theorem dL_want_13 : decode cL_want 13 = .ok (.iconst 2, 1) := by decide +kernel
theorem dL_want_14 : decode cL_want 14 = .ok (.ireturn, 1) := by decide +kernel
theorem dL_want_15 : decode cL_want 15 = .ok (.iconst 0, 1) := by decide +kernel
theorem dL_want_16 : decode cL_want 16 = .ok (.ireturn, 1) := by decide +kernel
theorem dL_covered_0 : decode cL_covered 0 = .ok (.aload_n 1, 1) := by decide +kernel
theorem dL_covered_1 : decode cL_covered 1 = .ok (.iconst 0, 1) := by decide +kernel
theorem dL_covered_2 : decode cL_covered 2 = .ok (.aload_n 0, 1) := by decide +kernel
theorem dL_covered_3 : decode cL_covered 3 = .ok (.invokevirtual 49, 3) := by decide +kernel
theorem dL_covered_6 : decode cL_covered 6 = .ok (.ifCond .eq 7, 3) := by decide +kernel
theorem dL_covered_9 : decode cL_covered 9 = .ok (.lconst 1, 1) := by decide +kernel
theorem dL_covered_10 : decode cL_covered 10 = .ok (.goto 4, 3) := by decide +kernel
theorem dL_covered_13 : decode cL_covered 13 = .ok (.lconst 0, 1) := by decide +kernel
theorem dL_covered_14 : decode cL_covered 14 = .ok (.lastore, 1) := by decide +kernel
theorem dL_covered_15 : decode cL_covered 15 = .ok (.goto 6, 3) := by decide +kernel
theorem dL_covered_18 : decode cL_covered 18 = .ok (.astore_n 2, 1) := by decide +kernel
theorem dL_covered_19 : decode cL_covered 19 = .ok (.iconst 1, 1) := by decide +kernel
theorem dL_covered_20 : decode cL_covered 20 = .ok (.ireturn, 1) := by decide +kernel
theorem dL_covered_21 : decode cL_covered 21 = .ok (.iconst 0, 1) := by decide +kernel
theorem dL_covered_22 : decode cL_covered 22 = .ok (.ireturn, 1) := by decide +kernel
theorem dL_possible_0 : decode cL_possible 0 = .ok (.aload_n 2, 1) := by decide +kernel
theorem dL_possible_1 : decode cL_possible 1 = .ok (.iconst 0, 1) := by decide +kernel
theorem dL_possible_2 : decode cL_possible 2 = .ok (.aload_n 0, 1) := by decide +kernel
theorem dL_possible_3 : decode cL_possible 3 = .ok (.iload_n 1, 1) := by decide +kernel
theorem dL_possible_4 : decode cL_possible 4 = .ok (.invokevirtual 53, 3) := by decide +kernel
theorem dL_possible_7 : decode cL_possible 7 = .ok (.ifCond .eq 7, 3) := by decide +kernel
theorem dL_possible_10 : decode cL_possible 10 = .ok (.lconst 1, 1) := by decide +kernel
theorem dL_possible_11 : decode cL_possible 11 = .ok (.goto 4, 3) := by decide +kernel
theorem dL_possible_14 : decode cL_possible 14 = .ok (.lconst 0, 1) := by decide +kernel
theorem dL_possible_15 : decode cL_possible 15 = .ok (.lastore, 1) := by decide +kernel
theorem dL_possible_16 : decode cL_possible 16 = .ok (.goto 9, 3) := by decide +kernel
theorem dL_possible_19 : decode cL_possible 19 = .ok (.astore_n 3, 1) := by decide +kernel
theorem dL_possible_20 : decode cL_possible 20 = .ok (.iconst 1, 1) := by decide +kernel
theorem dL_possible_21 : decode cL_possible 21 = .ok (.ireturn, 1) := by decide +kernel
theorem dL_possible_22 : decode cL_possible 22 = .ok (.astore_n 3, 1) := by decide +kernel
theorem dL_possible_23 : decode cL_possible 23 = .ok (.iconst 2, 1) := by decide +kernel
theorem dL_possible_24 : decode cL_possible 24 = .ok (.ireturn, 1) := by decide +kernel
theorem dL_possible_25 : decode cL_possible 25 = .ok (.iconst 0, 1) := by decide +kernel
theorem dL_possible_26 : decode cL_possible 26 = .ok (.ireturn, 1) := by decide +kernel
theorem dL_growth_0 : decode cL_growth 0 = .ok (.aload_n 2, 1) := by decide +kernel
theorem dL_growth_1 : decode cL_growth 1 = .ok (.iconst 0, 1) := by decide +kernel
theorem dL_growth_2 : decode cL_growth 2 = .ok (.aload_n 0, 1) := by decide +kernel
theorem dL_growth_3 : decode cL_growth 3 = .ok (.iload_n 1, 1) := by decide +kernel
theorem dL_growth_4 : decode cL_growth 4 = .ok (.invokevirtual 57, 3) := by decide +kernel
theorem dL_growth_7 : decode cL_growth 7 = .ok (.i2l, 1) := by decide +kernel
theorem dL_growth_8 : decode cL_growth 8 = .ok (.lastore, 1) := by decide +kernel
theorem dL_growth_9 : decode cL_growth 9 = .ok (.goto 9, 3) := by decide +kernel
theorem dL_growth_12 : decode cL_growth 12 = .ok (.astore_n 3, 1) := by decide +kernel
theorem dL_growth_13 : decode cL_growth 13 = .ok (.iconst 1, 1) := by decide +kernel
theorem dL_growth_14 : decode cL_growth 14 = .ok (.ireturn, 1) := by decide +kernel
theorem dL_growth_15 : decode cL_growth 15 = .ok (.astore_n 3, 1) := by decide +kernel
theorem dL_growth_16 : decode cL_growth 16 = .ok (.iconst 2, 1) := by decide +kernel
theorem dL_growth_17 : decode cL_growth 17 = .ok (.ireturn, 1) := by decide +kernel
theorem dL_growth_18 : decode cL_growth 18 = .ok (.iconst 0, 1) := by decide +kernel
theorem dL_growth_19 : decode cL_growth 19 = .ok (.ireturn, 1) := by decide +kernel
theorem dL_graph_0 : decode cL_graph 0 = .ok (.aload_n 1, 1) := by decide +kernel
theorem dL_graph_1 : decode cL_graph 1 = .ok (.iconst 0, 1) := by decide +kernel
theorem dL_graph_2 : decode cL_graph 2 = .ok (.aload_n 0, 1) := by decide +kernel
theorem dL_graph_3 : decode cL_graph 3 = .ok (.invokevirtual 60, 3) := by decide +kernel
theorem dL_graph_6 : decode cL_graph 6 = .ok (.i2l, 1) := by decide +kernel
theorem dL_graph_7 : decode cL_graph 7 = .ok (.lastore, 1) := by decide +kernel
theorem dL_graph_8 : decode cL_graph 8 = .ok (.goto 9, 3) := by decide +kernel
theorem dL_graph_11 : decode cL_graph 11 = .ok (.astore_n 2, 1) := by decide +kernel
theorem dL_graph_12 : decode cL_graph 12 = .ok (.iconst 1, 1) := by decide +kernel
theorem dL_graph_13 : decode cL_graph 13 = .ok (.ireturn, 1) := by decide +kernel
theorem dL_graph_14 : decode cL_graph 14 = .ok (.astore_n 2, 1) := by decide +kernel
theorem dL_graph_15 : decode cL_graph 15 = .ok (.iconst 2, 1) := by decide +kernel
theorem dL_graph_16 : decode cL_graph 16 = .ok (.ireturn, 1) := by decide +kernel
theorem dL_graph_17 : decode cL_graph 17 = .ok (.iconst 0, 1) := by decide +kernel
theorem dL_graph_18 : decode cL_graph 18 = .ok (.ireturn, 1) := by decide +kernel
theorem dL_reached_0 : decode cL_reached 0 = .ok (.aload_n 1, 1) := by decide +kernel
theorem dL_reached_1 : decode cL_reached 1 = .ok (.iconst 0, 1) := by decide +kernel
theorem dL_reached_2 : decode cL_reached 2 = .ok (.aload_n 0, 1) := by decide +kernel
theorem dL_reached_3 : decode cL_reached 3 = .ok (.invokevirtual 63, 3) := by decide +kernel
theorem dL_reached_6 : decode cL_reached 6 = .ok (.i2l, 1) := by decide +kernel
theorem dL_reached_7 : decode cL_reached 7 = .ok (.lastore, 1) := by decide +kernel
theorem dL_reached_8 : decode cL_reached 8 = .ok (.goto 6, 3) := by decide +kernel
theorem dL_reached_11 : decode cL_reached 11 = .ok (.astore_n 2, 1) := by decide +kernel
theorem dL_reached_12 : decode cL_reached 12 = .ok (.iconst 1, 1) := by decide +kernel
theorem dL_reached_13 : decode cL_reached 13 = .ok (.ireturn, 1) := by decide +kernel
theorem dL_reached_14 : decode cL_reached 14 = .ok (.iconst 0, 1) := by decide +kernel
theorem dL_reached_15 : decode cL_reached 15 = .ok (.ireturn, 1) := by decide +kernel
theorem dL_distance_0 : decode cL_distance 0 = .ok (.aload_n 2, 1) := by decide +kernel
theorem dL_distance_1 : decode cL_distance 1 = .ok (.iconst 0, 1) := by decide +kernel
theorem dL_distance_2 : decode cL_distance 2 = .ok (.aload_n 0, 1) := by decide +kernel
theorem dL_distance_3 : decode cL_distance 3 = .ok (.iload_n 1, 1) := by decide +kernel
theorem dL_distance_4 : decode cL_distance 4 = .ok (.invokevirtual 66, 3) := by decide +kernel
theorem dL_distance_7 : decode cL_distance 7 = .ok (.i2l, 1) := by decide +kernel
theorem dL_distance_8 : decode cL_distance 8 = .ok (.lastore, 1) := by decide +kernel
theorem dL_distance_9 : decode cL_distance 9 = .ok (.goto 9, 3) := by decide +kernel
theorem dL_distance_12 : decode cL_distance 12 = .ok (.astore_n 3, 1) := by decide +kernel
theorem dL_distance_13 : decode cL_distance 13 = .ok (.iconst 1, 1) := by decide +kernel
theorem dL_distance_14 : decode cL_distance 14 = .ok (.ireturn, 1) := by decide +kernel
theorem dL_distance_15 : decode cL_distance 15 = .ok (.astore_n 3, 1) := by decide +kernel
theorem dL_distance_16 : decode cL_distance 16 = .ok (.iconst 2, 1) := by decide +kernel
theorem dL_distance_17 : decode cL_distance 17 = .ok (.ireturn, 1) := by decide +kernel
theorem dL_distance_18 : decode cL_distance 18 = .ok (.iconst 0, 1) := by decide +kernel
theorem dL_distance_19 : decode cL_distance 19 = .ok (.ireturn, 1) := by decide +kernel
theorem dL_found_0 : decode cL_found 0 = .ok (.aload_n 3, 1) := by decide +kernel
theorem dL_found_1 : decode cL_found 1 = .ok (.iconst 0, 1) := by decide +kernel
theorem dL_found_2 : decode cL_found 2 = .ok (.aload_n 0, 1) := by decide +kernel
theorem dL_found_3 : decode cL_found 3 = .ok (.iload_n 1, 1) := by decide +kernel
theorem dL_found_4 : decode cL_found 4 = .ok (.iload_n 2, 1) := by decide +kernel
theorem dL_found_5 : decode cL_found 5 = .ok (.invokevirtual 69, 3) := by decide +kernel
theorem dL_found_8 : decode cL_found 8 = .ok (.i2l, 1) := by decide +kernel
theorem dL_found_9 : decode cL_found 9 = .ok (.lastore, 1) := by decide +kernel
theorem dL_found_10 : decode cL_found 10 = .ok (.goto 11, 3) := by decide +kernel
theorem dL_found_13 : decode cL_found 13 = .ok (.astore 4, 2) := by decide +kernel
theorem dL_found_15 : decode cL_found 15 = .ok (.iconst 1, 1) := by decide +kernel
theorem dL_found_16 : decode cL_found 16 = .ok (.ireturn, 1) := by decide +kernel
theorem dL_found_17 : decode cL_found 17 = .ok (.astore 4, 2) := by decide +kernel
theorem dL_found_19 : decode cL_found 19 = .ok (.iconst 2, 1) := by decide +kernel
theorem dL_found_20 : decode cL_found 20 = .ok (.ireturn, 1) := by decide +kernel
theorem dL_found_21 : decode cL_found 21 = .ok (.iconst 0, 1) := by decide +kernel
theorem dL_found_22 : decode cL_found 22 = .ok (.ireturn, 1) := by decide +kernel
theorem dL_stops_0 : decode cL_stops 0 = .ok (.aload_n 1, 1) := by decide +kernel
theorem dL_stops_1 : decode cL_stops 1 = .ok (.iconst 0, 1) := by decide +kernel
theorem dL_stops_2 : decode cL_stops 2 = .ok (.aload_n 0, 1) := by decide +kernel
theorem dL_stops_3 : decode cL_stops 3 = .ok (.invokevirtual 73, 3) := by decide +kernel
theorem dL_stops_6 : decode cL_stops 6 = .ok (.i2l, 1) := by decide +kernel
theorem dL_stops_7 : decode cL_stops 7 = .ok (.lastore, 1) := by decide +kernel
theorem dL_stops_8 : decode cL_stops 8 = .ok (.goto 6, 3) := by decide +kernel
theorem dL_stops_11 : decode cL_stops 11 = .ok (.astore_n 2, 1) := by decide +kernel
theorem dL_stops_12 : decode cL_stops 12 = .ok (.iconst 1, 1) := by decide +kernel
theorem dL_stops_13 : decode cL_stops 13 = .ok (.ireturn, 1) := by decide +kernel
theorem dL_stops_14 : decode cL_stops 14 = .ok (.iconst 0, 1) := by decide +kernel
theorem dL_stops_15 : decode cL_stops 15 = .ok (.ireturn, 1) := by decide +kernel
theorem dL_live_0 : decode cL_live 0 = .ok (.aload_n 2, 1) := by decide +kernel
theorem dL_live_1 : decode cL_live 1 = .ok (.iconst 0, 1) := by decide +kernel
theorem dL_live_2 : decode cL_live 2 = .ok (.aload_n 0, 1) := by decide +kernel
theorem dL_live_3 : decode cL_live 3 = .ok (.iload_n 1, 1) := by decide +kernel
theorem dL_live_4 : decode cL_live 4 = .ok (.invokevirtual 76, 3) := by decide +kernel
theorem dL_live_7 : decode cL_live 7 = .ok (.ifCond .eq 7, 3) := by decide +kernel
theorem dL_live_10 : decode cL_live 10 = .ok (.lconst 1, 1) := by decide +kernel
theorem dL_live_11 : decode cL_live 11 = .ok (.goto 4, 3) := by decide +kernel
theorem dL_live_14 : decode cL_live 14 = .ok (.lconst 0, 1) := by decide +kernel
theorem dL_live_15 : decode cL_live 15 = .ok (.lastore, 1) := by decide +kernel
theorem dL_live_16 : decode cL_live 16 = .ok (.goto 9, 3) := by decide +kernel
theorem dL_live_19 : decode cL_live 19 = .ok (.astore_n 3, 1) := by decide +kernel
theorem dL_live_20 : decode cL_live 20 = .ok (.iconst 1, 1) := by decide +kernel
theorem dL_live_21 : decode cL_live 21 = .ok (.ireturn, 1) := by decide +kernel
theorem dL_live_22 : decode cL_live 22 = .ok (.astore_n 3, 1) := by decide +kernel
theorem dL_live_23 : decode cL_live 23 = .ok (.iconst 2, 1) := by decide +kernel
theorem dL_live_24 : decode cL_live 24 = .ok (.ireturn, 1) := by decide +kernel
theorem dL_live_25 : decode cL_live 25 = .ok (.iconst 0, 1) := by decide +kernel
theorem dL_live_26 : decode cL_live 26 = .ok (.ireturn, 1) := by decide +kernel
theorem dL_law_0 : decode cL_law 0 = .ok (.new 8, 3) := by decide +kernel
theorem dL_law_3 : decode cL_law 3 = .ok (.dup, 1) := by decide +kernel
theorem dL_law_4 : decode cL_law 4 = .ok (.invokespecial 79, 3) := by decide +kernel
theorem dL_law_7 : decode cL_law 7 = .ok (.astore_n 1, 1) := by decide +kernel
theorem dL_law_8 : decode cL_law 8 = .ok (.new 80, 3) := by decide +kernel
theorem dL_law_11 : decode cL_law 11 = .ok (.dup, 1) := by decide +kernel
theorem dL_law_12 : decode cL_law 12 = .ok (.invokespecial 82, 3) := by decide +kernel
theorem dL_law_15 : decode cL_law 15 = .ok (.astore_n 2, 1) := by decide +kernel
theorem dL_law_16 : decode cL_law 16 = .ok (.iconst 1, 1) := by decide +kernel
theorem dL_law_17 : decode cL_law 17 = .ok (.newarray .long, 2) := by decide +kernel
theorem dL_law_19 : decode cL_law 19 = .ok (.astore_n 3, 1) := by decide +kernel
theorem dL_law_20 : decode cL_law 20 = .ok (.iconst 0, 1) := by decide +kernel
theorem dL_law_21 : decode cL_law 21 = .ok (.istore 4, 2) := by decide +kernel
theorem dL_law_23 : decode cL_law 23 = .ok (.iload 4, 2) := by decide +kernel
theorem dL_law_25 : decode cL_law 25 = .ok (.aload_n 0, 1) := by decide +kernel
theorem dL_law_26 : decode cL_law 26 = .ok (.arraylength, 1) := by decide +kernel
theorem dL_law_27 : decode cL_law 27 = .ok (.iconst 5, 1) := by decide +kernel
theorem dL_law_28 : decode cL_law 28 = .ok (.isub, 1) := by decide +kernel
theorem dL_law_29 : decode cL_law 29 = .ok (.if_icmp .gt 1146, 3) := by decide +kernel
theorem dL_law_32 : decode cL_law 32 = .ok (.aload_n 0, 1) := by decide +kernel
theorem dL_law_33 : decode cL_law 33 = .ok (.iload 4, 2) := by decide +kernel
theorem dL_law_35 : decode cL_law 35 = .ok (.iaload, 1) := by decide +kernel
theorem dL_law_36 : decode cL_law 36 = .ok (.bipush 31, 2) := by decide +kernel
theorem dL_law_38 : decode cL_law 38 = .ok (.iand, 1) := by decide +kernel
theorem dL_law_39 : decode cL_law 39 = .ok (.tableswitch 1130 0 17 #[85, 141, 185, 293, 341, 385, 453, 521, 577, 625, 676, 739, 795, 839, 883, 939, 1023, 1067], 85) := by decide +kernel
theorem dL_law_124 : decode cL_law 124 = .ok (.aload_n 1, 1) := by decide +kernel
theorem dL_law_125 : decode cL_law 125 = .ok (.aload_n 0, 1) := by decide +kernel
theorem dL_law_126 : decode cL_law 126 = .ok (.iload 4, 2) := by decide +kernel
theorem dL_law_128 : decode cL_law 128 = .ok (.iconst 1, 1) := by decide +kernel
theorem dL_law_129 : decode cL_law 129 = .ok (.iadd, 1) := by decide +kernel
theorem dL_law_130 : decode cL_law 130 = .ok (.iaload, 1) := by decide +kernel
theorem dL_law_131 : decode cL_law 131 = .ok (.aload_n 3, 1) := by decide +kernel
theorem dL_law_132 : decode cL_law 132 = .ok (.invokestatic 83, 3) := by decide +kernel
theorem dL_law_135 : decode cL_law 135 = .ok (.istore 5, 2) := by decide +kernel
theorem dL_law_137 : decode cL_law 137 = .ok (.aload_n 2, 1) := by decide +kernel
theorem dL_law_138 : decode cL_law 138 = .ok (.aload_n 0, 1) := by decide +kernel
theorem dL_law_139 : decode cL_law 139 = .ok (.iload 4, 2) := by decide +kernel
theorem dL_law_141 : decode cL_law 141 = .ok (.iconst 1, 1) := by decide +kernel
theorem dL_law_142 : decode cL_law 142 = .ok (.iadd, 1) := by decide +kernel
theorem dL_law_143 : decode cL_law 143 = .ok (.iaload, 1) := by decide +kernel
theorem dL_law_144 : decode cL_law 144 = .ok (.invokevirtual 88, 3) := by decide +kernel
theorem dL_law_147 : decode cL_law 147 = .ok (.istore 6, 2) := by decide +kernel
theorem dL_law_149 : decode cL_law 149 = .ok (.aload_n 2, 1) := by decide +kernel
theorem dL_law_150 : decode cL_law 150 = .ok (.invokevirtual 89, 3) := by decide +kernel
theorem dL_law_153 : decode cL_law 153 = .ok (.iload 5, 2) := by decide +kernel
theorem dL_law_155 : decode cL_law 155 = .ok (.if_icmp .eq 5, 3) := by decide +kernel
theorem dL_law_158 : decode cL_law 158 = .ok (.iconst 0, 1) := by decide +kernel
theorem dL_law_159 : decode cL_law 159 = .ok (.ireturn, 1) := by decide +kernel
theorem dL_law_160 : decode cL_law 160 = .ok (.iload 5, 2) := by decide +kernel
theorem dL_law_162 : decode cL_law 162 = .ok (.ifCond .ne 15, 3) := by decide +kernel
theorem dL_law_165 : decode cL_law 165 = .ok (.aload_n 3, 1) := by decide +kernel
theorem dL_law_166 : decode cL_law 166 = .ok (.iconst 0, 1) := by decide +kernel
theorem dL_law_167 : decode cL_law 167 = .ok (.laload, 1) := by decide +kernel
theorem dL_law_168 : decode cL_law 168 = .ok (.iload 6, 2) := by decide +kernel
theorem dL_law_170 : decode cL_law 170 = .ok (.i2l, 1) := by decide +kernel
theorem dL_law_171 : decode cL_law 171 = .ok (.lcmp, 1) := by decide +kernel
theorem dL_law_172 : decode cL_law 172 = .ok (.ifCond .eq 5, 3) := by decide +kernel
theorem dL_law_175 : decode cL_law 175 = .ok (.iconst 0, 1) := by decide +kernel
theorem dL_law_176 : decode cL_law 176 = .ok (.ireturn, 1) := by decide +kernel
theorem dL_law_177 : decode cL_law 177 = .ok (.goto 992, 3) := by decide +kernel
theorem dL_law_180 : decode cL_law 180 = .ok (.aload_n 1, 1) := by decide +kernel
theorem dL_law_181 : decode cL_law 181 = .ok (.aload_n 3, 1) := by decide +kernel
theorem dL_law_182 : decode cL_law 182 = .ok (.invokestatic 92, 3) := by decide +kernel
theorem dL_law_185 : decode cL_law 185 = .ok (.istore 5, 2) := by decide +kernel
theorem dL_law_187 : decode cL_law 187 = .ok (.aload_n 2, 1) := by decide +kernel
theorem dL_law_188 : decode cL_law 188 = .ok (.invokevirtual 95, 3) := by decide +kernel
theorem dL_law_191 : decode cL_law 191 = .ok (.istore 6, 2) := by decide +kernel
theorem dL_law_193 : decode cL_law 193 = .ok (.aload_n 2, 1) := by decide +kernel
theorem dL_law_194 : decode cL_law 194 = .ok (.invokevirtual 89, 3) := by decide +kernel
theorem dL_law_197 : decode cL_law 197 = .ok (.iload 5, 2) := by decide +kernel
theorem dL_law_199 : decode cL_law 199 = .ok (.if_icmp .eq 5, 3) := by decide +kernel
theorem dL_law_202 : decode cL_law 202 = .ok (.iconst 0, 1) := by decide +kernel
theorem dL_law_203 : decode cL_law 203 = .ok (.ireturn, 1) := by decide +kernel
theorem dL_law_204 : decode cL_law 204 = .ok (.iload 5, 2) := by decide +kernel
theorem dL_law_206 : decode cL_law 206 = .ok (.ifCond .ne 15, 3) := by decide +kernel
theorem dL_law_209 : decode cL_law 209 = .ok (.aload_n 3, 1) := by decide +kernel
theorem dL_law_210 : decode cL_law 210 = .ok (.iconst 0, 1) := by decide +kernel
theorem dL_law_211 : decode cL_law 211 = .ok (.laload, 1) := by decide +kernel
theorem dL_law_212 : decode cL_law 212 = .ok (.iload 6, 2) := by decide +kernel
theorem dL_law_214 : decode cL_law 214 = .ok (.i2l, 1) := by decide +kernel
theorem dL_law_215 : decode cL_law 215 = .ok (.lcmp, 1) := by decide +kernel
theorem dL_law_216 : decode cL_law 216 = .ok (.ifCond .eq 5, 3) := by decide +kernel
theorem dL_law_219 : decode cL_law 219 = .ok (.iconst 0, 1) := by decide +kernel
theorem dL_law_220 : decode cL_law 220 = .ok (.ireturn, 1) := by decide +kernel
theorem dL_law_221 : decode cL_law 221 = .ok (.goto 948, 3) := by decide +kernel
theorem dL_law_224 : decode cL_law 224 = .ok (.aload_n 1, 1) := by decide +kernel
theorem dL_law_225 : decode cL_law 225 = .ok (.aload_n 0, 1) := by decide +kernel
theorem dL_law_226 : decode cL_law 226 = .ok (.iload 4, 2) := by decide +kernel
theorem dL_law_228 : decode cL_law 228 = .ok (.iconst 1, 1) := by decide +kernel
theorem dL_law_229 : decode cL_law 229 = .ok (.iadd, 1) := by decide +kernel
theorem dL_law_230 : decode cL_law 230 = .ok (.iaload, 1) := by decide +kernel
theorem dL_law_231 : decode cL_law 231 = .ok (.aload_n 0, 1) := by decide +kernel
theorem dL_law_232 : decode cL_law 232 = .ok (.iload 4, 2) := by decide +kernel
theorem dL_law_234 : decode cL_law 234 = .ok (.iconst 2, 1) := by decide +kernel
theorem dL_law_235 : decode cL_law 235 = .ok (.iadd, 1) := by decide +kernel
theorem dL_law_236 : decode cL_law 236 = .ok (.iaload, 1) := by decide +kernel
theorem dL_law_237 : decode cL_law 237 = .ok (.aload_n 0, 1) := by decide +kernel
theorem dL_law_238 : decode cL_law 238 = .ok (.iload 4, 2) := by decide +kernel
theorem dL_law_240 : decode cL_law 240 = .ok (.iconst 3, 1) := by decide +kernel
theorem dL_law_241 : decode cL_law 241 = .ok (.iadd, 1) := by decide +kernel
theorem dL_law_242 : decode cL_law 242 = .ok (.iaload, 1) := by decide +kernel
theorem dL_law_243 : decode cL_law 243 = .ok (.aload_n 0, 1) := by decide +kernel
theorem dL_law_244 : decode cL_law 244 = .ok (.iload 4, 2) := by decide +kernel
theorem dL_law_246 : decode cL_law 246 = .ok (.iconst 4, 1) := by decide +kernel
theorem dL_law_247 : decode cL_law 247 = .ok (.iadd, 1) := by decide +kernel
theorem dL_law_248 : decode cL_law 248 = .ok (.iaload, 1) := by decide +kernel
theorem dL_law_249 : decode cL_law 249 = .ok (.ifCond .eq 7, 3) := by decide +kernel
theorem dL_law_252 : decode cL_law 252 = .ok (.iconst 1, 1) := by decide +kernel
theorem dL_law_253 : decode cL_law 253 = .ok (.goto 4, 3) := by decide +kernel
theorem dL_law_256 : decode cL_law 256 = .ok (.iconst 0, 1) := by decide +kernel
theorem dL_law_257 : decode cL_law 257 = .ok (.aload_n 3, 1) := by decide +kernel
theorem dL_law_258 : decode cL_law 258 = .ok (.invokestatic 96, 3) := by decide +kernel
theorem dL_law_261 : decode cL_law 261 = .ok (.istore 5, 2) := by decide +kernel
theorem dL_law_263 : decode cL_law 263 = .ok (.aload_n 2, 1) := by decide +kernel
theorem dL_law_264 : decode cL_law 264 = .ok (.aload_n 0, 1) := by decide +kernel
theorem dL_law_265 : decode cL_law 265 = .ok (.iload 4, 2) := by decide +kernel
theorem dL_law_267 : decode cL_law 267 = .ok (.iconst 1, 1) := by decide +kernel
theorem dL_law_268 : decode cL_law 268 = .ok (.iadd, 1) := by decide +kernel
theorem dL_law_269 : decode cL_law 269 = .ok (.iaload, 1) := by decide +kernel
theorem dL_law_270 : decode cL_law 270 = .ok (.aload_n 0, 1) := by decide +kernel
theorem dL_law_271 : decode cL_law 271 = .ok (.iload 4, 2) := by decide +kernel
theorem dL_law_273 : decode cL_law 273 = .ok (.iconst 2, 1) := by decide +kernel
theorem dL_law_274 : decode cL_law 274 = .ok (.iadd, 1) := by decide +kernel
theorem dL_law_275 : decode cL_law 275 = .ok (.iaload, 1) := by decide +kernel
theorem dL_law_276 : decode cL_law 276 = .ok (.aload_n 0, 1) := by decide +kernel
theorem dL_law_277 : decode cL_law 277 = .ok (.iload 4, 2) := by decide +kernel
theorem dL_law_279 : decode cL_law 279 = .ok (.iconst 3, 1) := by decide +kernel
theorem dL_law_280 : decode cL_law 280 = .ok (.iadd, 1) := by decide +kernel
theorem dL_law_281 : decode cL_law 281 = .ok (.iaload, 1) := by decide +kernel
theorem dL_law_282 : decode cL_law 282 = .ok (.aload_n 0, 1) := by decide +kernel
theorem dL_law_283 : decode cL_law 283 = .ok (.iload 4, 2) := by decide +kernel
theorem dL_law_285 : decode cL_law 285 = .ok (.iconst 4, 1) := by decide +kernel
theorem dL_law_286 : decode cL_law 286 = .ok (.iadd, 1) := by decide +kernel
theorem dL_law_287 : decode cL_law 287 = .ok (.iaload, 1) := by decide +kernel
theorem dL_law_288 : decode cL_law 288 = .ok (.ifCond .eq 7, 3) := by decide +kernel
theorem dL_law_291 : decode cL_law 291 = .ok (.iconst 1, 1) := by decide +kernel
theorem dL_law_292 : decode cL_law 292 = .ok (.goto 4, 3) := by decide +kernel
theorem dL_law_295 : decode cL_law 295 = .ok (.iconst 0, 1) := by decide +kernel
theorem dL_law_296 : decode cL_law 296 = .ok (.invokevirtual 99, 3) := by decide +kernel
theorem dL_law_299 : decode cL_law 299 = .ok (.istore 6, 2) := by decide +kernel
theorem dL_law_301 : decode cL_law 301 = .ok (.aload_n 2, 1) := by decide +kernel
theorem dL_law_302 : decode cL_law 302 = .ok (.invokevirtual 89, 3) := by decide +kernel
theorem dL_law_305 : decode cL_law 305 = .ok (.iload 5, 2) := by decide +kernel
theorem dL_law_307 : decode cL_law 307 = .ok (.if_icmp .eq 5, 3) := by decide +kernel
theorem dL_law_310 : decode cL_law 310 = .ok (.iconst 0, 1) := by decide +kernel
theorem dL_law_311 : decode cL_law 311 = .ok (.ireturn, 1) := by decide +kernel
theorem dL_law_312 : decode cL_law 312 = .ok (.iload 5, 2) := by decide +kernel
theorem dL_law_314 : decode cL_law 314 = .ok (.ifCond .ne 15, 3) := by decide +kernel
theorem dL_law_317 : decode cL_law 317 = .ok (.aload_n 3, 1) := by decide +kernel
theorem dL_law_318 : decode cL_law 318 = .ok (.iconst 0, 1) := by decide +kernel
theorem dL_law_319 : decode cL_law 319 = .ok (.laload, 1) := by decide +kernel
theorem dL_law_320 : decode cL_law 320 = .ok (.iload 6, 2) := by decide +kernel
theorem dL_law_322 : decode cL_law 322 = .ok (.i2l, 1) := by decide +kernel
theorem dL_law_323 : decode cL_law 323 = .ok (.lcmp, 1) := by decide +kernel
theorem dL_law_324 : decode cL_law 324 = .ok (.ifCond .eq 5, 3) := by decide +kernel
theorem dL_law_327 : decode cL_law 327 = .ok (.iconst 0, 1) := by decide +kernel
theorem dL_law_328 : decode cL_law 328 = .ok (.ireturn, 1) := by decide +kernel
theorem dL_law_329 : decode cL_law 329 = .ok (.goto 840, 3) := by decide +kernel
theorem dL_law_332 : decode cL_law 332 = .ok (.aload_n 1, 1) := by decide +kernel
theorem dL_law_333 : decode cL_law 333 = .ok (.aload_n 0, 1) := by decide +kernel
theorem dL_law_334 : decode cL_law 334 = .ok (.iload 4, 2) := by decide +kernel
theorem dL_law_336 : decode cL_law 336 = .ok (.iconst 1, 1) := by decide +kernel
theorem dL_law_337 : decode cL_law 337 = .ok (.iadd, 1) := by decide +kernel
theorem dL_law_338 : decode cL_law 338 = .ok (.iaload, 1) := by decide +kernel
theorem dL_law_339 : decode cL_law 339 = .ok (.aload_n 0, 1) := by decide +kernel
theorem dL_law_340 : decode cL_law 340 = .ok (.iload 4, 2) := by decide +kernel
theorem dL_law_342 : decode cL_law 342 = .ok (.iconst 2, 1) := by decide +kernel
theorem dL_law_343 : decode cL_law 343 = .ok (.iadd, 1) := by decide +kernel
theorem dL_law_344 : decode cL_law 344 = .ok (.iaload, 1) := by decide +kernel
theorem dL_law_345 : decode cL_law 345 = .ok (.invokestatic 100, 3) := by decide +kernel
theorem dL_law_348 : decode cL_law 348 = .ok (.istore 5, 2) := by decide +kernel
theorem dL_law_350 : decode cL_law 350 = .ok (.aload_n 2, 1) := by decide +kernel
theorem dL_law_351 : decode cL_law 351 = .ok (.aload_n 0, 1) := by decide +kernel
theorem dL_law_352 : decode cL_law 352 = .ok (.iload 4, 2) := by decide +kernel
theorem dL_law_354 : decode cL_law 354 = .ok (.iconst 1, 1) := by decide +kernel
theorem dL_law_355 : decode cL_law 355 = .ok (.iadd, 1) := by decide +kernel
theorem dL_law_356 : decode cL_law 356 = .ok (.iaload, 1) := by decide +kernel
theorem dL_law_357 : decode cL_law 357 = .ok (.aload_n 0, 1) := by decide +kernel
theorem dL_law_358 : decode cL_law 358 = .ok (.iload 4, 2) := by decide +kernel
theorem dL_law_360 : decode cL_law 360 = .ok (.iconst 2, 1) := by decide +kernel
theorem dL_law_361 : decode cL_law 361 = .ok (.iadd, 1) := by decide +kernel
theorem dL_law_362 : decode cL_law 362 = .ok (.iaload, 1) := by decide +kernel
theorem dL_law_363 : decode cL_law 363 = .ok (.invokevirtual 103, 3) := by decide +kernel
theorem dL_law_366 : decode cL_law 366 = .ok (.aload_n 2, 1) := by decide +kernel
theorem dL_law_367 : decode cL_law 367 = .ok (.invokevirtual 89, 3) := by decide +kernel
theorem dL_law_370 : decode cL_law 370 = .ok (.iload 5, 2) := by decide +kernel
theorem dL_law_372 : decode cL_law 372 = .ok (.if_icmp .eq 5, 3) := by decide +kernel
theorem dL_law_375 : decode cL_law 375 = .ok (.iconst 0, 1) := by decide +kernel
theorem dL_law_376 : decode cL_law 376 = .ok (.ireturn, 1) := by decide +kernel
theorem dL_law_377 : decode cL_law 377 = .ok (.goto 792, 3) := by decide +kernel
theorem dL_law_380 : decode cL_law 380 = .ok (.aload_n 1, 1) := by decide +kernel
theorem dL_law_381 : decode cL_law 381 = .ok (.aload_n 3, 1) := by decide +kernel
theorem dL_law_382 : decode cL_law 382 = .ok (.invokestatic 104, 3) := by decide +kernel
theorem dL_law_385 : decode cL_law 385 = .ok (.istore 5, 2) := by decide +kernel
theorem dL_law_387 : decode cL_law 387 = .ok (.aload_n 2, 1) := by decide +kernel
theorem dL_law_388 : decode cL_law 388 = .ok (.invokevirtual 106, 3) := by decide +kernel
theorem dL_law_391 : decode cL_law 391 = .ok (.istore 6, 2) := by decide +kernel
theorem dL_law_393 : decode cL_law 393 = .ok (.aload_n 2, 1) := by decide +kernel
theorem dL_law_394 : decode cL_law 394 = .ok (.invokevirtual 89, 3) := by decide +kernel
theorem dL_law_397 : decode cL_law 397 = .ok (.iload 5, 2) := by decide +kernel
theorem dL_law_399 : decode cL_law 399 = .ok (.if_icmp .eq 5, 3) := by decide +kernel
theorem dL_law_402 : decode cL_law 402 = .ok (.iconst 0, 1) := by decide +kernel
theorem dL_law_403 : decode cL_law 403 = .ok (.ireturn, 1) := by decide +kernel
theorem dL_law_404 : decode cL_law 404 = .ok (.iload 5, 2) := by decide +kernel
theorem dL_law_406 : decode cL_law 406 = .ok (.ifCond .ne 15, 3) := by decide +kernel
theorem dL_law_409 : decode cL_law 409 = .ok (.aload_n 3, 1) := by decide +kernel
theorem dL_law_410 : decode cL_law 410 = .ok (.iconst 0, 1) := by decide +kernel
theorem dL_law_411 : decode cL_law 411 = .ok (.laload, 1) := by decide +kernel
theorem dL_law_412 : decode cL_law 412 = .ok (.iload 6, 2) := by decide +kernel
theorem dL_law_414 : decode cL_law 414 = .ok (.i2l, 1) := by decide +kernel
theorem dL_law_415 : decode cL_law 415 = .ok (.lcmp, 1) := by decide +kernel
theorem dL_law_416 : decode cL_law 416 = .ok (.ifCond .eq 5, 3) := by decide +kernel
theorem dL_law_419 : decode cL_law 419 = .ok (.iconst 0, 1) := by decide +kernel
theorem dL_law_420 : decode cL_law 420 = .ok (.ireturn, 1) := by decide +kernel
theorem dL_law_421 : decode cL_law 421 = .ok (.goto 748, 3) := by decide +kernel
theorem dL_law_424 : decode cL_law 424 = .ok (.aload_n 1, 1) := by decide +kernel
theorem dL_law_425 : decode cL_law 425 = .ok (.aload_n 0, 1) := by decide +kernel
theorem dL_law_426 : decode cL_law 426 = .ok (.iload 4, 2) := by decide +kernel
theorem dL_law_428 : decode cL_law 428 = .ok (.iconst 1, 1) := by decide +kernel
theorem dL_law_429 : decode cL_law 429 = .ok (.iadd, 1) := by decide +kernel
theorem dL_law_430 : decode cL_law 430 = .ok (.iaload, 1) := by decide +kernel
theorem dL_law_431 : decode cL_law 431 = .ok (.aload_n 0, 1) := by decide +kernel
theorem dL_law_432 : decode cL_law 432 = .ok (.iload 4, 2) := by decide +kernel
theorem dL_law_434 : decode cL_law 434 = .ok (.iconst 2, 1) := by decide +kernel
theorem dL_law_435 : decode cL_law 435 = .ok (.iadd, 1) := by decide +kernel
theorem dL_law_436 : decode cL_law 436 = .ok (.iaload, 1) := by decide +kernel
theorem dL_law_437 : decode cL_law 437 = .ok (.aload_n 3, 1) := by decide +kernel
theorem dL_law_438 : decode cL_law 438 = .ok (.invokestatic 107, 3) := by decide +kernel
theorem dL_law_441 : decode cL_law 441 = .ok (.istore 5, 2) := by decide +kernel
theorem dL_law_443 : decode cL_law 443 = .ok (.aload_n 2, 1) := by decide +kernel
theorem dL_law_444 : decode cL_law 444 = .ok (.aload_n 0, 1) := by decide +kernel
theorem dL_law_445 : decode cL_law 445 = .ok (.iload 4, 2) := by decide +kernel
theorem dL_law_447 : decode cL_law 447 = .ok (.iconst 1, 1) := by decide +kernel
theorem dL_law_448 : decode cL_law 448 = .ok (.iadd, 1) := by decide +kernel
theorem dL_law_449 : decode cL_law 449 = .ok (.iaload, 1) := by decide +kernel
theorem dL_law_450 : decode cL_law 450 = .ok (.aload_n 0, 1) := by decide +kernel
theorem dL_law_451 : decode cL_law 451 = .ok (.iload 4, 2) := by decide +kernel
theorem dL_law_453 : decode cL_law 453 = .ok (.iconst 2, 1) := by decide +kernel
theorem dL_law_454 : decode cL_law 454 = .ok (.iadd, 1) := by decide +kernel
theorem dL_law_455 : decode cL_law 455 = .ok (.iaload, 1) := by decide +kernel
theorem dL_law_456 : decode cL_law 456 = .ok (.invokevirtual 110, 3) := by decide +kernel
theorem dL_law_459 : decode cL_law 459 = .ok (.istore 6, 2) := by decide +kernel
theorem dL_law_461 : decode cL_law 461 = .ok (.aload_n 2, 1) := by decide +kernel
theorem dL_law_462 : decode cL_law 462 = .ok (.invokevirtual 89, 3) := by decide +kernel
theorem dL_law_465 : decode cL_law 465 = .ok (.iload 5, 2) := by decide +kernel
theorem dL_law_467 : decode cL_law 467 = .ok (.if_icmp .eq 5, 3) := by decide +kernel
theorem dL_law_470 : decode cL_law 470 = .ok (.iconst 0, 1) := by decide +kernel
theorem dL_law_471 : decode cL_law 471 = .ok (.ireturn, 1) := by decide +kernel
theorem dL_law_472 : decode cL_law 472 = .ok (.iload 5, 2) := by decide +kernel
theorem dL_law_474 : decode cL_law 474 = .ok (.ifCond .ne 15, 3) := by decide +kernel
theorem dL_law_477 : decode cL_law 477 = .ok (.aload_n 3, 1) := by decide +kernel
theorem dL_law_478 : decode cL_law 478 = .ok (.iconst 0, 1) := by decide +kernel
theorem dL_law_479 : decode cL_law 479 = .ok (.laload, 1) := by decide +kernel
theorem dL_law_480 : decode cL_law 480 = .ok (.iload 6, 2) := by decide +kernel
theorem dL_law_482 : decode cL_law 482 = .ok (.i2l, 1) := by decide +kernel
theorem dL_law_483 : decode cL_law 483 = .ok (.lcmp, 1) := by decide +kernel
theorem dL_law_484 : decode cL_law 484 = .ok (.ifCond .eq 5, 3) := by decide +kernel
theorem dL_law_487 : decode cL_law 487 = .ok (.iconst 0, 1) := by decide +kernel
theorem dL_law_488 : decode cL_law 488 = .ok (.ireturn, 1) := by decide +kernel
theorem dL_law_489 : decode cL_law 489 = .ok (.goto 680, 3) := by decide +kernel
theorem dL_law_492 : decode cL_law 492 = .ok (.aload_n 1, 1) := by decide +kernel
theorem dL_law_493 : decode cL_law 493 = .ok (.aload_n 0, 1) := by decide +kernel
theorem dL_law_494 : decode cL_law 494 = .ok (.iload 4, 2) := by decide +kernel
theorem dL_law_496 : decode cL_law 496 = .ok (.iconst 1, 1) := by decide +kernel
theorem dL_law_497 : decode cL_law 497 = .ok (.iadd, 1) := by decide +kernel
theorem dL_law_498 : decode cL_law 498 = .ok (.iaload, 1) := by decide +kernel
theorem dL_law_499 : decode cL_law 499 = .ok (.aload_n 0, 1) := by decide +kernel
theorem dL_law_500 : decode cL_law 500 = .ok (.iload 4, 2) := by decide +kernel
theorem dL_law_502 : decode cL_law 502 = .ok (.iconst 2, 1) := by decide +kernel
theorem dL_law_503 : decode cL_law 503 = .ok (.iadd, 1) := by decide +kernel
theorem dL_law_504 : decode cL_law 504 = .ok (.iaload, 1) := by decide +kernel
theorem dL_law_505 : decode cL_law 505 = .ok (.aload_n 3, 1) := by decide +kernel
theorem dL_law_506 : decode cL_law 506 = .ok (.invokestatic 111, 3) := by decide +kernel
theorem dL_law_509 : decode cL_law 509 = .ok (.istore 5, 2) := by decide +kernel
theorem dL_law_511 : decode cL_law 511 = .ok (.aload_n 2, 1) := by decide +kernel
theorem dL_law_512 : decode cL_law 512 = .ok (.aload_n 0, 1) := by decide +kernel
theorem dL_law_513 : decode cL_law 513 = .ok (.iload 4, 2) := by decide +kernel
theorem dL_law_515 : decode cL_law 515 = .ok (.iconst 1, 1) := by decide +kernel
theorem dL_law_516 : decode cL_law 516 = .ok (.iadd, 1) := by decide +kernel
theorem dL_law_517 : decode cL_law 517 = .ok (.iaload, 1) := by decide +kernel
theorem dL_law_518 : decode cL_law 518 = .ok (.aload_n 0, 1) := by decide +kernel
theorem dL_law_519 : decode cL_law 519 = .ok (.iload 4, 2) := by decide +kernel
theorem dL_law_521 : decode cL_law 521 = .ok (.iconst 2, 1) := by decide +kernel
theorem dL_law_522 : decode cL_law 522 = .ok (.iadd, 1) := by decide +kernel
theorem dL_law_523 : decode cL_law 523 = .ok (.iaload, 1) := by decide +kernel
theorem dL_law_524 : decode cL_law 524 = .ok (.invokevirtual 113, 3) := by decide +kernel
theorem dL_law_527 : decode cL_law 527 = .ok (.istore 6, 2) := by decide +kernel
theorem dL_law_529 : decode cL_law 529 = .ok (.aload_n 2, 1) := by decide +kernel
theorem dL_law_530 : decode cL_law 530 = .ok (.invokevirtual 89, 3) := by decide +kernel
theorem dL_law_533 : decode cL_law 533 = .ok (.iload 5, 2) := by decide +kernel
theorem dL_law_535 : decode cL_law 535 = .ok (.if_icmp .eq 5, 3) := by decide +kernel
theorem dL_law_538 : decode cL_law 538 = .ok (.iconst 0, 1) := by decide +kernel
theorem dL_law_539 : decode cL_law 539 = .ok (.ireturn, 1) := by decide +kernel
theorem dL_law_540 : decode cL_law 540 = .ok (.iload 5, 2) := by decide +kernel
theorem dL_law_542 : decode cL_law 542 = .ok (.ifCond .ne 15, 3) := by decide +kernel
theorem dL_law_545 : decode cL_law 545 = .ok (.aload_n 3, 1) := by decide +kernel
theorem dL_law_546 : decode cL_law 546 = .ok (.iconst 0, 1) := by decide +kernel
theorem dL_law_547 : decode cL_law 547 = .ok (.laload, 1) := by decide +kernel
theorem dL_law_548 : decode cL_law 548 = .ok (.iload 6, 2) := by decide +kernel
theorem dL_law_550 : decode cL_law 550 = .ok (.i2l, 1) := by decide +kernel
theorem dL_law_551 : decode cL_law 551 = .ok (.lcmp, 1) := by decide +kernel
theorem dL_law_552 : decode cL_law 552 = .ok (.ifCond .eq 5, 3) := by decide +kernel
theorem dL_law_555 : decode cL_law 555 = .ok (.iconst 0, 1) := by decide +kernel
theorem dL_law_556 : decode cL_law 556 = .ok (.ireturn, 1) := by decide +kernel
theorem dL_law_557 : decode cL_law 557 = .ok (.goto 612, 3) := by decide +kernel
theorem dL_law_560 : decode cL_law 560 = .ok (.aload_n 1, 1) := by decide +kernel
theorem dL_law_561 : decode cL_law 561 = .ok (.aload_n 0, 1) := by decide +kernel
theorem dL_law_562 : decode cL_law 562 = .ok (.iload 4, 2) := by decide +kernel
theorem dL_law_564 : decode cL_law 564 = .ok (.iconst 1, 1) := by decide +kernel
theorem dL_law_565 : decode cL_law 565 = .ok (.iadd, 1) := by decide +kernel
theorem dL_law_566 : decode cL_law 566 = .ok (.iaload, 1) := by decide +kernel
theorem dL_law_567 : decode cL_law 567 = .ok (.aload_n 3, 1) := by decide +kernel
theorem dL_law_568 : decode cL_law 568 = .ok (.invokestatic 114, 3) := by decide +kernel
theorem dL_law_571 : decode cL_law 571 = .ok (.istore 5, 2) := by decide +kernel
theorem dL_law_573 : decode cL_law 573 = .ok (.aload_n 2, 1) := by decide +kernel
theorem dL_law_574 : decode cL_law 574 = .ok (.aload_n 0, 1) := by decide +kernel
theorem dL_law_575 : decode cL_law 575 = .ok (.iload 4, 2) := by decide +kernel
theorem dL_law_577 : decode cL_law 577 = .ok (.iconst 1, 1) := by decide +kernel
theorem dL_law_578 : decode cL_law 578 = .ok (.iadd, 1) := by decide +kernel
theorem dL_law_579 : decode cL_law 579 = .ok (.iaload, 1) := by decide +kernel
theorem dL_law_580 : decode cL_law 580 = .ok (.invokevirtual 116, 3) := by decide +kernel
theorem dL_law_583 : decode cL_law 583 = .ok (.istore 6, 2) := by decide +kernel
theorem dL_law_585 : decode cL_law 585 = .ok (.aload_n 2, 1) := by decide +kernel
theorem dL_law_586 : decode cL_law 586 = .ok (.invokevirtual 89, 3) := by decide +kernel
theorem dL_law_589 : decode cL_law 589 = .ok (.iload 5, 2) := by decide +kernel
theorem dL_law_591 : decode cL_law 591 = .ok (.if_icmp .eq 5, 3) := by decide +kernel
theorem dL_law_594 : decode cL_law 594 = .ok (.iconst 0, 1) := by decide +kernel
theorem dL_law_595 : decode cL_law 595 = .ok (.ireturn, 1) := by decide +kernel
theorem dL_law_596 : decode cL_law 596 = .ok (.iload 5, 2) := by decide +kernel
theorem dL_law_598 : decode cL_law 598 = .ok (.ifCond .ne 15, 3) := by decide +kernel
theorem dL_law_601 : decode cL_law 601 = .ok (.aload_n 3, 1) := by decide +kernel
theorem dL_law_602 : decode cL_law 602 = .ok (.iconst 0, 1) := by decide +kernel
theorem dL_law_603 : decode cL_law 603 = .ok (.laload, 1) := by decide +kernel
theorem dL_law_604 : decode cL_law 604 = .ok (.iload 6, 2) := by decide +kernel
theorem dL_law_606 : decode cL_law 606 = .ok (.i2l, 1) := by decide +kernel
theorem dL_law_607 : decode cL_law 607 = .ok (.lcmp, 1) := by decide +kernel
theorem dL_law_608 : decode cL_law 608 = .ok (.ifCond .eq 5, 3) := by decide +kernel
theorem dL_law_611 : decode cL_law 611 = .ok (.iconst 0, 1) := by decide +kernel
theorem dL_law_612 : decode cL_law 612 = .ok (.ireturn, 1) := by decide +kernel
theorem dL_law_613 : decode cL_law 613 = .ok (.goto 556, 3) := by decide +kernel
theorem dL_law_616 : decode cL_law 616 = .ok (.aload_n 1, 1) := by decide +kernel
theorem dL_law_617 : decode cL_law 617 = .ok (.aload_n 0, 1) := by decide +kernel
theorem dL_law_618 : decode cL_law 618 = .ok (.iload 4, 2) := by decide +kernel
theorem dL_law_620 : decode cL_law 620 = .ok (.iconst 1, 1) := by decide +kernel
theorem dL_law_621 : decode cL_law 621 = .ok (.iadd, 1) := by decide +kernel
theorem dL_law_622 : decode cL_law 622 = .ok (.iaload, 1) := by decide +kernel
theorem dL_law_623 : decode cL_law 623 = .ok (.aload_n 0, 1) := by decide +kernel
theorem dL_law_624 : decode cL_law 624 = .ok (.iload 4, 2) := by decide +kernel
theorem dL_law_626 : decode cL_law 626 = .ok (.iconst 2, 1) := by decide +kernel
theorem dL_law_627 : decode cL_law 627 = .ok (.iadd, 1) := by decide +kernel
theorem dL_law_628 : decode cL_law 628 = .ok (.iaload, 1) := by decide +kernel
theorem dL_law_629 : decode cL_law 629 = .ok (.invokestatic 117, 3) := by decide +kernel
theorem dL_law_632 : decode cL_law 632 = .ok (.istore 5, 2) := by decide +kernel
theorem dL_law_634 : decode cL_law 634 = .ok (.aload_n 2, 1) := by decide +kernel
theorem dL_law_635 : decode cL_law 635 = .ok (.aload_n 0, 1) := by decide +kernel
theorem dL_law_636 : decode cL_law 636 = .ok (.iload 4, 2) := by decide +kernel
theorem dL_law_638 : decode cL_law 638 = .ok (.iconst 1, 1) := by decide +kernel
theorem dL_law_639 : decode cL_law 639 = .ok (.iadd, 1) := by decide +kernel
theorem dL_law_640 : decode cL_law 640 = .ok (.iaload, 1) := by decide +kernel
theorem dL_law_641 : decode cL_law 641 = .ok (.aload_n 0, 1) := by decide +kernel
theorem dL_law_642 : decode cL_law 642 = .ok (.iload 4, 2) := by decide +kernel
theorem dL_law_644 : decode cL_law 644 = .ok (.iconst 2, 1) := by decide +kernel
theorem dL_law_645 : decode cL_law 645 = .ok (.iadd, 1) := by decide +kernel
theorem dL_law_646 : decode cL_law 646 = .ok (.iaload, 1) := by decide +kernel
theorem dL_law_647 : decode cL_law 647 = .ok (.invokevirtual 119, 3) := by decide +kernel
theorem dL_law_650 : decode cL_law 650 = .ok (.aload_n 2, 1) := by decide +kernel
theorem dL_law_651 : decode cL_law 651 = .ok (.invokevirtual 89, 3) := by decide +kernel
theorem dL_law_654 : decode cL_law 654 = .ok (.iload 5, 2) := by decide +kernel
theorem dL_law_656 : decode cL_law 656 = .ok (.if_icmp .eq 5, 3) := by decide +kernel
theorem dL_law_659 : decode cL_law 659 = .ok (.iconst 0, 1) := by decide +kernel
theorem dL_law_660 : decode cL_law 660 = .ok (.ireturn, 1) := by decide +kernel
theorem dL_law_661 : decode cL_law 661 = .ok (.goto 508, 3) := by decide +kernel
theorem dL_law_664 : decode cL_law 664 = .ok (.aload_n 1, 1) := by decide +kernel
theorem dL_law_665 : decode cL_law 665 = .ok (.aload_n 3, 1) := by decide +kernel
theorem dL_law_666 : decode cL_law 666 = .ok (.invokestatic 120, 3) := by decide +kernel
theorem dL_law_669 : decode cL_law 669 = .ok (.istore 5, 2) := by decide +kernel
theorem dL_law_671 : decode cL_law 671 = .ok (.aload_n 2, 1) := by decide +kernel
theorem dL_law_672 : decode cL_law 672 = .ok (.invokevirtual 122, 3) := by decide +kernel
theorem dL_law_675 : decode cL_law 675 = .ok (.istore 6, 2) := by decide +kernel
theorem dL_law_677 : decode cL_law 677 = .ok (.aload_n 2, 1) := by decide +kernel
theorem dL_law_678 : decode cL_law 678 = .ok (.invokevirtual 89, 3) := by decide +kernel
theorem dL_law_681 : decode cL_law 681 = .ok (.iload 5, 2) := by decide +kernel
theorem dL_law_683 : decode cL_law 683 = .ok (.if_icmp .eq 5, 3) := by decide +kernel
theorem dL_law_686 : decode cL_law 686 = .ok (.iconst 0, 1) := by decide +kernel
theorem dL_law_687 : decode cL_law 687 = .ok (.ireturn, 1) := by decide +kernel
theorem dL_law_688 : decode cL_law 688 = .ok (.iload 5, 2) := by decide +kernel
theorem dL_law_690 : decode cL_law 690 = .ok (.ifCond .ne 22, 3) := by decide +kernel
theorem dL_law_693 : decode cL_law 693 = .ok (.aload_n 3, 1) := by decide +kernel
theorem dL_law_694 : decode cL_law 694 = .ok (.iconst 0, 1) := by decide +kernel
theorem dL_law_695 : decode cL_law 695 = .ok (.laload, 1) := by decide +kernel
theorem dL_law_696 : decode cL_law 696 = .ok (.iload 6, 2) := by decide +kernel
theorem dL_law_698 : decode cL_law 698 = .ok (.ifCond .eq 7, 3) := by decide +kernel
theorem dL_law_701 : decode cL_law 701 = .ok (.lconst 1, 1) := by decide +kernel
theorem dL_law_702 : decode cL_law 702 = .ok (.goto 4, 3) := by decide +kernel
theorem dL_law_705 : decode cL_law 705 = .ok (.lconst 0, 1) := by decide +kernel
theorem dL_law_706 : decode cL_law 706 = .ok (.lcmp, 1) := by decide +kernel
theorem dL_law_707 : decode cL_law 707 = .ok (.ifCond .eq 5, 3) := by decide +kernel
theorem dL_law_710 : decode cL_law 710 = .ok (.iconst 0, 1) := by decide +kernel
theorem dL_law_711 : decode cL_law 711 = .ok (.ireturn, 1) := by decide +kernel
theorem dL_law_712 : decode cL_law 712 = .ok (.goto 457, 3) := by decide +kernel
theorem dL_law_715 : decode cL_law 715 = .ok (.aload_n 1, 1) := by decide +kernel
theorem dL_law_716 : decode cL_law 716 = .ok (.aload_n 0, 1) := by decide +kernel
theorem dL_law_717 : decode cL_law 717 = .ok (.iload 4, 2) := by decide +kernel
theorem dL_law_719 : decode cL_law 719 = .ok (.iconst 1, 1) := by decide +kernel
theorem dL_law_720 : decode cL_law 720 = .ok (.iadd, 1) := by decide +kernel
theorem dL_law_721 : decode cL_law 721 = .ok (.iaload, 1) := by decide +kernel
theorem dL_law_722 : decode cL_law 722 = .ok (.aload_n 3, 1) := by decide +kernel
theorem dL_law_723 : decode cL_law 723 = .ok (.invokestatic 123, 3) := by decide +kernel
theorem dL_law_726 : decode cL_law 726 = .ok (.istore 5, 2) := by decide +kernel
theorem dL_law_728 : decode cL_law 728 = .ok (.aload_n 2, 1) := by decide +kernel
theorem dL_law_729 : decode cL_law 729 = .ok (.aload_n 0, 1) := by decide +kernel
theorem dL_law_730 : decode cL_law 730 = .ok (.iload 4, 2) := by decide +kernel
theorem dL_law_732 : decode cL_law 732 = .ok (.iconst 1, 1) := by decide +kernel
theorem dL_law_733 : decode cL_law 733 = .ok (.iadd, 1) := by decide +kernel
theorem dL_law_734 : decode cL_law 734 = .ok (.iaload, 1) := by decide +kernel
theorem dL_law_735 : decode cL_law 735 = .ok (.invokevirtual 125, 3) := by decide +kernel
theorem dL_law_738 : decode cL_law 738 = .ok (.istore 6, 2) := by decide +kernel
theorem dL_law_740 : decode cL_law 740 = .ok (.aload_n 2, 1) := by decide +kernel
theorem dL_law_741 : decode cL_law 741 = .ok (.invokevirtual 89, 3) := by decide +kernel
theorem dL_law_744 : decode cL_law 744 = .ok (.iload 5, 2) := by decide +kernel
theorem dL_law_746 : decode cL_law 746 = .ok (.if_icmp .eq 5, 3) := by decide +kernel
theorem dL_law_749 : decode cL_law 749 = .ok (.iconst 0, 1) := by decide +kernel
theorem dL_law_750 : decode cL_law 750 = .ok (.ireturn, 1) := by decide +kernel
theorem dL_law_751 : decode cL_law 751 = .ok (.iload 5, 2) := by decide +kernel
theorem dL_law_753 : decode cL_law 753 = .ok (.ifCond .ne 22, 3) := by decide +kernel
theorem dL_law_756 : decode cL_law 756 = .ok (.aload_n 3, 1) := by decide +kernel
theorem dL_law_757 : decode cL_law 757 = .ok (.iconst 0, 1) := by decide +kernel
theorem dL_law_758 : decode cL_law 758 = .ok (.laload, 1) := by decide +kernel
theorem dL_law_759 : decode cL_law 759 = .ok (.iload 6, 2) := by decide +kernel
theorem dL_law_761 : decode cL_law 761 = .ok (.ifCond .eq 7, 3) := by decide +kernel
theorem dL_law_764 : decode cL_law 764 = .ok (.lconst 1, 1) := by decide +kernel
theorem dL_law_765 : decode cL_law 765 = .ok (.goto 4, 3) := by decide +kernel
theorem dL_law_768 : decode cL_law 768 = .ok (.lconst 0, 1) := by decide +kernel
theorem dL_law_769 : decode cL_law 769 = .ok (.lcmp, 1) := by decide +kernel
theorem dL_law_770 : decode cL_law 770 = .ok (.ifCond .eq 5, 3) := by decide +kernel
theorem dL_law_773 : decode cL_law 773 = .ok (.iconst 0, 1) := by decide +kernel
theorem dL_law_774 : decode cL_law 774 = .ok (.ireturn, 1) := by decide +kernel
theorem dL_law_775 : decode cL_law 775 = .ok (.goto 394, 3) := by decide +kernel
theorem dL_law_778 : decode cL_law 778 = .ok (.aload_n 1, 1) := by decide +kernel
theorem dL_law_779 : decode cL_law 779 = .ok (.aload_n 0, 1) := by decide +kernel
theorem dL_law_780 : decode cL_law 780 = .ok (.iload 4, 2) := by decide +kernel
theorem dL_law_782 : decode cL_law 782 = .ok (.iconst 1, 1) := by decide +kernel
theorem dL_law_783 : decode cL_law 783 = .ok (.iadd, 1) := by decide +kernel
theorem dL_law_784 : decode cL_law 784 = .ok (.iaload, 1) := by decide +kernel
theorem dL_law_785 : decode cL_law 785 = .ok (.aload_n 3, 1) := by decide +kernel
theorem dL_law_786 : decode cL_law 786 = .ok (.invokestatic 126, 3) := by decide +kernel
theorem dL_law_789 : decode cL_law 789 = .ok (.istore 5, 2) := by decide +kernel
theorem dL_law_791 : decode cL_law 791 = .ok (.aload_n 2, 1) := by decide +kernel
theorem dL_law_792 : decode cL_law 792 = .ok (.aload_n 0, 1) := by decide +kernel
theorem dL_law_793 : decode cL_law 793 = .ok (.iload 4, 2) := by decide +kernel
theorem dL_law_795 : decode cL_law 795 = .ok (.iconst 1, 1) := by decide +kernel
theorem dL_law_796 : decode cL_law 796 = .ok (.iadd, 1) := by decide +kernel
theorem dL_law_797 : decode cL_law 797 = .ok (.iaload, 1) := by decide +kernel
theorem dL_law_798 : decode cL_law 798 = .ok (.invokevirtual 128, 3) := by decide +kernel
theorem dL_law_801 : decode cL_law 801 = .ok (.istore 6, 2) := by decide +kernel
theorem dL_law_803 : decode cL_law 803 = .ok (.aload_n 2, 1) := by decide +kernel
theorem dL_law_804 : decode cL_law 804 = .ok (.invokevirtual 89, 3) := by decide +kernel
theorem dL_law_807 : decode cL_law 807 = .ok (.iload 5, 2) := by decide +kernel
theorem dL_law_809 : decode cL_law 809 = .ok (.if_icmp .eq 5, 3) := by decide +kernel
theorem dL_law_812 : decode cL_law 812 = .ok (.iconst 0, 1) := by decide +kernel
theorem dL_law_813 : decode cL_law 813 = .ok (.ireturn, 1) := by decide +kernel
theorem dL_law_814 : decode cL_law 814 = .ok (.iload 5, 2) := by decide +kernel
theorem dL_law_816 : decode cL_law 816 = .ok (.ifCond .ne 15, 3) := by decide +kernel
theorem dL_law_819 : decode cL_law 819 = .ok (.aload_n 3, 1) := by decide +kernel
theorem dL_law_820 : decode cL_law 820 = .ok (.iconst 0, 1) := by decide +kernel
theorem dL_law_821 : decode cL_law 821 = .ok (.laload, 1) := by decide +kernel
theorem dL_law_822 : decode cL_law 822 = .ok (.iload 6, 2) := by decide +kernel
theorem dL_law_824 : decode cL_law 824 = .ok (.i2l, 1) := by decide +kernel
theorem dL_law_825 : decode cL_law 825 = .ok (.lcmp, 1) := by decide +kernel
theorem dL_law_826 : decode cL_law 826 = .ok (.ifCond .eq 5, 3) := by decide +kernel
theorem dL_law_829 : decode cL_law 829 = .ok (.iconst 0, 1) := by decide +kernel
theorem dL_law_830 : decode cL_law 830 = .ok (.ireturn, 1) := by decide +kernel
theorem dL_law_831 : decode cL_law 831 = .ok (.goto 338, 3) := by decide +kernel
theorem dL_law_834 : decode cL_law 834 = .ok (.aload_n 1, 1) := by decide +kernel
theorem dL_law_835 : decode cL_law 835 = .ok (.aload_n 3, 1) := by decide +kernel
theorem dL_law_836 : decode cL_law 836 = .ok (.invokestatic 129, 3) := by decide +kernel
theorem dL_law_839 : decode cL_law 839 = .ok (.istore 5, 2) := by decide +kernel
theorem dL_law_841 : decode cL_law 841 = .ok (.aload_n 2, 1) := by decide +kernel
theorem dL_law_842 : decode cL_law 842 = .ok (.invokevirtual 131, 3) := by decide +kernel
theorem dL_law_845 : decode cL_law 845 = .ok (.istore 6, 2) := by decide +kernel
theorem dL_law_847 : decode cL_law 847 = .ok (.aload_n 2, 1) := by decide +kernel
theorem dL_law_848 : decode cL_law 848 = .ok (.invokevirtual 89, 3) := by decide +kernel
theorem dL_law_851 : decode cL_law 851 = .ok (.iload 5, 2) := by decide +kernel
theorem dL_law_853 : decode cL_law 853 = .ok (.if_icmp .eq 5, 3) := by decide +kernel
theorem dL_law_856 : decode cL_law 856 = .ok (.iconst 0, 1) := by decide +kernel
theorem dL_law_857 : decode cL_law 857 = .ok (.ireturn, 1) := by decide +kernel
theorem dL_law_858 : decode cL_law 858 = .ok (.iload 5, 2) := by decide +kernel
theorem dL_law_860 : decode cL_law 860 = .ok (.ifCond .ne 15, 3) := by decide +kernel
theorem dL_law_863 : decode cL_law 863 = .ok (.aload_n 3, 1) := by decide +kernel
theorem dL_law_864 : decode cL_law 864 = .ok (.iconst 0, 1) := by decide +kernel
theorem dL_law_865 : decode cL_law 865 = .ok (.laload, 1) := by decide +kernel
theorem dL_law_866 : decode cL_law 866 = .ok (.iload 6, 2) := by decide +kernel
theorem dL_law_868 : decode cL_law 868 = .ok (.i2l, 1) := by decide +kernel
theorem dL_law_869 : decode cL_law 869 = .ok (.lcmp, 1) := by decide +kernel
theorem dL_law_870 : decode cL_law 870 = .ok (.ifCond .eq 5, 3) := by decide +kernel
theorem dL_law_873 : decode cL_law 873 = .ok (.iconst 0, 1) := by decide +kernel
theorem dL_law_874 : decode cL_law 874 = .ok (.ireturn, 1) := by decide +kernel
theorem dL_law_875 : decode cL_law 875 = .ok (.goto 294, 3) := by decide +kernel
theorem dL_law_878 : decode cL_law 878 = .ok (.aload_n 1, 1) := by decide +kernel
theorem dL_law_879 : decode cL_law 879 = .ok (.aload_n 3, 1) := by decide +kernel
theorem dL_law_880 : decode cL_law 880 = .ok (.invokestatic 132, 3) := by decide +kernel
theorem dL_law_883 : decode cL_law 883 = .ok (.istore 5, 2) := by decide +kernel
theorem dL_law_885 : decode cL_law 885 = .ok (.aload_n 2, 1) := by decide +kernel
theorem dL_law_886 : decode cL_law 886 = .ok (.invokevirtual 134, 3) := by decide +kernel
theorem dL_law_889 : decode cL_law 889 = .ok (.istore 6, 2) := by decide +kernel
theorem dL_law_891 : decode cL_law 891 = .ok (.aload_n 2, 1) := by decide +kernel
theorem dL_law_892 : decode cL_law 892 = .ok (.invokevirtual 89, 3) := by decide +kernel
theorem dL_law_895 : decode cL_law 895 = .ok (.iload 5, 2) := by decide +kernel
theorem dL_law_897 : decode cL_law 897 = .ok (.if_icmp .eq 5, 3) := by decide +kernel
theorem dL_law_900 : decode cL_law 900 = .ok (.iconst 0, 1) := by decide +kernel
theorem dL_law_901 : decode cL_law 901 = .ok (.ireturn, 1) := by decide +kernel
theorem dL_law_902 : decode cL_law 902 = .ok (.iload 5, 2) := by decide +kernel
theorem dL_law_904 : decode cL_law 904 = .ok (.ifCond .ne 15, 3) := by decide +kernel
theorem dL_law_907 : decode cL_law 907 = .ok (.aload_n 3, 1) := by decide +kernel
theorem dL_law_908 : decode cL_law 908 = .ok (.iconst 0, 1) := by decide +kernel
theorem dL_law_909 : decode cL_law 909 = .ok (.laload, 1) := by decide +kernel
theorem dL_law_910 : decode cL_law 910 = .ok (.iload 6, 2) := by decide +kernel
theorem dL_law_912 : decode cL_law 912 = .ok (.i2l, 1) := by decide +kernel
theorem dL_law_913 : decode cL_law 913 = .ok (.lcmp, 1) := by decide +kernel
theorem dL_law_914 : decode cL_law 914 = .ok (.ifCond .eq 5, 3) := by decide +kernel
theorem dL_law_917 : decode cL_law 917 = .ok (.iconst 0, 1) := by decide +kernel
theorem dL_law_918 : decode cL_law 918 = .ok (.ireturn, 1) := by decide +kernel
theorem dL_law_919 : decode cL_law 919 = .ok (.goto 250, 3) := by decide +kernel
theorem dL_law_922 : decode cL_law 922 = .ok (.aload_n 1, 1) := by decide +kernel
theorem dL_law_923 : decode cL_law 923 = .ok (.aload_n 0, 1) := by decide +kernel
theorem dL_law_924 : decode cL_law 924 = .ok (.iload 4, 2) := by decide +kernel
theorem dL_law_926 : decode cL_law 926 = .ok (.iconst 1, 1) := by decide +kernel
theorem dL_law_927 : decode cL_law 927 = .ok (.iadd, 1) := by decide +kernel
theorem dL_law_928 : decode cL_law 928 = .ok (.iaload, 1) := by decide +kernel
theorem dL_law_929 : decode cL_law 929 = .ok (.aload_n 3, 1) := by decide +kernel
theorem dL_law_930 : decode cL_law 930 = .ok (.invokestatic 135, 3) := by decide +kernel
theorem dL_law_933 : decode cL_law 933 = .ok (.istore 5, 2) := by decide +kernel
theorem dL_law_935 : decode cL_law 935 = .ok (.aload_n 2, 1) := by decide +kernel
theorem dL_law_936 : decode cL_law 936 = .ok (.aload_n 0, 1) := by decide +kernel
theorem dL_law_937 : decode cL_law 937 = .ok (.iload 4, 2) := by decide +kernel
theorem dL_law_939 : decode cL_law 939 = .ok (.iconst 1, 1) := by decide +kernel
theorem dL_law_940 : decode cL_law 940 = .ok (.iadd, 1) := by decide +kernel
theorem dL_law_941 : decode cL_law 941 = .ok (.iaload, 1) := by decide +kernel
theorem dL_law_942 : decode cL_law 942 = .ok (.invokevirtual 137, 3) := by decide +kernel
theorem dL_law_945 : decode cL_law 945 = .ok (.istore 6, 2) := by decide +kernel
theorem dL_law_947 : decode cL_law 947 = .ok (.aload_n 2, 1) := by decide +kernel
theorem dL_law_948 : decode cL_law 948 = .ok (.invokevirtual 89, 3) := by decide +kernel
theorem dL_law_951 : decode cL_law 951 = .ok (.iload 5, 2) := by decide +kernel
theorem dL_law_953 : decode cL_law 953 = .ok (.if_icmp .eq 5, 3) := by decide +kernel
theorem dL_law_956 : decode cL_law 956 = .ok (.iconst 0, 1) := by decide +kernel
theorem dL_law_957 : decode cL_law 957 = .ok (.ireturn, 1) := by decide +kernel
theorem dL_law_958 : decode cL_law 958 = .ok (.iload 5, 2) := by decide +kernel
theorem dL_law_960 : decode cL_law 960 = .ok (.ifCond .ne 15, 3) := by decide +kernel
theorem dL_law_963 : decode cL_law 963 = .ok (.aload_n 3, 1) := by decide +kernel
theorem dL_law_964 : decode cL_law 964 = .ok (.iconst 0, 1) := by decide +kernel
theorem dL_law_965 : decode cL_law 965 = .ok (.laload, 1) := by decide +kernel
theorem dL_law_966 : decode cL_law 966 = .ok (.iload 6, 2) := by decide +kernel
theorem dL_law_968 : decode cL_law 968 = .ok (.i2l, 1) := by decide +kernel
theorem dL_law_969 : decode cL_law 969 = .ok (.lcmp, 1) := by decide +kernel
theorem dL_law_970 : decode cL_law 970 = .ok (.ifCond .eq 5, 3) := by decide +kernel
theorem dL_law_973 : decode cL_law 973 = .ok (.iconst 0, 1) := by decide +kernel
theorem dL_law_974 : decode cL_law 974 = .ok (.ireturn, 1) := by decide +kernel
theorem dL_law_975 : decode cL_law 975 = .ok (.goto 194, 3) := by decide +kernel
theorem dL_law_978 : decode cL_law 978 = .ok (.aload_n 1, 1) := by decide +kernel
theorem dL_law_979 : decode cL_law 979 = .ok (.aload_n 0, 1) := by decide +kernel
theorem dL_law_980 : decode cL_law 980 = .ok (.iload 4, 2) := by decide +kernel
theorem dL_law_982 : decode cL_law 982 = .ok (.iconst 1, 1) := by decide +kernel
theorem dL_law_983 : decode cL_law 983 = .ok (.iadd, 1) := by decide +kernel
theorem dL_law_984 : decode cL_law 984 = .ok (.iaload, 1) := by decide +kernel
theorem dL_law_985 : decode cL_law 985 = .ok (.aload_n 0, 1) := by decide +kernel
theorem dL_law_986 : decode cL_law 986 = .ok (.iload 4, 2) := by decide +kernel
theorem dL_law_988 : decode cL_law 988 = .ok (.iconst 2, 1) := by decide +kernel
theorem dL_law_989 : decode cL_law 989 = .ok (.iadd, 1) := by decide +kernel
theorem dL_law_990 : decode cL_law 990 = .ok (.iaload, 1) := by decide +kernel
theorem dL_law_991 : decode cL_law 991 = .ok (.ifCond .eq 7, 3) := by decide +kernel
theorem dL_law_994 : decode cL_law 994 = .ok (.iconst 1, 1) := by decide +kernel
theorem dL_law_995 : decode cL_law 995 = .ok (.goto 4, 3) := by decide +kernel
theorem dL_law_998 : decode cL_law 998 = .ok (.iconst 0, 1) := by decide +kernel
theorem dL_law_999 : decode cL_law 999 = .ok (.aload_n 3, 1) := by decide +kernel
theorem dL_law_1000 : decode cL_law 1000 = .ok (.invokestatic 138, 3) := by decide +kernel
theorem dL_law_1003 : decode cL_law 1003 = .ok (.istore 5, 2) := by decide +kernel
theorem dL_law_1005 : decode cL_law 1005 = .ok (.aload_n 2, 1) := by decide +kernel
theorem dL_law_1006 : decode cL_law 1006 = .ok (.aload_n 0, 1) := by decide +kernel
theorem dL_law_1007 : decode cL_law 1007 = .ok (.iload 4, 2) := by decide +kernel
theorem dL_law_1009 : decode cL_law 1009 = .ok (.iconst 1, 1) := by decide +kernel
theorem dL_law_1010 : decode cL_law 1010 = .ok (.iadd, 1) := by decide +kernel
theorem dL_law_1011 : decode cL_law 1011 = .ok (.iaload, 1) := by decide +kernel
theorem dL_law_1012 : decode cL_law 1012 = .ok (.aload_n 0, 1) := by decide +kernel
theorem dL_law_1013 : decode cL_law 1013 = .ok (.iload 4, 2) := by decide +kernel
theorem dL_law_1015 : decode cL_law 1015 = .ok (.iconst 2, 1) := by decide +kernel
theorem dL_law_1016 : decode cL_law 1016 = .ok (.iadd, 1) := by decide +kernel
theorem dL_law_1017 : decode cL_law 1017 = .ok (.iaload, 1) := by decide +kernel
theorem dL_law_1018 : decode cL_law 1018 = .ok (.ifCond .eq 7, 3) := by decide +kernel
theorem dL_law_1021 : decode cL_law 1021 = .ok (.iconst 1, 1) := by decide +kernel
theorem dL_law_1022 : decode cL_law 1022 = .ok (.goto 4, 3) := by decide +kernel
theorem dL_law_1025 : decode cL_law 1025 = .ok (.iconst 0, 1) := by decide +kernel
theorem dL_law_1026 : decode cL_law 1026 = .ok (.invokevirtual 141, 3) := by decide +kernel
theorem dL_law_1029 : decode cL_law 1029 = .ok (.istore 6, 2) := by decide +kernel
theorem dL_law_1031 : decode cL_law 1031 = .ok (.aload_n 2, 1) := by decide +kernel
theorem dL_law_1032 : decode cL_law 1032 = .ok (.invokevirtual 89, 3) := by decide +kernel
theorem dL_law_1035 : decode cL_law 1035 = .ok (.iload 5, 2) := by decide +kernel
theorem dL_law_1037 : decode cL_law 1037 = .ok (.if_icmp .eq 5, 3) := by decide +kernel
theorem dL_law_1040 : decode cL_law 1040 = .ok (.iconst 0, 1) := by decide +kernel
theorem dL_law_1041 : decode cL_law 1041 = .ok (.ireturn, 1) := by decide +kernel
theorem dL_law_1042 : decode cL_law 1042 = .ok (.iload 5, 2) := by decide +kernel
theorem dL_law_1044 : decode cL_law 1044 = .ok (.ifCond .ne 15, 3) := by decide +kernel
theorem dL_law_1047 : decode cL_law 1047 = .ok (.aload_n 3, 1) := by decide +kernel
theorem dL_law_1048 : decode cL_law 1048 = .ok (.iconst 0, 1) := by decide +kernel
theorem dL_law_1049 : decode cL_law 1049 = .ok (.laload, 1) := by decide +kernel
theorem dL_law_1050 : decode cL_law 1050 = .ok (.iload 6, 2) := by decide +kernel
theorem dL_law_1052 : decode cL_law 1052 = .ok (.i2l, 1) := by decide +kernel
theorem dL_law_1053 : decode cL_law 1053 = .ok (.lcmp, 1) := by decide +kernel
theorem dL_law_1054 : decode cL_law 1054 = .ok (.ifCond .eq 5, 3) := by decide +kernel
theorem dL_law_1057 : decode cL_law 1057 = .ok (.iconst 0, 1) := by decide +kernel
theorem dL_law_1058 : decode cL_law 1058 = .ok (.ireturn, 1) := by decide +kernel
theorem dL_law_1059 : decode cL_law 1059 = .ok (.goto 110, 3) := by decide +kernel
theorem dL_law_1062 : decode cL_law 1062 = .ok (.aload_n 1, 1) := by decide +kernel
theorem dL_law_1063 : decode cL_law 1063 = .ok (.aload_n 3, 1) := by decide +kernel
theorem dL_law_1064 : decode cL_law 1064 = .ok (.invokestatic 142, 3) := by decide +kernel
theorem dL_law_1067 : decode cL_law 1067 = .ok (.istore 5, 2) := by decide +kernel
theorem dL_law_1069 : decode cL_law 1069 = .ok (.aload_n 2, 1) := by decide +kernel
theorem dL_law_1070 : decode cL_law 1070 = .ok (.invokevirtual 144, 3) := by decide +kernel
theorem dL_law_1073 : decode cL_law 1073 = .ok (.istore 6, 2) := by decide +kernel
theorem dL_law_1075 : decode cL_law 1075 = .ok (.aload_n 2, 1) := by decide +kernel
theorem dL_law_1076 : decode cL_law 1076 = .ok (.invokevirtual 89, 3) := by decide +kernel
theorem dL_law_1079 : decode cL_law 1079 = .ok (.iload 5, 2) := by decide +kernel
theorem dL_law_1081 : decode cL_law 1081 = .ok (.if_icmp .eq 5, 3) := by decide +kernel
theorem dL_law_1084 : decode cL_law 1084 = .ok (.iconst 0, 1) := by decide +kernel
theorem dL_law_1085 : decode cL_law 1085 = .ok (.ireturn, 1) := by decide +kernel
theorem dL_law_1086 : decode cL_law 1086 = .ok (.iload 5, 2) := by decide +kernel
theorem dL_law_1088 : decode cL_law 1088 = .ok (.ifCond .ne 15, 3) := by decide +kernel
theorem dL_law_1091 : decode cL_law 1091 = .ok (.aload_n 3, 1) := by decide +kernel
theorem dL_law_1092 : decode cL_law 1092 = .ok (.iconst 0, 1) := by decide +kernel
theorem dL_law_1093 : decode cL_law 1093 = .ok (.laload, 1) := by decide +kernel
theorem dL_law_1094 : decode cL_law 1094 = .ok (.iload 6, 2) := by decide +kernel
theorem dL_law_1096 : decode cL_law 1096 = .ok (.i2l, 1) := by decide +kernel
theorem dL_law_1097 : decode cL_law 1097 = .ok (.lcmp, 1) := by decide +kernel
theorem dL_law_1098 : decode cL_law 1098 = .ok (.ifCond .eq 5, 3) := by decide +kernel
theorem dL_law_1101 : decode cL_law 1101 = .ok (.iconst 0, 1) := by decide +kernel
theorem dL_law_1102 : decode cL_law 1102 = .ok (.ireturn, 1) := by decide +kernel
theorem dL_law_1103 : decode cL_law 1103 = .ok (.goto 66, 3) := by decide +kernel
theorem dL_law_1106 : decode cL_law 1106 = .ok (.aload_n 1, 1) := by decide +kernel
theorem dL_law_1107 : decode cL_law 1107 = .ok (.aload_n 0, 1) := by decide +kernel
theorem dL_law_1108 : decode cL_law 1108 = .ok (.iload 4, 2) := by decide +kernel
theorem dL_law_1110 : decode cL_law 1110 = .ok (.iconst 1, 1) := by decide +kernel
theorem dL_law_1111 : decode cL_law 1111 = .ok (.iadd, 1) := by decide +kernel
theorem dL_law_1112 : decode cL_law 1112 = .ok (.iaload, 1) := by decide +kernel
theorem dL_law_1113 : decode cL_law 1113 = .ok (.aload_n 3, 1) := by decide +kernel
theorem dL_law_1114 : decode cL_law 1114 = .ok (.invokestatic 145, 3) := by decide +kernel
theorem dL_law_1117 : decode cL_law 1117 = .ok (.istore 5, 2) := by decide +kernel
theorem dL_law_1119 : decode cL_law 1119 = .ok (.aload_n 2, 1) := by decide +kernel
theorem dL_law_1120 : decode cL_law 1120 = .ok (.aload_n 0, 1) := by decide +kernel
theorem dL_law_1121 : decode cL_law 1121 = .ok (.iload 4, 2) := by decide +kernel
theorem dL_law_1123 : decode cL_law 1123 = .ok (.iconst 1, 1) := by decide +kernel
theorem dL_law_1124 : decode cL_law 1124 = .ok (.iadd, 1) := by decide +kernel
theorem dL_law_1125 : decode cL_law 1125 = .ok (.iaload, 1) := by decide +kernel
theorem dL_law_1126 : decode cL_law 1126 = .ok (.invokevirtual 147, 3) := by decide +kernel
theorem dL_law_1129 : decode cL_law 1129 = .ok (.istore 6, 2) := by decide +kernel
theorem dL_law_1131 : decode cL_law 1131 = .ok (.aload_n 2, 1) := by decide +kernel
theorem dL_law_1132 : decode cL_law 1132 = .ok (.invokevirtual 89, 3) := by decide +kernel
theorem dL_law_1135 : decode cL_law 1135 = .ok (.iload 5, 2) := by decide +kernel
theorem dL_law_1137 : decode cL_law 1137 = .ok (.if_icmp .eq 5, 3) := by decide +kernel
theorem dL_law_1140 : decode cL_law 1140 = .ok (.iconst 0, 1) := by decide +kernel
theorem dL_law_1141 : decode cL_law 1141 = .ok (.ireturn, 1) := by decide +kernel
theorem dL_law_1142 : decode cL_law 1142 = .ok (.iload 5, 2) := by decide +kernel
theorem dL_law_1144 : decode cL_law 1144 = .ok (.ifCond .ne 22, 3) := by decide +kernel
theorem dL_law_1147 : decode cL_law 1147 = .ok (.aload_n 3, 1) := by decide +kernel
theorem dL_law_1148 : decode cL_law 1148 = .ok (.iconst 0, 1) := by decide +kernel
theorem dL_law_1149 : decode cL_law 1149 = .ok (.laload, 1) := by decide +kernel
theorem dL_law_1150 : decode cL_law 1150 = .ok (.iload 6, 2) := by decide +kernel
theorem dL_law_1152 : decode cL_law 1152 = .ok (.ifCond .eq 7, 3) := by decide +kernel
theorem dL_law_1155 : decode cL_law 1155 = .ok (.lconst 1, 1) := by decide +kernel
theorem dL_law_1156 : decode cL_law 1156 = .ok (.goto 4, 3) := by decide +kernel
theorem dL_law_1159 : decode cL_law 1159 = .ok (.lconst 0, 1) := by decide +kernel
theorem dL_law_1160 : decode cL_law 1160 = .ok (.lcmp, 1) := by decide +kernel
theorem dL_law_1161 : decode cL_law 1161 = .ok (.ifCond .eq 5, 3) := by decide +kernel
theorem dL_law_1164 : decode cL_law 1164 = .ok (.iconst 0, 1) := by decide +kernel
theorem dL_law_1165 : decode cL_law 1165 = .ok (.ireturn, 1) := by decide +kernel
theorem dL_law_1166 : decode cL_law 1166 = .ok (.goto 3, 3) := by decide +kernel
theorem dL_law_1169 : decode cL_law 1169 = .ok (.iinc 4 5, 3) := by decide +kernel
theorem dL_law_1172 : decode cL_law 1172 = .ok (.goto (-1149), 3) := by decide +kernel
theorem dL_law_1175 : decode cL_law 1175 = .ok (.iconst 1, 1) := by decide +kernel
theorem dL_law_1176 : decode cL_law 1176 = .ok (.ireturn, 1) := by decide +kernel
end
section
section
def InR (x : Int) : Prop := -2147483648 ≤ x ∧ x < 2147483648
abbrev iN (x : Int) : Value := .int (Int32.ofInt x)
abbrev jN (x : Int) : Value := .long (Int64.ofInt x)
abbrev St : Type := Nat → Int → Int
def updS (μ : St) (a : Nat) (k v : Int) : St := fun b j => if b = a ∧ j = k then v else μ b j
def InRg (μ : St) : Prop := ∀ a k, InR (μ a k)
theorem InRg.upd {μ : St} (h : InRg μ) {a : Nat} {k v : Int} (hv : InR v) : InRg (updS μ a k v) := by
  intro b j
  unfold updS
  split
  · exact hv
  · exact h b j
theorem updS_self (μ : St) (a : Nat) (k v : Int) : updS μ a k v a k = v := by simp [updS]
theorem updS_ne (μ : St) {a b : Nat} (k v j : Int) (h : b ≠ a) : updS μ a k v b j = μ b j := by simp [updS, h]
theorem updS_nk (μ : St) (a b : Nat) {k j : Int} (v : Int) (h : j ≠ k) : updS μ a k v b j = μ b j := by simp [updS, h]
theorem x_toInt {x : Int} (h : InR x) : (Int32.ofInt x).toInt = x := Int32.toInt_ofInt_of_le (by have := h.1; omega) (by have := h.2; omega)
theorem x_inj {x y : Int} (hx : InR x) (hy : InR y) : Int32.ofInt x = Int32.ofInt y ↔ x = y :=
  ⟨fun h => by rw [← x_toInt hx, ← x_toInt hy, h], fun h => by rw [h]⟩
theorem x_0 : (0 : Int32) = Int32.ofInt 0 := by decide +kernel
theorem r_0 : InR 0 := ⟨by decide, by decide⟩
theorem x_lt {x y : Int} (hx : InR x) (hy : InR y) : Int32.ofInt x < Int32.ofInt y ↔ x < y := by
  rw [Int32.lt_iff_toInt_lt, x_toInt hx, x_toInt hy]
theorem x_le {x y : Int} (hx : InR x) (hy : InR y) : Int32.ofInt x ≤ Int32.ofInt y ↔ x ≤ y := by
  rw [Int32.le_iff_toInt_le, x_toInt hx, x_toInt hy]
theorem x_clamp {x : Int} (h0 : 0 ≤ x) (h1 : x < 2147483648) : (Int32.ofInt x).toNatClampNeg = x.toNat :=
  Int32.toNatClampNeg_ofInt_of_le (by omega) (by omega)
theorem x_in {x : Int} {n : Nat} (h0 : 0 ≤ x) (h1 : x < n) (hn : n ≤ 100000) : vp_in (Int32.ofInt x) n := by
  have h2 : x < 2147483648 := by omega
  rintro (h | h)
  · rw [x_0, x_lt ⟨by omega, h2⟩ r_0] at h
    omega
  · rw [x_clamp h0 h2] at h
    omega
theorem x_bmod (x : Int) : Int32.ofInt x = Int32.ofInt ((Int32.ofInt x).toInt) := by rw [Int32.ofInt_toInt]
theorem r_of (x : Int32) : InR x.toInt := by
  have h1 := x.minValue_le_toInt
  have h2 := x.toInt_le
  have h3 : Int32.maxValue.toInt = 2147483647 := by decide +kernel
  have h4 : Int32.minValue.toInt = -2147483648 := by decide +kernel
  exact ⟨by omega, by omega⟩
end

section
def kd (a : Nat) : Nat := if a = 0 then 3 else if a = 1 then 1 else if a = 22 then 2 else if a = 128 then 0 else if a = 216 then 4 else if a = 3 ∨ a = 12 ∨ a = 23 ∨ a = 129 ∨ a = 170 then 7 else if a = 127 ∨ a = 225 ∨ a = 230 then 6 else if a = 232 then 8 else 5
def ln (a : Nat) : Nat := if a = 3 ∨ a = 12 then 8 else if a ≤ 21 then 6 else if a = 23 then 100 else if a ≤ 123 then 6 else if a ≤ 127 then 100 else if a = 129 then 40 else if a ≤ 169 then 6 else if a = 170 then 40 else if a ≤ 210 then 8 else if a ≤ 214 then 40 else if a ≤ 218 then 6 else if a ≤ 220 then 48 else if a = 221 then 600 else if a ≤ 225 then 100 else if a = 226 then 240 else if a = 227 then 320 else if a ≤ 230 then 40 else if a = 231 then 6 else 1
def rfo (a k : Nat) : Option Nat := if a = 0 then (if k = 0 then some 1 else if k = 1 then some 21 else if k = 2 then some 22 else if k = 3 then some 128 else none) else if a = 1 then (if k = 2 then some 2 else if k = 3 then some 3 else if k = 4 then some 12 else none) else if a = 22 then (if k = 0 then some 1 else if k = 4 then some 23 else if k = 5 then some 124 else if k = 6 then some 125 else if k = 7 then some 126 else if k = 8 then some 127 else none) else if a = 128 then (if k = 0 then some 1 else if k = 2 then some 129 else if k = 3 then some 170 else if k = 4 then some 211 else if k = 5 then some 212 else if k = 6 then some 213 else if k = 7 then some 214 else if k = 8 then some 215 else none) else if a = 216 then (if k = 3 then some 217 else if k = 4 then some 218 else if k = 5 then some 219 else if k = 6 then some 220 else if k = 8 then some 221 else if k = 9 then some 222 else if k = 10 then some 223 else if k = 11 then some 224 else if k = 12 then some 225 else if k = 16 then some 226 else if k = 17 then some 227 else if k = 18 then some 228 else if k = 19 then some 229 else if k = 20 then some 230 else if k = 21 then some 231 else none) else if a = 3 then some (4 + k) else if a = 12 then some (13 + k) else if a = 23 then some (24 + k) else if a = 129 then some (130 + k) else if a = 170 then some (171 + k) else none
def nf (c : Nat) : Nat := if c = 0 then 9 else if c = 1 then 5 else if c = 2 then 9 else if c = 3 then 4 else 22
def entO (B : Nat) (μ : St) (a n : Nat) : List Value := (List.range n).map (fun k => match rfo a k with | some r => Value.ref (B + r) | none => iN (μ a k))
def ent (B : Nat) (cy : Nat → ClassId) (μ : St) (a : Nat) : va_E :=
  if kd a < 5 then .inr (kd a, entO B μ a (nf (kd a)))
  else if kd a = 7 then .inl (cy 7, ln a, .inr (.inr (.inr (.inr (fun j => (rfo a j).map (fun r => B + r))))))
  else if kd a = 8 then .inl (cy 8, ln a, .inr (.inl (fun j => Int64.ofInt (μ a j))))
  else .inl (cy (kd a), ln a, .inl (fun j => Int32.ofInt (μ a j)))
def WL (B : Nat) (cy : Nat → ClassId) (μ : St) : va_W := (List.range 233).map (fun a => (B + a, ent B cy μ a))
theorem WL_get {B : Nat} {cy : Nat → ClassId} {μ : St} {a : Nat} (h : a < 233) : (WL B cy μ)[a]? = some (B + a, ent B cy μ a) := by
  simp [WL, h]
theorem WL_at {B : Nat} {cy : Nat → ClassId} {μ : St} {k : Nat} {q : Nat × va_E} (h : (WL B cy μ)[k]? = some q) : k < 233 ∧ q = (B + k, ent B cy μ k) := by
  have hk : k < 233 := by
    have := (List.getElem?_eq_some_iff.mp h).1
    simpa [WL] using this
  rw [WL_get hk] at h
  exact ⟨hk, (Option.some.inj h).symm⟩
theorem WL_D {B : Nat} {cy : Nat → ClassId} {μ : St} : va_D (fun q : Nat => B ≤ q) (WL B cy μ) := by
  refine ⟨fun i j p q hi hj e => ?_, fun k q h => ?_⟩
  · obtain ⟨-, rfl⟩ := WL_at hi
    obtain ⟨-, rfl⟩ := WL_at hj
    have e2 : B + i = B + j := e
    omega
  · obtain ⟨-, rfl⟩ := WL_at h
    exact Nat.le_add_right _ _
theorem ent_congr {B : Nat} {cy : Nat → ClassId} {μ μ' : St} {a : Nat} (h : ∀ k, μ a k = μ' a k) : ent B cy μ a = ent B cy μ' a := by
  have e : μ a = μ' a := funext h
  simp [ent, entO, e]
theorem WL_set {B : Nat} {cy : Nat → ClassId} {μ μ' : St} {a : Nat} {x : va_E} (hx : ent B cy μ' a = x) (ho : ∀ b, b ≠ a → ∀ k, μ b k = μ' b k) : (WL B cy μ).set a (B + a, x) = WL B cy μ' := by
  apply List.ext_getElem?
  intro i
  rw [List.getElem?_set]
  by_cases hi : a = i
  · subst hi
    by_cases hl : a < 233
    · rw [if_pos rfl, if_pos (by simp [WL, hl]), WL_get hl, hx]
    · simp [WL, hl]
  · rw [if_neg hi]
    by_cases hl : i < 233
    · rw [WL_get hl, WL_get hl, ent_congr (ho i (Ne.symm hi))]
    · simp [WL, hl]
theorem ent_obj {B : Nat} {cy : Nat → ClassId} {μ : St} {a ci : Nat} (hk : kd a = ci) (h5 : ci < 5) : ent B cy μ a = .inr (ci, entO B μ a (nf ci)) := by
  subst hk
  simp [ent, h5]
theorem ent_int {B : Nat} {cy : Nat → ClassId} {μ : St} {a n : Nat} (hk : kd a = 5) (hn : ln a = n) : ent B cy μ a = .inl (cy 5, n, .inl (fun j => Int32.ofInt (μ a j))) := by
  subst hn
  simp [ent, hk]
theorem ent_bool {B : Nat} {cy : Nat → ClassId} {μ : St} {a n : Nat} (hk : kd a = 6) (hn : ln a = n) : ent B cy μ a = .inl (cy 6, n, .inl (fun j => Int32.ofInt (μ a j))) := by
  subst hn
  simp [ent, hk]
theorem ent_refs {B : Nat} {cy : Nat → ClassId} {μ : St} {a n : Nat} (hk : kd a = 7) (hn : ln a = n) : ent B cy μ a = .inl (cy 7, n, .inr (.inr (.inr (.inr (fun j => (rfo a j).map (fun r => B + r)))))) := by
  subst hn
  simp [ent, hk]
theorem ent_long {B : Nat} {cy : Nat → ClassId} {μ : St} {a n : Nat} (hk : kd a = 8) (hn : ln a = n) : ent B cy μ a = .inl (cy 8, n, .inr (.inl (fun j => Int64.ofInt (μ a j)))) := by
  subst hn
  simp [ent, hk]
theorem entO_int {B : Nat} {μ : St} {a n k : Nat} (hk : k < n) (hr : rfo a k = none) : (entO B μ a n)[k]? = some (iN (μ a k)) := by
  simp [entO, hk, hr]
theorem entO_ref {B : Nat} {μ : St} {a n k r : Nat} (hk : k < n) (hr : rfo a k = some r) : (entO B μ a n)[k]? = some (.ref (B + r)) := by
  simp [entO, hk, hr]
theorem entO_set {B : Nat} {μ : St} {a n k : Nat} (hk : k < n) (hr : rfo a k = none) (v : Int) : (entO B μ a n).set k (iN v) = entO B (updS μ a k v) a n := by
  apply List.ext_getElem?
  intro i
  rw [List.getElem?_set]
  by_cases hi : k = i
  · subst hi
    simp [entO, hk, hr, updS]
  · rw [if_neg hi]
    by_cases hl : i < n
    · have : (i : Int) ≠ (k : Int) := by omega
      simp [entO, hl, updS, this]
    · simp [entO, hl]
theorem fun_set (μ : St) (a : Nat) (i v : Int) (h0 : 0 ≤ i) (n : Nat) (hn : i.toNat = n) : upd (fun j : Nat => Int32.ofInt (μ a j)) n (Int32.ofInt v) = fun j : Nat => Int32.ofInt (updS μ a i v a j) := by
  subst hn
  have hi : ((i.toNat : Nat) : Int) = i := Int.toNat_of_nonneg h0
  funext j
  unfold upd updS
  by_cases h : j = i.toNat
  · subst h
    rw [if_pos rfl, hi, if_pos ⟨rfl, rfl⟩]
  · have : ¬ (j : Int) = i := by omega
    rw [if_neg h, if_neg (fun z => this z.2)]
end

section
def NWF : List (String × Nat × String × String × String) := [("CoverTrees", 106, "CoverTrees$Tree", "parents", "[I"), ("CoverTrees", 109, "CoverTrees$Tree", "cameBy", "[I"), ("CoverTrees", 112, "CoverTrees$Tree", "copies", "[Z"), ("CoverTrees", 135, "CoverTrees$Tree", "depthOfRepeat", "I"), ("CoverTrees", 148, "CoverTrees$Graph", "size", "I"), ("CoverTrees", 159, "CoverTrees$Graph", "distances", "[I"), ("CoverTrees", 162, "CoverTrees$Graph", "cameFrom", "[I"), ("CoverTrees", 165, "CoverTrees$Graph", "cameBy", "[I"), ("CoverTrees", 40, "CoverTrees$Net", "places", "I"), ("CoverTrees", 58, "CoverTrees$Net", "transitions", "I"), ("CoverTrees", 78, "CoverTrees$Net", "first", "[I"), ("CoverTrees", 90, "CoverTrees$Tree", "size", "I"), ("CoverTrees", 99, "CoverTrees$Tree", "markings", "[[I"), ("CoverTrees$Graph", 39, "CoverTrees$Net", "first", "[I"), ("CoverTrees$Graph", 63, "CoverTrees$Net", "transitions", "I"), ("CoverTrees$Tree", 37, "CoverTrees$Net", "transitions", "I"), ("CoverTrees$Tree", 54, "CoverTrees$Net", "first", "[I"), ("CoverTrees$Tree", 99, "CoverTrees$Net", "takes", "[[I")]
def NWM : List (String × Nat × MethodName) := [("CoverTrees", 9, ⟨"CoverTrees$Net", "<init>", "()V"⟩), ("CoverTrees$Graph", 44, ⟨"CoverTrees", "copyInto", "([I[I)V"⟩), ("CoverTrees$Graph", 85, ⟨"CoverTrees", "same", "([I[I)Z"⟩), ("CoverTrees$Net", 30, ⟨"CoverTrees", "covers", "([I[I)Z"⟩), ("CoverTrees$Tree", 57, ⟨"CoverTrees", "copyInto", "([I[I)V"⟩), ("CoverTrees$Tree", 76, ⟨"CoverTrees", "covers", "([I[I)Z"⟩), ("CoverTrees$Tree", 80, ⟨"CoverTrees", "same", "([I[I)Z"⟩)]
def SLs : List (String × Nat × String) := [("CoverTrees", 129, "what is less than -1"), ("CoverTrees", 141, "a place is endless"), ("CoverTrees", 146, "the graph has too many states"), ("CoverTrees", 172, "a number is out of its range"), ("CoverTrees", 176, "no such place"), ("CoverTrees", 179, "no such transition"), ("CoverTrees", 181, "there is no tree"), ("CoverTrees", 183, "no such node"), ("CoverTrees", 185, "there is no graph"), ("CoverTrees", 187, "no such state"), ("CoverTrees", 46, "there are all places already"), ("CoverTrees", 61, "there are all transitions already"), ("CoverTrees", 87, "the tree has too many nodes")]
def NCs : List (String × String) := [("CoverTrees", "java/lang/IllegalArgumentException"), ("CoverTrees", "java/lang/IllegalStateException"), ("CoverTrees", "java/lang/IndexOutOfBoundsException"), ("CoverTrees", "java/lang/UnsupportedOperationException"), ("CoverTrees$Graph", "java/lang/IllegalArgumentException"), ("CoverTrees$Graph", "java/lang/IllegalStateException"), ("CoverTrees$Graph", "java/lang/IndexOutOfBoundsException"), ("CoverTrees$Graph", "java/lang/UnsupportedOperationException"), ("CoverTrees$Net", "java/lang/IllegalArgumentException"), ("CoverTrees$Net", "java/lang/IllegalStateException"), ("CoverTrees$Net", "java/lang/IndexOutOfBoundsException"), ("CoverTrees$Net", "java/lang/UnsupportedOperationException"), ("CoverTrees$Tree", "java/lang/IllegalArgumentException"), ("CoverTrees$Tree", "java/lang/IllegalStateException"), ("CoverTrees$Tree", "java/lang/IndexOutOfBoundsException"), ("CoverTrees$Tree", "java/lang/UnsupportedOperationException"), ("CoverTreesModel", "java/lang/IllegalArgumentException"), ("CoverTreesModel", "java/lang/IllegalStateException"), ("CoverTreesModel", "java/lang/IndexOutOfBoundsException"), ("CoverTreesModel", "java/lang/UnsupportedOperationException"), ("java/lang/IllegalArgumentException", "java/lang/IllegalStateException"), ("java/lang/IllegalArgumentException", "java/lang/IndexOutOfBoundsException"), ("java/lang/IllegalArgumentException", "java/lang/UnsupportedOperationException"), ("java/lang/IllegalStateException", "java/lang/IllegalArgumentException"), ("java/lang/IllegalStateException", "java/lang/IndexOutOfBoundsException"), ("java/lang/IllegalStateException", "java/lang/UnsupportedOperationException"), ("java/lang/IndexOutOfBoundsException", "java/lang/IllegalArgumentException"), ("java/lang/IndexOutOfBoundsException", "java/lang/IllegalStateException"), ("java/lang/IndexOutOfBoundsException", "java/lang/UnsupportedOperationException"), ("java/lang/UnsupportedOperationException", "java/lang/IllegalArgumentException"), ("java/lang/UnsupportedOperationException", "java/lang/IllegalStateException"), ("java/lang/UnsupportedOperationException", "java/lang/IndexOutOfBoundsException")]
def tysL (cy : Nat → ClassId) : List (ClassId × FieldType) := [(cy 5, .int), (cy 6, .boolean), (cy 7, .array .int), (cy 8, .long)]
def EF (D : va_G) (cy : Nat → ClassId) (B : Nat) (U : State) : Prop :=
  va_K D vwCl (tysL cy) U ∧ (∀ q ∈ NWF, va_Nw (.fieldLinkNest q.1 q.2.1 q.2.2.1 q.2.2.2.1 q.2.2.2.2 "CoverTrees") U) ∧ (∀ q ∈ NWM, va_Nw (.methodLinkNest q.1 q.2.1 q.2.2 "CoverTrees") U) ∧
  vx_Zq Bundle.tN "UNASSIGNED_STACK" Bundle.steD (fun q => B ≤ q) U U.heap ∧ vx_Zq Bundle.tN "SUPPRESSED_SENTINEL" Bundle.listD (fun q => B ≤ q) U U.heap ∧
  (∀ q ∈ SLs, ∃ sa, vk_R q.1 q.2.1 q.2.2 sa U) ∧ (∀ q ∈ NCs, va_Nc q.1 q.2 U)
theorem EF.step {D : va_G} {cy : Nat → ClassId} {B : Nat} {s U : State} {H : Heap} {locs : List Loc} (h : EF D cy B s) (hS : va_S (fun q => B ≤ q) s.heap H locs) (hW : s.WarmedH U.vm) (hU : U.heap = H) : EF D cy B U := by
  obtain ⟨h1, h2, h3, h4, h5, h6, h7⟩ := h
  refine ⟨va_K.moved hW.alike h1, fun q hq => va_Nw.warmF hW (h2 q hq), fun q hq => va_Nw.warmM hW (h3 q hq), ?_, ?_, fun q hq => ?_, fun q hq => va_Nc.moved hW.alike (h7 q hq)⟩
  · rw [hU]; exact vx_Zq.moved hW.alike (h4.kept hS.2.1)
  · rw [hU]; exact vx_Zq.moved hW.alike (h5.kept hS.2.1)
  · obtain ⟨sa, z⟩ := h6 q hq
    exact ⟨sa, vk_R.warm hW z⟩
theorem EF.calling {D : va_G} {cy : Nat → ClassId} {B : Nat} {U : State} (h : EF D cy B U) (g : JFrame) (mk : MethodId) (a : Array Value) : EF D cy B (U.calling g mk a) := by
  obtain ⟨h1, h2, h3, h4, h5, h6, h7⟩ := h
  have hvm : (U.calling g mk a).vm = U.vm := rfl
  refine ⟨va_K.moved (u := U) (U := U.calling g mk a) (Vm.Alike.refl U.vm) h1, fun q hq => va_Nw.same rfl (u := U) (U := U.calling g mk a) hvm.symm (h2 q hq), fun q hq => va_Nw.same rfl (u := U) (U := U.calling g mk a) hvm.symm (h3 q hq), ?_, ?_, fun q hq => ?_, fun q hq => va_Nc.moved (u := U) (U := U.calling g mk a) (Vm.Alike.refl U.vm) (h7 q hq)⟩
  · exact vx_Zq.moved (u := U) (U := U.calling g mk a) (Vm.Alike.refl U.vm) h4
  · exact vx_Zq.moved (u := U) (U := U.calling g mk a) (Vm.Alike.refl U.vm) h5
  · obtain ⟨sa, z⟩ := h6 q hq
    exact ⟨sa, vk_R.same (u := U) (U := U.calling g mk a) hvm z⟩
/- the locals as a list -/
def al : Nat → List (Option Value) → List (Nat × Value)
  | _, [] => []
  | i, none :: t => al (i + 1) t
  | i, some v :: t => (i, v) :: al (i + 1) t
theorem al_mem : ∀ (t : List (Option Value)) (i j : Nat) (v : Value), (j, v) ∈ al i t ↔ i ≤ j ∧ t[j - i]? = some (some v)
  | [], i, j, v => by simp [al]
  | none :: t, i, j, v => by
    rw [al, al_mem t (i + 1) j v]
    constructor
    · rintro ⟨h1, h2⟩
      refine ⟨by omega, ?_⟩
      rw [show j - i = (j - (i + 1)) + 1 by omega]
      simpa using h2
    · rintro ⟨h1, h2⟩
      by_cases e : j = i
      · subst e
        simp at h2
      · refine ⟨by omega, ?_⟩
        rw [show j - i = (j - (i + 1)) + 1 by omega] at h2
        simpa using h2
  | some w :: t, i, j, v => by
    rw [al, List.mem_cons, al_mem t (i + 1) j v]
    constructor
    · rintro (h | ⟨h1, h2⟩)
      · cases h
        simp
      · refine ⟨by omega, ?_⟩
        rw [show j - i = (j - (i + 1)) + 1 by omega]
        simpa using h2
    · rintro ⟨h1, h2⟩
      by_cases e : j = i
      · subst e
        simp at h2
        exact Or.inl (by rw [h2])
      · refine Or.inr ⟨by omega, ?_⟩
        rw [show j - i = (j - (i + 1)) + 1 by omega] at h2
        simpa using h2
def lh (ls : Array Slot) (nL : Nat) (lv : List (Option Value)) : Prop := lv.length = nL ∧ lv_has ls nL (al 0 lv) ∧ ∀ v, some v ∈ lv → v.category = 1
theorem lh.at {ls : Array Slot} {nL : Nat} {lv : List (Option Value)} (h : lh ls nL lv) {i : Nat} {v : Value} (hi : lv[i]? = some (some v)) : ls[i]? = some (.val v) :=
  h.2.1.2.2 (i, v) ((al_mem lv 0 i v).mpr ⟨Nat.zero_le _, hi⟩)
theorem lh.size {ls : Array Slot} {nL : Nat} {lv : List (Option Value)} (h : lh ls nL lv) : ls.size = nL := h.2.1.1
theorem lh.set {ls ls' : Array Slot} {nL : Nat} {lv : List (Option Value)} (h : lh ls nL lv) {i : Nat} {v : Value} (hv : v.category = 1)
    (h' : lv_has ls' nL ((i, v) :: (al 0 lv).filter (fun q => !(q.1 == i) && !(q.1 + 1 == i && q.2.category == 2)))) : lh ls' nL (lv.set i (some v)) := by
  refine ⟨by rw [List.length_set]; exact h.1, ⟨h'.1, h'.2.1, fun q hq => ?_⟩, fun w hw => ?_⟩
  · obtain ⟨j, w⟩ := q
    have hw := ((al_mem _ 0 j w).mp hq).2
    rw [Nat.sub_zero, List.getElem?_set] at hw
    by_cases e : i = j
    · subst e
      rw [if_pos rfl] at hw
      split at hw
      · cases hw
        exact h'.2.2 _ List.mem_cons_self
      · cases hw
    · rw [if_neg e] at hw
      refine h'.2.2 _ (List.mem_cons_of_mem _ (List.mem_filter.mpr ⟨(al_mem lv 0 j w).mpr ⟨Nat.zero_le _, hw⟩, ?_⟩))
      have hc := h.2.2 w (List.mem_of_getElem? hw)
      simp [hc, Ne.symm e]
  · rcases List.mem_or_eq_of_mem_set hw with h1 | h1
    · exact h.2.2 w h1
    · cases h1
      exact hv
theorem lh.sub {ls : Array Slot} {nL : Nat} {lv : List (Option Value)} (h : lh ls nL lv) (lv' : List (Option Value)) (hn : lv'.length = nL) (hs : ∀ (i : Nat) (v : Value), lv'[i]? = some (some v) → lv[i]? = some (some v)) : lh ls nL lv' :=
  ⟨hn, ⟨h.2.1.1, h.2.1.2.1, fun q hq => h.at (hs q.1 q.2 (by simpa using ((al_mem lv' 0 q.1 q.2).mp hq).2))⟩, fun v hv => by
    obtain ⟨i, hi⟩ := List.getElem?_of_mem hv
    exact h.2.2 v (List.mem_of_getElem? (hs i v hi))⟩
theorem lh_entry {as : List Value} {n : Nat} (hc : ∀ v ∈ as, v.category = 1) (hn : as.length ≤ n) : lh ((lg_sl as ++ List.replicate (n - (lg_sl as).length) Slot.unset).toArray) n (as.map some ++ List.replicate (n - as.length) none) := by
  have hlen : (lg_sl as).length = as.length := by
    clear hn
    induction as with
    | nil => rfl
    | cons v t ih =>
      have h1 := hc v List.mem_cons_self
      simp only [lg_sl, List.flatMap_cons, h1] at ih ⊢
      simp only [List.length_append, List.length_cons, List.length_nil]
      have := ih (fun w hw => hc w (List.mem_cons_of_mem _ hw))
      simp at this ⊢
      omega
  have h := lv_entry as (n := n) (by omega)
  refine ⟨by simp; omega, ⟨h.1, h.2.1, fun q hq => ?_⟩, fun v hv => ?_⟩
  · obtain ⟨j, w⟩ := q
    have hw := ((al_mem _ 0 j w).mp hq).2
    refine h.2.2 (j, w) ?_
    have hj : as[j]? = some w := by
      rw [Nat.sub_zero] at hw
      by_cases hl : j < as.length
      · rw [List.getElem?_append_left (by simpa using hl)] at hw
        simpa using hw
      · rw [List.getElem?_append_right (by simpa using hl)] at hw
        have := List.mem_of_getElem? hw
        simp at this
    have gen : ∀ (as : List Value) (i j : Nat) (w : Value), (∀ v ∈ as, v.category = 1) → as[j]? = some w → (i + j, w) ∈ lv_args i as := by
      intro as
      induction as with
      | nil => intro i j w _ h; simp at h
      | cons v t ih =>
        intro i j w hc h
        have h1 := hc v List.mem_cons_self
        unfold lv_args
        rw [h1]
        simp only [Nat.reduceEqDiff, if_false]
        cases j with
        | zero => simp at h; subst h; exact List.mem_cons_self
        | succ j =>
          have := ih (i + 1) j w (fun z hz => hc z (List.mem_cons_of_mem _ hz)) (by simpa using h)
          rw [show i + (j + 1) = i + 1 + j by omega]
          exact List.mem_cons_of_mem _ this
    have := gen as 0 j w hc hj
    simpa using this
  · rcases List.mem_append.mp hv with h1 | h1
    · obtain ⟨w, hw, e⟩ := List.mem_map.mp h1
      have e2 : w = v := by simpa using e
      subst e2
      exact hc _ hw
    · have := (List.mem_replicate.mp h1).2
      cases this
end
end
section
section
def Cx (p : Program) (l : Launch) (s : State) (m : MethodId) (args : Array Value) (meth : Method) (c : Code) (cc : ByteArray) (nL : Nat) (own : String) (Ts : List Cond) (D : va_G) (cy : Nat → ClassId) (B : Nat) : Prop :=
  p.tables.exec = Jvm.exec ∧ c.code = cc ∧ c.maxLocals = nL ∧ s.vm.findClass own = some m.cls ∧ (∀ w ∈ Ts, w.before args s = true) ∧ EF D cy B s ∧ meth.locks = false ∧ B ≤ s.heap.size ∧ l.stackTraces = false
def PW (p : Program) (l : Launch) (e : Env) (R : Room) (s : State) (m : MethodId) (args : Array Value) (below : List Frame) (meth : Method) (c : Code) (D : va_G) (cy : Nat → ClassId) (B nL cells slots : Nat) (Q : State → Prop) (pc : Nat) (lv : List (Option Value)) (st : List Value) (μ : St) : Prop :=
  InRg μ → ∀ (H : Heap) (locs : List Loc) (ls : Array Slot), va_P D vwCl (WL B cy μ) H → va_S (fun q => B ≤ q) s.heap H locs → lh ls nL lv → W p l e R s m args below meth c H locs cells slots Q (F0 m pc ls st)
/- q is thrown over the place pc -/
def PX (p : Program) (l : Launch) (e : Env) (R : Room) (s : State) (m : MethodId) (args : Array Value) (below : List Frame) (meth : Method) (c : Code) (D : va_G) (cy : Nat → ClassId) (B nL cells slots : Nat) (Q : State → Prop) (pc : Nat) (lv : List (Option Value)) (st : List Value) (μ : St) (E : String) : Prop :=
  InRg μ → ∀ (H : Heap) (locs : List Loc) (ls : Array Slot) (q : Addr) (ce : Cell), va_P D vwCl (WL B cy μ) H → va_S (fun q => B ≤ q) s.heap H locs → lh ls nL lv → H[q]? = some ce → ce.vm = .none → s.vm.findClass E = some ce.cls → vx_W p l e R s m args below meth c H locs cells slots Q (F0 m pc ls st) q

variable {p : Program} {l : Launch} {e : Env} {R : Room} {s : State} {m : MethodId} {args : Array Value} {below : List Frame} {meth : Method} {c : Code} {D : va_G} {cy : Nat → ClassId} {B nL cells slots : Nat} {Q : State → Prop}
variable {cc : ByteArray} {own : String} {Ts : List Cond} {pc : Nat} {lv : List (Option Value)} {st : List Value} {μ : St}

theorem q_rng (k : InRg μ → PW p l e R s m args below meth c D cy B nL cells slots Q pc lv st μ) : PW p l e R s m args below meth c D cy B nL cells slots Q pc lv st μ := fun hR => k hR hR
theorem q_mu {μ2 : St} (h : μ = μ2) (k : PW p l e R s m args below meth c D cy B nL cells slots Q pc lv st μ2) : PW p l e R s m args below meth c D cy B nL cells slots Q pc lv st μ := by subst h; exact k
theorem q_pc {pc2 : Nat} (h : pc = pc2) (k : PW p l e R s m args below meth c D cy B nL cells slots Q pc2 lv st μ) : PW p l e R s m args below meth c D cy B nL cells slots Q pc lv st μ := by subst h; exact k
theorem q_lv (lv2 : List (Option Value)) (hn : lv2.length = lv.length) (hs : ∀ (i : Nat) (v : Value), lv2[i]? = some (some v) → lv[i]? = some (some v)) (k : PW p l e R s m args below meth c D cy B nL cells slots Q pc lv2 st μ) : PW p l e R s m args below meth c D cy B nL cells slots Q pc lv st μ := by
  intro hR H locs ls hP hS hl
  exact k hR H locs ls hP hS (hl.sub lv2 (by rw [hn]; exact hl.1) hs)
theorem q_drop (i : Nat) {lv2 : List (Option Value)} (h : lv.set i none = lv2) (k : PW p l e R s m args below meth c D cy B nL cells slots Q pc lv2 st μ) : PW p l e R s m args below meth c D cy B nL cells slots Q pc lv st μ := by
  intro hR H locs ls hP hS hl
  subst h
  refine k hR H locs ls hP hS (hl.sub _ (by rw [List.length_set]; exact hl.1) (fun j v hj => ?_))
  rw [List.getElem?_set] at hj
  split at hj
  · split at hj <;> simp at hj
  · exact hj
theorem q_st {st2 : List Value} (h : st = st2) (k : PW p l e R s m args below meth c D cy B nL cells slots Q pc lv st2 μ) : PW p l e R s m args below meth c D cy B nL cells slots Q pc lv st μ := by subst h; exact k
theorem q_iconst (C : Cx p l s m args meth c cc nL own Ts D cy B) {n : Int} (hd : decode cc pc = .ok (.iconst n, 1)) (kk : PW p l e R s m args below meth c D cy B nL cells slots Q (pc + 1) lv (iN n :: st) μ) : PW p l e R s m args below meth c D cy B nL cells slots Q pc lv st μ := by
  intro hR H locs ls hP hS hl
  exact lv_iconst C.1 C.2.1 hd rfl (kk hR H locs ls hP hS hl)
theorem q_bipush (C : Cx p l s m args meth c cc nL own Ts D cy B) {n : Int} (hn : (Int8.ofInt n).toInt32 = Int32.ofInt n) (hd : decode cc pc = .ok (.bipush n, 2)) (kk : PW p l e R s m args below meth c D cy B nL cells slots Q (pc + 2) lv (iN n :: st) μ) : PW p l e R s m args below meth c D cy B nL cells slots Q pc lv st μ := by
  intro hR H locs ls hP hS hl
  exact lv_bipush C.1 C.2.1 hd hn (kk hR H locs ls hP hS hl)
theorem q_sipush (C : Cx p l s m args meth c cc nL own Ts D cy B) {n : Int} (hn : (Int16.ofInt n).toInt32 = Int32.ofInt n) (hd : decode cc pc = .ok (.sipush n, 3)) (kk : PW p l e R s m args below meth c D cy B nL cells slots Q (pc + 3) lv (iN n :: st) μ) : PW p l e R s m args below meth c D cy B nL cells slots Q pc lv st μ := by
  intro hR H locs ls hP hS hl
  exact lv_sipush C.1 C.2.1 hd hn (kk hR H locs ls hP hS hl)
theorem q_lconst (C : Cx p l s m args meth c cc nL own Ts D cy B) {n : Fin 2} {k : Int} (hk : Int64.ofNat (n : Nat) = Int64.ofInt k) (hd : decode cc pc = .ok (.lconst n, 1)) (kk : PW p l e R s m args below meth c D cy B nL cells slots Q (pc + 1) lv (jN k :: st) μ) : PW p l e R s m args below meth c D cy B nL cells slots Q pc lv st μ := by
  intro hR H locs ls hP hS hl
  exact lv_lconst C.1 C.2.1 hd hk (kk hR H locs ls hP hS hl)
theorem q_ldc (C : Cx p l s m args meth c cc nL own Ts D cy B) {n : Int} {x : Int32} {index : Nat} (hn : x = Int32.ofInt n) (hw : Cond.constant own index x ∈ Ts) (hd : decode cc pc = .ok (.ldc index, 2)) (kk : PW p l e R s m args below meth c D cy B nL cells slots Q (pc + 2) lv (iN n :: st) μ) : PW p l e R s m args below meth c D cy B nL cells slots Q pc lv st μ := by
  intro hR H locs ls hP hS hl
  subst hn
  exact lv_ldc C.1 C.2.1 C.2.2.2.1 (C.2.2.2.2.1 _ hw) hd (kk hR H locs ls hP hS hl)
theorem q_iload_n (C : Cx p l s m args meth c cc nL own Ts D cy B) {k : Fin 4} {i : Nat} {x : Int} (hd : decode cc pc = .ok (.iload_n k, 1)) (hi : (k : Nat) = i) (hv : lv[i]? = some (some (iN x))) (kk : PW p l e R s m args below meth c D cy B nL cells slots Q (pc + 1) lv (iN x :: st) μ) : PW p l e R s m args below meth c D cy B nL cells slots Q pc lv st μ := by
  intro hR H locs ls hP hS hl
  exact lv_iload_n C.1 C.2.1 hd hi (hl.at hv) (kk hR H locs ls hP hS hl)
theorem q_iload (C : Cx p l s m args meth c cc nL own Ts D cy B) {i : Nat} {x : Int} (hd : decode cc pc = .ok (.iload i, 2)) (hv : lv[i]? = some (some (iN x))) (kk : PW p l e R s m args below meth c D cy B nL cells slots Q (pc + 2) lv (iN x :: st) μ) : PW p l e R s m args below meth c D cy B nL cells slots Q pc lv st μ := by
  intro hR H locs ls hP hS hl
  exact lv_iload C.1 C.2.1 hd (hl.at hv) (kk hR H locs ls hP hS hl)
theorem q_istore_n (C : Cx p l s m args meth c cc nL own Ts D cy B) {k : Fin 4} {i : Nat} {x : Int} {lv2 : List (Option Value)} (hd : decode cc pc = .ok (.istore_n k, 1)) (hi : (k : Nat) = i) (hn : i < nL) (h2 : lv.set i (some (iN x)) = lv2) (kk : PW p l e R s m args below meth c D cy B nL cells slots Q (pc + 1) lv2 st μ) : PW p l e R s m args below meth c D cy B nL cells slots Q pc lv (iN x :: st) μ := by
  intro hR H locs ls hP hS hl
  subst h2
  exact lv_istore_n C.1 C.2.1 hd hi hl.2.1 hn rfl (fun ls2 hl2 => kk hR H locs ls2 hP hS (hl.set rfl hl2))
theorem q_istore (C : Cx p l s m args meth c cc nL own Ts D cy B) {i : Nat} {x : Int} {lv2 : List (Option Value)} (hd : decode cc pc = .ok (.istore i, 2)) (hn : i < nL) (h2 : lv.set i (some (iN x)) = lv2) (kk : PW p l e R s m args below meth c D cy B nL cells slots Q (pc + 2) lv2 st μ) : PW p l e R s m args below meth c D cy B nL cells slots Q pc lv (iN x :: st) μ := by
  intro hR H locs ls hP hS hl
  subst h2
  exact lv_istore C.1 C.2.1 hd hl.2.1 hn rfl (fun ls2 hl2 => kk hR H locs ls2 hP hS (hl.set rfl hl2))
theorem q_aload_n (C : Cx p l s m args meth c cc nL own Ts D cy B) {k : Fin 4} {i : Nat} {x : Nat} (hd : decode cc pc = .ok (.aload_n k, 1)) (hi : (k : Nat) = i) (hv : lv[i]? = some (some (.ref x))) (kk : PW p l e R s m args below meth c D cy B nL cells slots Q (pc + 1) lv (.ref x :: st) μ) : PW p l e R s m args below meth c D cy B nL cells slots Q pc lv st μ := by
  intro hR H locs ls hP hS hl
  exact lv_aload_n C.1 C.2.1 hd hi (hl.at hv) (kk hR H locs ls hP hS hl)
theorem q_aload (C : Cx p l s m args meth c cc nL own Ts D cy B) {i : Nat} {x : Nat} (hd : decode cc pc = .ok (.aload i, 2)) (hv : lv[i]? = some (some (.ref x))) (kk : PW p l e R s m args below meth c D cy B nL cells slots Q (pc + 2) lv (.ref x :: st) μ) : PW p l e R s m args below meth c D cy B nL cells slots Q pc lv st μ := by
  intro hR H locs ls hP hS hl
  exact lv_aload C.1 C.2.1 hd (hl.at hv) (kk hR H locs ls hP hS hl)
theorem q_astore_n (C : Cx p l s m args meth c cc nL own Ts D cy B) {k : Fin 4} {i : Nat} {x : Nat} {lv2 : List (Option Value)} (hd : decode cc pc = .ok (.astore_n k, 1)) (hi : (k : Nat) = i) (hn : i < nL) (h2 : lv.set i (some (.ref x)) = lv2) (kk : PW p l e R s m args below meth c D cy B nL cells slots Q (pc + 1) lv2 st μ) : PW p l e R s m args below meth c D cy B nL cells slots Q pc lv (.ref x :: st) μ := by
  intro hR H locs ls hP hS hl
  subst h2
  exact lv_astore_n C.1 C.2.1 hd hi hl.2.1 hn rfl (fun ls2 hl2 => kk hR H locs ls2 hP hS (hl.set rfl hl2))
theorem q_astore (C : Cx p l s m args meth c cc nL own Ts D cy B) {i : Nat} {x : Nat} {lv2 : List (Option Value)} (hd : decode cc pc = .ok (.astore i, 2)) (hn : i < nL) (h2 : lv.set i (some (.ref x)) = lv2) (kk : PW p l e R s m args below meth c D cy B nL cells slots Q (pc + 2) lv2 st μ) : PW p l e R s m args below meth c D cy B nL cells slots Q pc lv (.ref x :: st) μ := by
  intro hR H locs ls hP hS hl
  subst h2
  exact lv_astore C.1 C.2.1 hd hl.2.1 hn rfl (fun ls2 hl2 => kk hR H locs ls2 hP hS (hl.set rfl hl2))
theorem q_iinc (C : Cx p l s m args meth c cc nL own Ts D cy B) {i : Nat} {n x : Int} {lv2 : List (Option Value)} (hd : decode cc pc = .ok (.iinc i n, 3)) (hn : i < nL) (hv : lv[i]? = some (some (iN x))) (h2 : lv.set i (some (iN (x + n))) = lv2) (kk : PW p l e R s m args below meth c D cy B nL cells slots Q (pc + 3) lv2 st μ) : PW p l e R s m args below meth c D cy B nL cells slots Q pc lv st μ := by
  intro hR H locs ls hP hS hl
  subst h2
  refine lv_iinc (k := 0) (x := Int32.ofInt x) (v := Int32.ofInt (x + n)) (lv := (i, iN x) :: al 0 lv) C.1 C.2.1 hd ⟨hl.2.1.1, hl.2.1.2.1, fun q hq => ?_⟩ rfl (Int32.ofInt_add x n).symm hn rfl (fun ls2 hl2 => kk hR H locs ls2 hP hS (hl.set rfl ⟨hl2.1, hl2.2.1, fun q hq => ?_⟩))
  · rcases List.mem_cons.mp hq with h | h
    · subst h
      exact hl.at hv
    · exact hl.2.1.2.2 q h
  · refine hl2.2.2 q ?_
    rcases List.mem_cons.mp hq with h | h
    · subst h
      exact List.mem_cons_self
    · refine List.mem_cons_of_mem _ ?_
      obtain ⟨h1, h2⟩ := List.mem_filter.mp h
      exact List.mem_filter.mpr ⟨List.mem_cons_of_mem _ h1, h2⟩
theorem q_iadd (C : Cx p l s m args meth c cc nL own Ts D cy B) {x y : Int} (hd : decode cc pc = .ok (.iadd, 1)) (kk : PW p l e R s m args below meth c D cy B nL cells slots Q (pc + 1) lv (iN (x + y) :: st) μ) : PW p l e R s m args below meth c D cy B nL cells slots Q pc lv (iN y :: iN x :: st) μ := by
  intro hR H locs ls hP hS hl
  refine lv_iadd C.1 C.2.1 hd ?_
  rw [← Int32.ofInt_add]
  exact kk hR H locs ls hP hS hl
theorem q_isub (C : Cx p l s m args meth c cc nL own Ts D cy B) {x y : Int} (hd : decode cc pc = .ok (.isub, 1)) (kk : PW p l e R s m args below meth c D cy B nL cells slots Q (pc + 1) lv (iN (x - y) :: st) μ) : PW p l e R s m args below meth c D cy B nL cells slots Q pc lv (iN y :: iN x :: st) μ := by
  intro hR H locs ls hP hS hl
  refine lv_isub C.1 C.2.1 hd ?_
  rw [← Int32.ofInt_sub]
  exact kk hR H locs ls hP hS hl
theorem q_imul (C : Cx p l s m args meth c cc nL own Ts D cy B) {x y : Int} (hd : decode cc pc = .ok (.imul, 1)) (kk : PW p l e R s m args below meth c D cy B nL cells slots Q (pc + 1) lv (iN (x * y) :: st) μ) : PW p l e R s m args below meth c D cy B nL cells slots Q pc lv (iN y :: iN x :: st) μ := by
  intro hR H locs ls hP hS hl
  refine lv_imul C.1 C.2.1 hd ?_
  rw [← Int32.ofInt_mul]
  exact kk hR H locs ls hP hS hl
theorem q_iand (C : Cx p l s m args meth c cc nL own Ts D cy B) {x y z : Int} (hz : Int32.ofInt x &&& Int32.ofInt y = Int32.ofInt z) (hd : decode cc pc = .ok (.iand, 1)) (kk : PW p l e R s m args below meth c D cy B nL cells slots Q (pc + 1) lv (iN z :: st) μ) : PW p l e R s m args below meth c D cy B nL cells slots Q pc lv (iN y :: iN x :: st) μ := by
  intro hR H locs ls hP hS hl
  refine lv_iand C.1 C.2.1 hd ?_
  rw [hz]
  exact kk hR H locs ls hP hS hl
theorem q_ior (C : Cx p l s m args meth c cc nL own Ts D cy B) {x y z : Int} (hz : Int32.ofInt x ||| Int32.ofInt y = Int32.ofInt z) (hd : decode cc pc = .ok (.ior, 1)) (kk : PW p l e R s m args below meth c D cy B nL cells slots Q (pc + 1) lv (iN z :: st) μ) : PW p l e R s m args below meth c D cy B nL cells slots Q pc lv (iN y :: iN x :: st) μ := by
  intro hR H locs ls hP hS hl
  refine lv_ior C.1 C.2.1 hd ?_
  rw [hz]
  exact kk hR H locs ls hP hS hl
theorem q_ishl (C : Cx p l s m args meth c cc nL own Ts D cy B) {x y z : Int} (hz : Int32.ofInt x <<< (Int32.ofInt y &&& 31) = Int32.ofInt z) (hd : decode cc pc = .ok (.ishl, 1)) (kk : PW p l e R s m args below meth c D cy B nL cells slots Q (pc + 1) lv (iN z :: st) μ) : PW p l e R s m args below meth c D cy B nL cells slots Q pc lv (iN y :: iN x :: st) μ := by
  intro hR H locs ls hP hS hl
  refine lv_ishl C.1 C.2.1 hd ?_
  rw [hz]
  exact kk hR H locs ls hP hS hl
theorem q_i2l (C : Cx p l s m args meth c cc nL own Ts D cy B) {x : Int} (hx : InR x) (hd : decode cc pc = .ok (.i2l, 1)) (kk : PW p l e R s m args below meth c D cy B nL cells slots Q (pc + 1) lv (jN x :: st) μ) : PW p l e R s m args below meth c D cy B nL cells slots Q pc lv (iN x :: st) μ := by
  intro hR H locs ls hP hS hl
  refine lv_i2l C.1 C.2.1 hd (Int32.toInt64_ofInt ?_ ?_) (kk hR H locs ls hP hS hl)
  · have h : Int32.minValue.toInt = -2147483648 := by decide +kernel
    have := hx.1
    omega
  · have h : Int32.maxValue.toInt = 2147483647 := by decide +kernel
    have := hx.2
    omega
theorem q_dup (C : Cx p l s m args meth c cc nL own Ts D cy B) {v : Value} (hv : v.category = 1) (hd : decode cc pc = .ok (.dup, 1)) (kk : PW p l e R s m args below meth c D cy B nL cells slots Q (pc + 1) lv (v :: v :: st) μ) : PW p l e R s m args below meth c D cy B nL cells slots Q pc lv (v :: st) μ := by
  intro hR H locs ls hP hS hl
  exact lv_dup C.1 C.2.1 hd hv (kk hR H locs ls hP hS hl)
theorem q_pop (C : Cx p l s m args meth c cc nL own Ts D cy B) {v : Value} (hv : v.category = 1) (hd : decode cc pc = .ok (.pop, 1)) (kk : PW p l e R s m args below meth c D cy B nL cells slots Q (pc + 1) lv st μ) : PW p l e R s m args below meth c D cy B nL cells slots Q pc lv (v :: st) μ := by
  intro hR H locs ls hP hS hl
  exact lv_pop C.1 C.2.1 hd hv (kk hR H locs ls hP hS hl)
theorem q_goto (C : Cx p l s m args meth c cc nL own Ts D cy B) {off : Int} {tgt : Nat} (hd : decode cc pc = .ok (.goto off, 3)) (ht : (pc : Int) + off = (tgt : Int)) (kk : PW p l e R s m args below meth c D cy B nL cells slots Q tgt lv st μ) : PW p l e R s m args below meth c D cy B nL cells slots Q pc lv st μ := by
  intro hR H locs ls hP hS hl
  exact lv_goto C.1 C.2.1 hd ht (kk hR H locs ls hP hS hl)
theorem q_if_eq (C : Cx p l s m args meth c cc nL own Ts D cy B) {x off : Int} {tgt : Nat} (hx : InR x) (hd : decode cc pc = .ok (.ifCond .eq off, 3)) (ht : (pc : Int) + off = (tgt : Int)) (kt : x = 0 → PW p l e R s m args below meth c D cy B nL cells slots Q tgt lv st μ) (kf : ¬ (x = 0) → PW p l e R s m args below meth c D cy B nL cells slots Q (pc + 3) lv st μ) : PW p l e R s m args below meth c D cy B nL cells slots Q pc lv (iN x :: st) μ := by
  intro hR H locs ls hP hS hl
  refine lv_if_eq C.1 C.2.1 hd ht (fun h => ?_) (fun h => ?_)
  · rw [x_0] at h
    exact kt ((x_inj hx r_0).mp h) hR H locs ls hP hS hl
  · rw [x_0] at h
    exact kf (fun z => h ((x_inj hx r_0).mpr z)) hR H locs ls hP hS hl
theorem q_icmp_eq (C : Cx p l s m args meth c cc nL own Ts D cy B) {x y off : Int} {tgt : Nat} (hx : InR x) (hy : InR y) (hd : decode cc pc = .ok (.if_icmp .eq off, 3)) (ht : (pc : Int) + off = (tgt : Int)) (kt : x = y → PW p l e R s m args below meth c D cy B nL cells slots Q tgt lv st μ) (kf : ¬ (x = y) → PW p l e R s m args below meth c D cy B nL cells slots Q (pc + 3) lv st μ) : PW p l e R s m args below meth c D cy B nL cells slots Q pc lv (iN y :: iN x :: st) μ := by
  intro hR H locs ls hP hS hl
  refine lv_icmp_eq C.1 C.2.1 hd ht (fun h => ?_) (fun h => ?_)
  · exact kt ((x_inj hx hy).mp h) hR H locs ls hP hS hl
  · exact kf (fun z => h ((x_inj hx hy).mpr z)) hR H locs ls hP hS hl
theorem q_if_ne (C : Cx p l s m args meth c cc nL own Ts D cy B) {x off : Int} {tgt : Nat} (hx : InR x) (hd : decode cc pc = .ok (.ifCond .ne off, 3)) (ht : (pc : Int) + off = (tgt : Int)) (kt : ¬ x = 0 → PW p l e R s m args below meth c D cy B nL cells slots Q tgt lv st μ) (kf : x = 0 → PW p l e R s m args below meth c D cy B nL cells slots Q (pc + 3) lv st μ) : PW p l e R s m args below meth c D cy B nL cells slots Q pc lv (iN x :: st) μ := by
  intro hR H locs ls hP hS hl
  refine lv_if_ne C.1 C.2.1 hd ht (fun h => ?_) (fun h => ?_)
  · skip
    rw [x_0] at h
    exact kt (fun z => h ((x_inj hx r_0).mpr z)) hR H locs ls hP hS hl
  · skip
    rw [x_0] at h
    exact kf ((x_inj hx r_0).mp h) hR H locs ls hP hS hl
theorem q_icmp_ne (C : Cx p l s m args meth c cc nL own Ts D cy B) {x y off : Int} {tgt : Nat} (hx : InR x) (hy : InR y) (hd : decode cc pc = .ok (.if_icmp .ne off, 3)) (ht : (pc : Int) + off = (tgt : Int)) (kt : ¬ x = y → PW p l e R s m args below meth c D cy B nL cells slots Q tgt lv st μ) (kf : x = y → PW p l e R s m args below meth c D cy B nL cells slots Q (pc + 3) lv st μ) : PW p l e R s m args below meth c D cy B nL cells slots Q pc lv (iN y :: iN x :: st) μ := by
  intro hR H locs ls hP hS hl
  refine lv_icmp_ne C.1 C.2.1 hd ht (fun h => ?_) (fun h => ?_)
  · skip
    exact kt (fun z => h ((x_inj hx hy).mpr z)) hR H locs ls hP hS hl
  · skip
    exact kf ((x_inj hx hy).mp h) hR H locs ls hP hS hl
theorem q_if_lt (C : Cx p l s m args meth c cc nL own Ts D cy B) {x off : Int} {tgt : Nat} (hx : InR x) (hd : decode cc pc = .ok (.ifCond .lt off, 3)) (ht : (pc : Int) + off = (tgt : Int)) (kt : x < 0 → PW p l e R s m args below meth c D cy B nL cells slots Q tgt lv st μ) (kf : ¬ (x < 0) → PW p l e R s m args below meth c D cy B nL cells slots Q (pc + 3) lv st μ) : PW p l e R s m args below meth c D cy B nL cells slots Q pc lv (iN x :: st) μ := by
  intro hR H locs ls hP hS hl
  refine lv_if_lt C.1 C.2.1 hd ht (fun h => ?_) (fun h => ?_)
  · rw [x_0] at h
    exact kt ((x_lt hx r_0).mp h) hR H locs ls hP hS hl
  · rw [x_0] at h
    exact kf (fun z => h ((x_lt hx r_0).mpr z)) hR H locs ls hP hS hl
theorem q_icmp_lt (C : Cx p l s m args meth c cc nL own Ts D cy B) {x y off : Int} {tgt : Nat} (hx : InR x) (hy : InR y) (hd : decode cc pc = .ok (.if_icmp .lt off, 3)) (ht : (pc : Int) + off = (tgt : Int)) (kt : x < y → PW p l e R s m args below meth c D cy B nL cells slots Q tgt lv st μ) (kf : ¬ (x < y) → PW p l e R s m args below meth c D cy B nL cells slots Q (pc + 3) lv st μ) : PW p l e R s m args below meth c D cy B nL cells slots Q pc lv (iN y :: iN x :: st) μ := by
  intro hR H locs ls hP hS hl
  refine lv_icmp_lt C.1 C.2.1 hd ht (fun h => ?_) (fun h => ?_)
  · exact kt ((x_lt hx hy).mp h) hR H locs ls hP hS hl
  · exact kf (fun z => h ((x_lt hx hy).mpr z)) hR H locs ls hP hS hl
theorem q_if_ge (C : Cx p l s m args meth c cc nL own Ts D cy B) {x off : Int} {tgt : Nat} (hx : InR x) (hd : decode cc pc = .ok (.ifCond .ge off, 3)) (ht : (pc : Int) + off = (tgt : Int)) (kt : 0 ≤ x → PW p l e R s m args below meth c D cy B nL cells slots Q tgt lv st μ) (kf : ¬ (0 ≤ x) → PW p l e R s m args below meth c D cy B nL cells slots Q (pc + 3) lv st μ) : PW p l e R s m args below meth c D cy B nL cells slots Q pc lv (iN x :: st) μ := by
  intro hR H locs ls hP hS hl
  refine lv_if_ge C.1 C.2.1 hd ht (fun h => ?_) (fun h => ?_)
  · rw [x_0] at h
    exact kt ((x_le r_0 hx).mp h) hR H locs ls hP hS hl
  · rw [x_0] at h
    exact kf (fun z => h ((x_le r_0 hx).mpr z)) hR H locs ls hP hS hl
theorem q_icmp_ge (C : Cx p l s m args meth c cc nL own Ts D cy B) {x y off : Int} {tgt : Nat} (hx : InR x) (hy : InR y) (hd : decode cc pc = .ok (.if_icmp .ge off, 3)) (ht : (pc : Int) + off = (tgt : Int)) (kt : y ≤ x → PW p l e R s m args below meth c D cy B nL cells slots Q tgt lv st μ) (kf : ¬ (y ≤ x) → PW p l e R s m args below meth c D cy B nL cells slots Q (pc + 3) lv st μ) : PW p l e R s m args below meth c D cy B nL cells slots Q pc lv (iN y :: iN x :: st) μ := by
  intro hR H locs ls hP hS hl
  refine lv_icmp_ge C.1 C.2.1 hd ht (fun h => ?_) (fun h => ?_)
  · exact kt ((x_le hy hx).mp h) hR H locs ls hP hS hl
  · exact kf (fun z => h ((x_le hy hx).mpr z)) hR H locs ls hP hS hl
theorem q_if_gt (C : Cx p l s m args meth c cc nL own Ts D cy B) {x off : Int} {tgt : Nat} (hx : InR x) (hd : decode cc pc = .ok (.ifCond .gt off, 3)) (ht : (pc : Int) + off = (tgt : Int)) (kt : 0 < x → PW p l e R s m args below meth c D cy B nL cells slots Q tgt lv st μ) (kf : ¬ (0 < x) → PW p l e R s m args below meth c D cy B nL cells slots Q (pc + 3) lv st μ) : PW p l e R s m args below meth c D cy B nL cells slots Q pc lv (iN x :: st) μ := by
  intro hR H locs ls hP hS hl
  refine lv_if_gt C.1 C.2.1 hd ht (fun h => ?_) (fun h => ?_)
  · rw [x_0] at h
    exact kt ((x_lt r_0 hx).mp h) hR H locs ls hP hS hl
  · rw [x_0] at h
    exact kf (fun z => h ((x_lt r_0 hx).mpr z)) hR H locs ls hP hS hl
theorem q_icmp_gt (C : Cx p l s m args meth c cc nL own Ts D cy B) {x y off : Int} {tgt : Nat} (hx : InR x) (hy : InR y) (hd : decode cc pc = .ok (.if_icmp .gt off, 3)) (ht : (pc : Int) + off = (tgt : Int)) (kt : y < x → PW p l e R s m args below meth c D cy B nL cells slots Q tgt lv st μ) (kf : ¬ (y < x) → PW p l e R s m args below meth c D cy B nL cells slots Q (pc + 3) lv st μ) : PW p l e R s m args below meth c D cy B nL cells slots Q pc lv (iN y :: iN x :: st) μ := by
  intro hR H locs ls hP hS hl
  refine lv_icmp_gt C.1 C.2.1 hd ht (fun h => ?_) (fun h => ?_)
  · exact kt ((x_lt hy hx).mp h) hR H locs ls hP hS hl
  · exact kf (fun z => h ((x_lt hy hx).mpr z)) hR H locs ls hP hS hl
theorem q_if_le (C : Cx p l s m args meth c cc nL own Ts D cy B) {x off : Int} {tgt : Nat} (hx : InR x) (hd : decode cc pc = .ok (.ifCond .le off, 3)) (ht : (pc : Int) + off = (tgt : Int)) (kt : x ≤ 0 → PW p l e R s m args below meth c D cy B nL cells slots Q tgt lv st μ) (kf : ¬ (x ≤ 0) → PW p l e R s m args below meth c D cy B nL cells slots Q (pc + 3) lv st μ) : PW p l e R s m args below meth c D cy B nL cells slots Q pc lv (iN x :: st) μ := by
  intro hR H locs ls hP hS hl
  refine lv_if_le C.1 C.2.1 hd ht (fun h => ?_) (fun h => ?_)
  · rw [x_0] at h
    exact kt ((x_le hx r_0).mp h) hR H locs ls hP hS hl
  · rw [x_0] at h
    exact kf (fun z => h ((x_le hx r_0).mpr z)) hR H locs ls hP hS hl
theorem q_icmp_le (C : Cx p l s m args meth c cc nL own Ts D cy B) {x y off : Int} {tgt : Nat} (hx : InR x) (hy : InR y) (hd : decode cc pc = .ok (.if_icmp .le off, 3)) (ht : (pc : Int) + off = (tgt : Int)) (kt : x ≤ y → PW p l e R s m args below meth c D cy B nL cells slots Q tgt lv st μ) (kf : ¬ (x ≤ y) → PW p l e R s m args below meth c D cy B nL cells slots Q (pc + 3) lv st μ) : PW p l e R s m args below meth c D cy B nL cells slots Q pc lv (iN y :: iN x :: st) μ := by
  intro hR H locs ls hP hS hl
  refine lv_icmp_le C.1 C.2.1 hd ht (fun h => ?_) (fun h => ?_)
  · exact kt ((x_le hx hy).mp h) hR H locs ls hP hS hl
  · exact kf (fun z => h ((x_le hx hy).mpr z)) hR H locs ls hP hS hl
theorem q_lcmp (C : Cx p l s m args meth c cc nL own Ts D cy B) {x y z : Int} (hz : lg_cmp (Int64.ofInt x) (Int64.ofInt y) = Int32.ofInt z) (hd : decode cc pc = .ok (.lcmp, 1)) (kk : PW p l e R s m args below meth c D cy B nL cells slots Q (pc + 1) lv (iN z :: st) μ) : PW p l e R s m args below meth c D cy B nL cells slots Q pc lv (jN y :: jN x :: st) μ := by
  intro hR H locs ls hP hS hl
  refine W.lcmp C.1 C.2.1 hd ?_
  rw [hz]
  exact kk hR H locs ls hP hS hl
theorem q_getI (C : Cx p l s m args meth c cc nL own Ts D cy B) {a ci k index : Nat} {ki : Int} {CN : String} {T : u_T} {N : Nat} (hc : vwCl[ci]? = some (CN, T, N)) (hki : (k : Int) = ki) (hin : ∀ w ∈ u_ws CN T N, w ∈ Ts) (hk : k < N) (hkd : kd a = ci) (h5 : ci < 5) (hN : nf ci = N) (ha : a < 233) (hw : Cond.fieldLink own index CN (T k).2.1 (T k).2.2.1 ∈ Ts) (ho : (T k).1 = CN) (hr : rfo a k = none) (hd : decode cc pc = .ok (.getfield index, 3)) (kk : PW p l e R s m args below meth c D cy B nL cells slots Q (pc + 3) lv (iN (μ a ki) :: st) μ) : PW p l e R s m args below meth c D cy B nL cells slots Q pc lv (.ref (B + a) :: st) μ := by
  intro hR H locs ls hP hS hl
  subst hki
  exact va_get C.1 C.2.1 C.2.2.2.2.1 hin C.2.2.2.1 C.2.2.2.2.2.1.1 hP a (by have h9 := WL_get (B := B) (cy := cy) (μ := μ) ha; rw [ent_obj hkd h5, hN] at h9; exact h9) hc k hk (C.2.2.2.2.1 _ hw) (fun _ h9 => by rw [ho] at h9; exact h9) (entO_int hk hr) hd (kk hR H locs ls hP hS hl)
theorem q_getR (C : Cx p l s m args meth c cc nL own Ts D cy B) {a ci k index : Nat} {CN : String} {T : u_T} {N : Nat} {r : Nat} (hc : vwCl[ci]? = some (CN, T, N)) (hin : ∀ w ∈ u_ws CN T N, w ∈ Ts) (hk : k < N) (hkd : kd a = ci) (h5 : ci < 5) (hN : nf ci = N) (ha : a < 233) (hw : Cond.fieldLink own index CN (T k).2.1 (T k).2.2.1 ∈ Ts) (ho : (T k).1 = CN) (hr : rfo a k = some r) (hd : decode cc pc = .ok (.getfield index, 3)) (kk : PW p l e R s m args below meth c D cy B nL cells slots Q (pc + 3) lv (.ref (B + r) :: st) μ) : PW p l e R s m args below meth c D cy B nL cells slots Q pc lv (.ref (B + a) :: st) μ := by
  intro hR H locs ls hP hS hl
  exact va_get C.1 C.2.1 C.2.2.2.2.1 hin C.2.2.2.1 C.2.2.2.2.2.1.1 hP a (by have h9 := WL_get (B := B) (cy := cy) (μ := μ) ha; rw [ent_obj hkd h5, hN] at h9; exact h9) hc k hk (C.2.2.2.2.1 _ hw) (fun _ h9 => by rw [ho] at h9; exact h9) (entO_ref hk hr) hd (kk hR H locs ls hP hS hl)
theorem q_getIN (C : Cx p l s m args meth c cc nL own Ts D cy B) {a ci k index : Nat} {ki : Int} {CN : String} {T : u_T} {N : Nat} (hc : vwCl[ci]? = some (CN, T, N)) (hki : (k : Int) = ki) (hin : ∀ w ∈ u_ws CN T N, w ∈ Ts) (hk : k < N) (hkd : kd a = ci) (h5 : ci < 5) (hN : nf ci = N) (ha : a < 233) (hw : (own, index, CN, (T k).2.1, (T k).2.2.1) ∈ NWF) (ho : (T k).1 = CN) (hr : rfo a k = none) (hd : decode cc pc = .ok (.getfield index, 3)) (kk : PW p l e R s m args below meth c D cy B nL cells slots Q (pc + 3) lv (iN (μ a ki) :: st) μ) : PW p l e R s m args below meth c D cy B nL cells slots Q pc lv (.ref (B + a) :: st) μ := by
  intro hR H locs ls hP hS hl
  subst hki
  exact va_getN C.1 C.2.1 C.2.2.2.2.1 hin C.2.2.2.1 C.2.2.2.2.2.1.1 hP a (by have h9 := WL_get (B := B) (cy := cy) (μ := μ) ha; rw [ent_obj hkd h5, hN] at h9; exact h9) hc k hk (va_Nw.use rfl (C.2.2.2.2.2.1.2.1 _ hw)) (fun _ h9 => by rw [ho] at h9; exact h9) (entO_int hk hr) hd (kk hR H locs ls hP hS hl)
theorem q_getRN (C : Cx p l s m args meth c cc nL own Ts D cy B) {a ci k index : Nat} {CN : String} {T : u_T} {N : Nat} {r : Nat} (hc : vwCl[ci]? = some (CN, T, N)) (hin : ∀ w ∈ u_ws CN T N, w ∈ Ts) (hk : k < N) (hkd : kd a = ci) (h5 : ci < 5) (hN : nf ci = N) (ha : a < 233) (hw : (own, index, CN, (T k).2.1, (T k).2.2.1) ∈ NWF) (ho : (T k).1 = CN) (hr : rfo a k = some r) (hd : decode cc pc = .ok (.getfield index, 3)) (kk : PW p l e R s m args below meth c D cy B nL cells slots Q (pc + 3) lv (.ref (B + r) :: st) μ) : PW p l e R s m args below meth c D cy B nL cells slots Q pc lv (.ref (B + a) :: st) μ := by
  intro hR H locs ls hP hS hl
  exact va_getN C.1 C.2.1 C.2.2.2.2.1 hin C.2.2.2.1 C.2.2.2.2.2.1.1 hP a (by have h9 := WL_get (B := B) (cy := cy) (μ := μ) ha; rw [ent_obj hkd h5, hN] at h9; exact h9) hc k hk (va_Nw.use rfl (C.2.2.2.2.2.1.2.1 _ hw)) (fun _ h9 => by rw [ho] at h9; exact h9) (entO_ref hk hr) hd (kk hR H locs ls hP hS hl)
theorem q_put (C : Cx p l s m args meth c cc nL own Ts D cy B) {a ci k index : Nat} {ki : Int} {CN : String} {T : u_T} {N : Nat} {v : Int} {ty0 : Nat → FieldType} (hc : vwCl[ci]? = some (CN, T, N)) (hki : (k : Int) = ki) (hin : ∀ w ∈ u_ws CN T N, w ∈ Ts) (hk : k < N) (hkd : kd a = ci) (h5 : ci < 5) (hN : nf ci = N) (ha : a < 233) (hw : Cond.fieldLink own index CN (T k).2.1 (T k).2.2.1 ∈ Ts) (ho : (T k).1 = CN) (hty : ∀ k, k < N → parseFieldDescriptor (T k).2.2.1 = some (ty0 k)) (hnm : ∀ a, a < N → ∀ b, b < N → a ≠ b → (T a).2.1 ≠ (T b).2.1) (hfin : (T k).2.2.2 = false) (hdi : parseFieldDescriptor (T k).2.2.1 = some .int) (hr : rfo a k = none) (hv : InR v) (hd : decode cc pc = .ok (.putfield index, 3)) (kk : PW p l e R s m args below meth c D cy B nL cells slots Q (pc + 3) lv st (updS μ a ki v)) : PW p l e R s m args below meth c D cy B nL cells slots Q pc lv (iN v :: .ref (B + a) :: st) μ := by
  intro hR H locs ls hP hS hl
  subst hki
  refine va_put C.1 C.2.1 C.2.2.2.2.1 hin ty0 hty hnm C.2.2.2.1 C.2.2.2.2.2.1.1 hP (WL_D (B := B)) hS a (by have h9 := WL_get (B := B) (cy := cy) (μ := μ) ha; rw [ent_obj hkd h5, hN] at h9; exact h9) hc k hk (C.2.2.2.2.1 _ hw) (fun _ h9 => by rw [ho] at h9; exact h9) hfin hdi rfl rfl (by simp [entO, hk]) hd (fun H1 locs1 hP1 hD1 hS1 => ?_)
  rw [entO_set hk hr, WL_set (μ' := updS μ a k v) (by rw [ent_obj hkd h5, hN]) (fun b hb j => (updS_ne μ k v j hb).symm)] at hP1
  exact kk (hR.upd hv) H1 locs1 ls hP1 hS1 hl
theorem q_putN (C : Cx p l s m args meth c cc nL own Ts D cy B) {a ci k index : Nat} {ki : Int} {CN : String} {T : u_T} {N : Nat} {v : Int} {ty0 : Nat → FieldType} (hc : vwCl[ci]? = some (CN, T, N)) (hki : (k : Int) = ki) (hin : ∀ w ∈ u_ws CN T N, w ∈ Ts) (hk : k < N) (hkd : kd a = ci) (h5 : ci < 5) (hN : nf ci = N) (ha : a < 233) (hw : (own, index, CN, (T k).2.1, (T k).2.2.1) ∈ NWF) (ho : (T k).1 = CN) (hty : ∀ k, k < N → parseFieldDescriptor (T k).2.2.1 = some (ty0 k)) (hnm : ∀ a, a < N → ∀ b, b < N → a ≠ b → (T a).2.1 ≠ (T b).2.1) (hfin : (T k).2.2.2 = false) (hdi : parseFieldDescriptor (T k).2.2.1 = some .int) (hr : rfo a k = none) (hv : InR v) (hd : decode cc pc = .ok (.putfield index, 3)) (kk : PW p l e R s m args below meth c D cy B nL cells slots Q (pc + 3) lv st (updS μ a ki v)) : PW p l e R s m args below meth c D cy B nL cells slots Q pc lv (iN v :: .ref (B + a) :: st) μ := by
  intro hR H locs ls hP hS hl
  subst hki
  refine va_putN C.1 C.2.1 C.2.2.2.2.1 hin ty0 hty hnm C.2.2.2.1 C.2.2.2.2.2.1.1 hP (WL_D (B := B)) hS a (by have h9 := WL_get (B := B) (cy := cy) (μ := μ) ha; rw [ent_obj hkd h5, hN] at h9; exact h9) hc k hk (va_Nw.use rfl (C.2.2.2.2.2.1.2.1 _ hw)) (fun _ h9 => by rw [ho] at h9; exact h9) hfin hdi rfl rfl (by simp [entO, hk]) hd (fun H1 locs1 hP1 hD1 hS1 => ?_)
  rw [entO_set hk hr, WL_set (μ' := updS μ a k v) (by rw [ent_obj hkd h5, hN]) (fun b hb j => (updS_ne μ k v j hb).symm)] at hP1
  exact kk (hR.upd hv) H1 locs1 ls hP1 hS1 hl
theorem q_iaload (C : Cx p l s m args meth c cc nL own Ts D cy B) {a n : Nat} {i : Int} (hk : kd a = 5) (hn : ln a = n) (hn5 : n ≤ 100000) (ha : a < 233) (h0 : 0 ≤ i) (h1 : i < n) (hd : decode cc pc = .ok (.iaload, 1)) (kk : PW p l e R s m args below meth c D cy B nL cells slots Q (pc + 1) lv (iN (μ a i) :: st) μ) : PW p l e R s m args below meth c D cy B nL cells slots Q pc lv (iN i :: .ref (B + a) :: st) μ := by
  intro hR H locs ls hP hS hl
  have h2 : i < 2147483648 := by omega
  have hc := x_clamp h0 h2
  have hi : ((i.toNat : Nat) : Int) = i := Int.toNat_of_nonneg h0
  refine va_iald C.1 C.2.1 C.2.2.2.2.2.1.1 hP a 0 (by have h9 := WL_get (B := B) (cy := cy) (μ := μ) ha; rw [ent_int hk hn] at h9; exact h9) rfl (x_in h0 h1 hn5) hd ?_
  rw [hc, hi]
  exact kk hR H locs ls hP hS hl
theorem q_baload (C : Cx p l s m args meth c cc nL own Ts D cy B) {a n : Nat} {i : Int} (hk : kd a = 6) (hn : ln a = n) (hn5 : n ≤ 100000) (ha : a < 233) (h0 : 0 ≤ i) (h1 : i < n) (hd : decode cc pc = .ok (.baload, 1)) (kk : PW p l e R s m args below meth c D cy B nL cells slots Q (pc + 1) lv (iN (μ a i) :: st) μ) : PW p l e R s m args below meth c D cy B nL cells slots Q pc lv (iN i :: .ref (B + a) :: st) μ := by
  intro hR H locs ls hP hS hl
  have h2 : i < 2147483648 := by omega
  have hc := x_clamp h0 h2
  have hi : ((i.toNat : Nat) : Int) = i := Int.toNat_of_nonneg h0
  refine va_zald C.1 C.2.1 C.2.2.2.2.2.1.1 hP a 1 (by have h9 := WL_get (B := B) (cy := cy) (μ := μ) ha; rw [ent_bool hk hn] at h9; exact h9) rfl (x_in h0 h1 hn5) hd ?_
  rw [hc, hi]
  exact kk hR H locs ls hP hS hl
theorem q_laload (C : Cx p l s m args meth c cc nL own Ts D cy B) {a n : Nat} {i : Int} (hk : kd a = 8) (hn : ln a = n) (hn5 : n ≤ 100000) (ha : a < 233) (h0 : 0 ≤ i) (h1 : i < n) (hd : decode cc pc = .ok (.laload, 1)) (kk : PW p l e R s m args below meth c D cy B nL cells slots Q (pc + 1) lv (jN (μ a i) :: st) μ) : PW p l e R s m args below meth c D cy B nL cells slots Q pc lv (iN i :: .ref (B + a) :: st) μ := by
  intro hR H locs ls hP hS hl
  have h2 : i < 2147483648 := by omega
  have hc := x_clamp h0 h2
  have hi : ((i.toNat : Nat) : Int) = i := Int.toNat_of_nonneg h0
  refine va_lald C.1 C.2.1 C.2.2.2.2.2.1.1 hP a 3 (by have h9 := WL_get (B := B) (cy := cy) (μ := μ) ha; rw [ent_long hk hn] at h9; exact h9) rfl (x_in h0 h1 hn5) hd ?_
  rw [hc, hi]
  exact kk hR H locs ls hP hS hl
theorem q_aaload (C : Cx p l s m args meth c cc nL own Ts D cy B) {a n r : Nat} {i : Int} (hk : kd a = 7) (hn : ln a = n) (hn5 : n ≤ 100000) (ha : a < 233) (h0 : 0 ≤ i) (h1 : i < n) (hr : rfo a i.toNat = some r) (hd : decode cc pc = .ok (.aaload, 1)) (kk : PW p l e R s m args below meth c D cy B nL cells slots Q (pc + 1) lv (.ref (B + r) :: st) μ) : PW p l e R s m args below meth c D cy B nL cells slots Q pc lv (iN i :: .ref (B + a) :: st) μ := by
  intro hR H locs ls hP hS hl
  have h2 : i < 2147483648 := by omega
  have hc := x_clamp h0 h2
  have hi : ((i.toNat : Nat) : Int) = i := Int.toNat_of_nonneg h0
  have hin := x_in h0 h1 hn5
  have h9 := WL_get (B := B) (cy := cy) (μ := μ) ha
  rw [ent_refs hk hn] at h9
  have hlt : (Int32.ofInt i).toNatClampNeg < n := Nat.not_le.mp fun q => hin (Or.inr q)
  refine W.aald (v := .ref (B + r)) (ty := .array .int) C.1 C.2.1 (hP a _ h9) ((C.2.2.2.2.2.1.1.2 2 _ rfl).1 n (fun j => va_rf ((rfo a j).map (fun r => B + r)))) rfl (fun q => by cases q) (by show ¬ (_ ∨ (arrV _ _ _).slots.size ≤ _); rw [arrV_size]; exact hin) ?_ rfl rfl hd (kk hR H locs ls hP hS hl)
  show (arrV _ _ _).slots[_]? = _
  rw [arrV_read _ _ hlt, hc]
  show some (va_rf ((rfo a i.toNat).map (fun r => B + r))) = _
  rw [hr]
  rfl
theorem q_aaloadN (C : Cx p l s m args meth c cc nL own Ts D cy B) {a n r i : Nat} (hk : kd a = 7) (hn : ln a = n) (hn5 : n ≤ 100000) (ha : a < 233) (h1 : i < n) (hr : rfo a i = some r) (hd : decode cc pc = .ok (.aaload, 1)) (kk : PW p l e R s m args below meth c D cy B nL cells slots Q (pc + 1) lv (.ref (B + r) :: st) μ) : PW p l e R s m args below meth c D cy B nL cells slots Q pc lv (iN (i : Int) :: .ref (B + a) :: st) μ := by
  intro hR H locs ls hP hS hl
  exact q_aaload (i := (i : Int)) C hk hn hn5 ha (by omega) (by omega) (by rw [Int.toNat_natCast]; exact hr) hd kk hR H locs ls hP hS hl
theorem q_iastore (C : Cx p l s m args meth c cc nL own Ts D cy B) {a n : Nat} {i v : Int} (hk : kd a = 5) (hn : ln a = n) (hn5 : n ≤ 100000) (ha : a < 233) (h0 : 0 ≤ i) (h1 : i < n) (hv : InR v) (hd : decode cc pc = .ok (.iastore, 1)) (kk : PW p l e R s m args below meth c D cy B nL cells slots Q (pc + 1) lv st (updS μ a i v)) : PW p l e R s m args below meth c D cy B nL cells slots Q pc lv (iN v :: iN i :: .ref (B + a) :: st) μ := by
  intro hR H locs ls hP hS hl
  have h2 : i < 2147483648 := by omega
  have hc := x_clamp h0 h2
  have hi : ((i.toNat : Nat) : Int) = i := Int.toNat_of_nonneg h0
  refine va_iast C.1 C.2.1 C.2.2.2.2.2.1.1 hP (WL_D (B := B)) hS a 0 (by have h9 := WL_get (B := B) (cy := cy) (μ := μ) ha; rw [ent_int hk hn] at h9; exact h9) rfl (x_in h0 h1 hn5) hd (fun H1 locs1 hP1 hD1 hS1 => ?_)
  rw [hc, fun_set μ a i v h0 _ rfl, WL_set (μ' := updS μ a i v) (by rw [ent_int hk hn]) (fun b hb j => (updS_ne μ i v j hb).symm)] at hP1
  exact kk (hR.upd hv) H1 locs1 ls hP1 hS1 hl
theorem q_bastore (C : Cx p l s m args meth c cc nL own Ts D cy B) {a n : Nat} {i v : Int} (hk : kd a = 6) (hn : ln a = n) (hn5 : n ≤ 100000) (ha : a < 233) (h0 : 0 ≤ i) (h1 : i < n) (hv : InR v) (hb : v = 0 ∨ v = 1) (hd : decode cc pc = .ok (.bastore, 1)) (kk : PW p l e R s m args below meth c D cy B nL cells slots Q (pc + 1) lv st (updS μ a i v)) : PW p l e R s m args below meth c D cy B nL cells slots Q pc lv (iN v :: iN i :: .ref (B + a) :: st) μ := by
  intro hR H locs ls hP hS hl
  have h2 : i < 2147483648 := by omega
  have hc := x_clamp h0 h2
  have hi : ((i.toNat : Nat) : Int) = i := Int.toNat_of_nonneg h0
  refine va_zast C.1 C.2.1 C.2.2.2.2.2.1.1 hP (WL_D (B := B)) hS a 1 (by have h9 := WL_get (B := B) (cy := cy) (μ := μ) ha; rw [ent_bool hk hn] at h9; exact h9) rfl (x_in h0 h1 hn5) hd (fun H1 locs1 hP1 hD1 hS1 => ?_)
  have hnar : vp_nar .boolean (Int32.ofInt v) = Int32.ofInt v := by rcases hb with rfl | rfl <;> decide +kernel
  rw [hnar] at hP1
  rw [hc, fun_set μ a i v h0 _ rfl, WL_set (μ' := updS μ a i v) (by rw [ent_bool hk hn]) (fun b hb j => (updS_ne μ i v j hb).symm)] at hP1
  exact kk (hR.upd hv) H1 locs1 ls hP1 hS1 hl
theorem q_lastore (C : Cx p l s m args meth c cc nL own Ts D cy B) {a n : Nat} {i v : Int} (hk : kd a = 8) (hn : ln a = n) (hn5 : n ≤ 100000) (ha : a < 233) (h0 : 0 ≤ i) (h1 : i < n) (hv : InR v) (hd : decode cc pc = .ok (.lastore, 1)) (kk : PW p l e R s m args below meth c D cy B nL cells slots Q (pc + 1) lv st (updS μ a i v)) : PW p l e R s m args below meth c D cy B nL cells slots Q pc lv (jN v :: iN i :: .ref (B + a) :: st) μ := by
  intro hR H locs ls hP hS hl
  have h2 : i < 2147483648 := by omega
  have hc := x_clamp h0 h2
  have hi : ((i.toNat : Nat) : Int) = i := Int.toNat_of_nonneg h0
  refine va_last C.1 C.2.1 C.2.2.2.2.2.1.1 hP (WL_D (B := B)) hS a 3 (by have h9 := WL_get (B := B) (cy := cy) (μ := μ) ha; rw [ent_long hk hn] at h9; exact h9) rfl (x_in h0 h1 hn5) hd (fun H1 locs1 hP1 hD1 hS1 => ?_)
  have hf : vp_updL (fun j : Nat => Int64.ofInt (μ a j)) i.toNat (Int64.ofInt v) = fun j : Nat => Int64.ofInt (updS μ a i v a j) := by
    funext j
    unfold vp_updL updS
    by_cases h : j = i.toNat
    · have : (j : Int) = i := by omega
      simp [h, this, hi]
    · have : ¬ (j : Int) = i := by omega
      simp [h, this]
  rw [hc, hf, WL_set (μ' := updS μ a i v) (by rw [ent_long hk hn]) (fun b hb j => (updS_ne μ i v j hb).symm)] at hP1
  exact kk (hR.upd hv) H1 locs1 ls hP1 hS1 hl
end
end
section
section
def Qp (D : va_G) (cy : Nat → ClassId) (B : Nat) (post : Option Value → St → Prop) : Array Value → State → Outcome → State → Prop := fun _ st o t => (∃ (v : Option Value) (μ' : St), o = .returned v ∧ post v μ' ∧ InRg μ' ∧ va_P D vwCl (WL B cy μ') t.heap) ∧ va_F (fun q => B ≤ q) st t
def Xp (D : va_G) (cy : Nat → ClassId) (B : Nat) (px : String → St → Prop) : String → State → State → Prop := fun E st t => (∃ μ' : St, px E μ' ∧ InRg μ' ∧ va_P D vwCl (WL B cy μ') t.heap) ∧ va_F (fun q => B ≤ q) st t
def Pre (D : va_G) (cy : Nat → ClassId) (B : Nat) (as : List Value) (μ : St) : Array Value → State → Prop := fun a s => a = as.toArray ∧ EF D cy B s ∧ InRg μ ∧ va_P D vwCl (WL B cy μ) s.heap
def PC (l : Launch) (D : va_G) (cy : Nat → ClassId) (B : Nat) (y : MethodName) (ws : List Cond) (rm : Room) (as : List Value) (μ : St) (post : Option Value → St → Prop) (px : String → St → Prop) : Prop :=
  vx_Met l y ws rm (Pre D cy B as μ) (Qp D cy B post) (Xp D cy B px) rm.cells rm.slots (fun q => B ≤ q)
theorem Pre.blind {D : va_G} {cy : Nat → ClassId} {B : Nat} {as : List Value} {μ : St} : FrameBlind (Pre D cy B as μ) := fun a U g mk h => ⟨h.1, h.2.1.calling g mk a, h.2.2.1, h.2.2.2⟩
def noX : String → St → Prop := fun _ _ => False
def ret1 (v : Int) (μ : St) : Option Value → St → Prop := fun r μ' => r = some (iN v) ∧ μ' = μ
def ret0 (μ : St) : Option Value → St → Prop := fun r μ' => r = none ∧ μ' = μ
theorem PC.mono {l : Launch} {D : va_G} {cy : Nat → ClassId} {B : Nat} {y : MethodName} {ws : List Cond} {rm : Room} {as : List Value} {μ : St} {post post' : Option Value → St → Prop} {px px' : String → St → Prop} (h : PC l D cy B y ws rm as μ post px) (h1 : ∀ v μ', InRg μ → InRg μ' → post v μ' → post' v μ') (h2 : ∀ E μ', px E μ' → px' E μ') : PC l D cy B y ws rm as μ post' px' := by
  intro p e ha hc hk s m args below hf happ hpre hK
  obtain ⟨k, o, a1, a2, a3, hq⟩ := h p e ha hc hk s m args below hf happ hpre hK
  refine ⟨k, o, a1, a2, a3, ?_⟩
  rcases hq with ⟨⟨⟨v, μ', e1, e2, e3, e4⟩, e5⟩, e6⟩ | ⟨q, e0, E, ce, L, ⟨⟨μ', e1, e2, e3⟩, e4⟩, e5⟩
  · exact Or.inl ⟨⟨⟨v, μ', e1, h1 v μ' hpre.2.2.1 e3 e2, e3, e4⟩, e5⟩, e6⟩
  · exact Or.inr ⟨q, e0, E, ce, L, ⟨⟨μ', h2 E μ' e1, e2, e3⟩, e4⟩, e5⟩
theorem PC.pre {l : Launch} {D : va_G} {cy : Nat → ClassId} {B : Nat} {y : MethodName} {ws : List Cond} {rm : Room} {as : List Value} {μ : St} {post : Option Value → St → Prop} {px : String → St → Prop} (h : InRg μ → PC l D cy B y ws rm as μ post px) : PC l D cy B y ws rm as μ post px := by
  intro p e ha hc hk s m args below hf happ hpre hK
  exact h hpre.2.2.1 p e ha hc hk s m args below hf happ hpre hK

variable {p : Program} {l : Launch} {e : Env} {R : Room} {s : State} {m : MethodId} {args : Array Value} {below : List Frame} {meth : Method} {c : Code} {D : va_G} {cy : Nat → ClassId} {B nL cells slots : Nat} {Q : State → Prop}
variable {cc : ByteArray} {own : String} {Ts : List Cond} {pc : Nat} {lv : List (Option Value)} {st : List Value} {μ : St}

variable {post : Option Value → St → Prop} {px : String → St → Prop} {mc ms : Nat}
theorem q_after {H : Heap} {locs : List Loc} {ls : Array Slot} {st0 rest : List Value} {rm : Room} {As : Array Value} (hr : vx_Run p l e R s m args below meth c H locs cells slots rm.cells rm.slots (F0 m pc ls st0) rest (Qp D cy B post As) (Xp D cy B px) (fun q => B ≤ q)) (hS : va_S (fun q => B ≤ q) s.heap H locs) (hl : lh ls nL lv) (kx : ∀ (E : String) (μ2 : St), px E μ2 → PX p l e R s m args below meth c D cy B nL (cells + rm.cells) (slots + rm.slots) Q pc lv rest μ2 E) (kk : ∀ (v : Option Value) (μ2 : St), post v μ2 → PW p l e R s m args below meth c D cy B nL (cells + rm.cells) (slots + rm.slots) Q (pc + 3) lv (v.toList ++ rest) μ2) : W p l e R s m args below meth c H locs cells slots Q (F0 m pc ls st0) := by
  intro T hT X
  rcases hr T hT X with ⟨v, st₀, t, T', L, h0, X', hL, e1, e2, ⟨⟨v', μ2, hv, hp, hr2, hP2⟩, hF⟩, st⟩ | ⟨q, st₀, t, T', L, E, ce, h0, X', hL, e1, e2, ⟨⟨μ2, hp, hr2, hP2⟩, hF⟩, hce, hcv, hcl, st⟩
  · cases hv
    obtain ⟨k1, k2, k3⟩ := vx_keep h0 e1 hS (fun q _ h => h) (fun q h => h) hL hF
    obtain ⟨t2, a1, b1⟩ := kk v μ2 hp hr2 T'.heap (locs ++ L) ls (by rw [e1]; exact hP2) k3 hl T' rfl X'
    exact ⟨t2, st t2 a1, b1⟩
  · obtain ⟨k1, k2, k3⟩ := vx_keep h0 e1 hS (fun q _ h => h) (fun q h => h) hL hF
    obtain ⟨t2, a1, b1⟩ := kx E μ2 hp hr2 T'.heap (locs ++ L) ls q ce (by rw [e1]; exact hP2) k3 hl (by rw [e1]; exact hce) hcv hcl T' rfl X'
    exact ⟨t2, st.trans a1, b1⟩
theorem q_callV (C : Cx p l s m args meth c cc nL own Ts D cy B) {y : MethodName} {ws : List Cond} {rm : Room} {n index maxL : Nat} {bytes : ByteArray} {ret : Option FieldType} {As rest st0 : List Value} {b ci : Nat} {CN : String} {T : u_T} {N : Nat} (hM : PC l D cy B y ws rm (.ref (B + b) :: As) μ post px) (cw : CallW R s args own CN index y bytes maxL ret ws rm rm.cells rm.slots n) (hc : vwCl[ci]? = some (CN, T, N)) (hkd : kd b = ci) (h5 : ci < 5) (hb : b < 233) (hn : As.length = n) (hst : st0 = As.reverse ++ .ref (B + b) :: rest) (hW : (rest.map fun v => v.category).sum ≤ 8) (hd : decode cc pc = .ok (.invokevirtual index, 3)) (hf : cells + rm.cells ≤ R.cells ∧ slots + rm.slots ≤ R.slots) (kx : ∀ (E : String) (μ2 : St), px E μ2 → PX p l e R s m args below meth c D cy B nL (cells + rm.cells) (slots + rm.slots) Q pc lv rest μ2 E) (kk : ∀ (v : Option Value) (μ2 : St), post v μ2 → PW p l e R s m args below meth c D cy B nL (cells + rm.cells) (slots + rm.slots) Q (pc + 3) lv (v.toList ++ rest) μ2) : PW p l e R s m args below meth c D cy B nL cells slots Q pc lv st0 μ := by
  intro hR H locs ls hP hS hl
  have h9 := WL_get (B := B) (cy := cy) (μ := μ) hb
  rw [ent_obj hkd h5] at h9
  exact q_after (vx_runV (As := As) (rest := rest) ⟨C.1, C.2.1, C.2.2.1, C.2.2.2.1, C.2.2.2.2.1⟩ hM cw ⟨Pre.blind, va_recv C.2.2.2.2.2.1.1 hP hc h9, fun U hU hW9 => ⟨rfl, C.2.2.2.2.2.1.step hS hW9 hU, hR, by rw [hU]; exact hP⟩⟩ rfl hn hl.size hst (lv_room hW) hd hf) hS hl kx kk
theorem q_callS (C : Cx p l s m args meth c cc nL own Ts D cy B) {y : MethodName} {ws : List Cond} {rm : Room} {n index maxL : Nat} {bytes : ByteArray} {ret : Option FieldType} {As rest st0 : List Value} (hM : PC l D cy B y ws rm As μ post px) (cw : CallB R s args own index y bytes maxL ret ws rm rm.cells rm.slots n ∧ (Cond.static y).before args s = true) (hn : As.length = n) (hst : st0 = As.reverse ++ rest) (hW : (rest.map fun v => v.category).sum ≤ 8) (hd : decode cc pc = .ok (.invokestatic index, 3)) (hf : cells + rm.cells ≤ R.cells ∧ slots + rm.slots ≤ R.slots) (kx : ∀ (E : String) (μ2 : St), px E μ2 → PX p l e R s m args below meth c D cy B nL (cells + rm.cells) (slots + rm.slots) Q pc lv rest μ2 E) (kk : ∀ (v : Option Value) (μ2 : St), post v μ2 → PW p l e R s m args below meth c D cy B nL (cells + rm.cells) (slots + rm.slots) Q (pc + 3) lv (v.toList ++ rest) μ2) : PW p l e R s m args below meth c D cy B nL cells slots Q pc lv st0 μ := by
  intro hR H locs ls hP hS hl
  exact q_after (vx_runS (As := As) (rest := rest) ⟨C.1, C.2.1, C.2.2.1, C.2.2.2.1, C.2.2.2.2.1⟩ hM cw ⟨Pre.blind, fun U hU hW9 => ⟨rfl, C.2.2.2.2.2.1.step hS hW9 hU, hR, by rw [hU]; exact hP⟩⟩ rfl hn hl.size hst (lv_room hW) hd hf) hS hl kx kk
theorem q_callSN (C : Cx p l s m args meth c cc nL own Ts D cy B) {y : MethodName} {ws : List Cond} {rm : Room} {n index maxL : Nat} {bytes : ByteArray} {ret : Option FieldType} {As rest st0 : List Value} (hM : PC l D cy B y ws rm As μ post px) (cw : va_CN R s args own index y "CoverTrees" bytes maxL ret ws rm rm.cells rm.slots n ∧ (Cond.static y).before args s = true ∧ True) (hn : As.length = n) (hst : st0 = As.reverse ++ rest) (hW : (rest.map fun v => v.category).sum ≤ 8) (hd : decode cc pc = .ok (.invokestatic index, 3)) (hf : cells + rm.cells ≤ R.cells ∧ slots + rm.slots ≤ R.slots) (kx : ∀ (E : String) (μ2 : St), px E μ2 → PX p l e R s m args below meth c D cy B nL (cells + rm.cells) (slots + rm.slots) Q pc lv rest μ2 E) (kk : ∀ (v : Option Value) (μ2 : St), post v μ2 → PW p l e R s m args below meth c D cy B nL (cells + rm.cells) (slots + rm.slots) Q (pc + 3) lv (v.toList ++ rest) μ2) : PW p l e R s m args below meth c D cy B nL cells slots Q pc lv st0 μ := by
  intro hR H locs ls hP hS hl
  exact q_after (vx_runSN (As := As) (rest := rest) ⟨C.1, C.2.1, C.2.2.1, C.2.2.2.1, C.2.2.2.2.1⟩ hM cw ⟨Pre.blind, fun U hU hW9 => ⟨rfl, C.2.2.2.2.2.1.step hS hW9 hU, hR, by rw [hU]; exact hP⟩⟩ rfl hn hl.size hst (lv_room hW) hd hf) hS hl kx kk
theorem q_callSX (C : Cx p l s m args meth c cc nL own Ts D cy B) {y : MethodName} {ws : List Cond} {rm : Room} {n index maxL : Nat} {bytes : ByteArray} {ret : Option FieldType} {As rest st0 : List Value} {hh : List (Nat × Nat × Nat × Nat)} (hM : PC l D cy B y ws rm As μ post px) (cw : vx_CSW R s args own index y bytes maxL ret hh ws rm rm.cells rm.slots n) (hn : As.length = n) (hst : st0 = As.reverse ++ rest) (hW : (rest.map fun v => v.category).sum ≤ 8) (hd : decode cc pc = .ok (.invokestatic index, 3)) (hf : cells + rm.cells ≤ R.cells ∧ slots + rm.slots ≤ R.slots) (kx : ∀ (E : String) (μ2 : St), px E μ2 → PX p l e R s m args below meth c D cy B nL (cells + rm.cells) (slots + rm.slots) Q pc lv rest μ2 E) (kk : ∀ (v : Option Value) (μ2 : St), post v μ2 → PW p l e R s m args below meth c D cy B nL (cells + rm.cells) (slots + rm.slots) Q (pc + 3) lv (v.toList ++ rest) μ2) : PW p l e R s m args below meth c D cy B nL cells slots Q pc lv st0 μ := by
  intro hR H locs ls hP hS hl
  exact q_after (vx_runSX (hh := hh) (As := As) (rest := rest) ⟨C.1, C.2.1, C.2.2.1, C.2.2.2.1, C.2.2.2.2.1⟩ hM cw ⟨Pre.blind, fun U hU hW9 => ⟨rfl, C.2.2.2.2.2.1.step hS hW9 hU, hR, by rw [hU]; exact hP⟩⟩ rfl hn hl.size hst (lv_room hW) hd hf) hS hl kx kk
theorem q_iret (C : Cx p l s m args meth c cc nL own Ts D cy B) {v : Int} (hret : meth.sig.returnType = some .int) (hp : post (some (iN v)) μ) (hc : cells ≤ mc) (hs : slots ≤ ms) (hd : decode cc pc = .ok (.ireturn, 1)) : PW p l e R s m args below meth c D cy B nL cells slots (vx_MQ below (Qp D cy B post) (Xp D cy B px) args s mc ms (fun q => B ≤ q)) pc lv [iN v] μ := by
  intro hR H locs ls hP hS hl
  have hlk : meth.locks = false := C.2.2.2.2.2.2.1
  exact vx_ret (W.widen hc hs (W.iret (v := Int32.ofInt v) C.1 C.2.1 hret (fun t ht hW => ⟨⟨_, μ, rfl, hp, hR, by rw [ht]; exact hP⟩, hS.F ht⟩) hS.2.2 hd hlk))
theorem q_zret (C : Cx p l s m args meth c cc nL own Ts D cy B) {v : Int} (hret : meth.sig.returnType = some .boolean) (hz : v = 0 ∨ v = 1) (hp : post (some (iN v)) μ) (hc : cells ≤ mc) (hs : slots ≤ ms) (hd : decode cc pc = .ok (.ireturn, 1)) : PW p l e R s m args below meth c D cy B nL cells slots (vx_MQ below (Qp D cy B post) (Xp D cy B px) args s mc ms (fun q => B ≤ q)) pc lv [iN v] μ := by
  intro hR H locs ls hP hS hl
  have hlk : meth.locks = false := C.2.2.2.2.2.2.1
  exact vx_ret (W.widen hc hs (W.zret (v := Int32.ofInt v) C.1 C.2.1 hret (by rcases hz with rfl | rfl <;> decide +kernel) (fun t ht hW => ⟨⟨_, μ, rfl, hp, hR, by rw [ht]; exact hP⟩, hS.F ht⟩) hS.2.2 hd hlk))
theorem q_vret (C : Cx p l s m args meth c cc nL own Ts D cy B) (hret : meth.sig.returnType = none) (hp : post none μ) (hc : cells ≤ mc) (hs : slots ≤ ms) (hd : decode cc pc = .ok (.return_, 1)) : PW p l e R s m args below meth c D cy B nL cells slots (vx_MQ below (Qp D cy B post) (Xp D cy B px) args s mc ms (fun q => B ≤ q)) pc lv [] μ := by
  intro hR H locs ls hP hS hl
  have hlk : meth.locks = false := C.2.2.2.2.2.2.1
  exact vx_ret (W.widen hc hs (W.vret C.1 C.2.1 hret (fun t ht hW => ⟨⟨_, μ, rfl, hp, hR, by rw [ht]; exact hP⟩, hS.F ht⟩) hS.2.2 hd hlk))
theorem q_throw (C : Cx p l s m args meth c cc nL own Ts D cy B) {ik is ic : Nat} {cls text : String} {names : List String} (hcls : Bundle.fit cls = true) (hnames : ∀ n ∈ names, Bundle.fit n = true) (hk : Cond.classLink own ik cls ∈ Ts) (hini : Cond.initialized cls ∈ Ts) (hstr : (own, is, text) ∈ SLs) (hat : ∀ w ∈ vx_atS own ic cls names, w.before args s = true) (hgood : ∀ w ∈ Cond.classLink own ik cls :: Cond.initialized cls :: vx_atS own ic cls names, vx_ot w = true)
    (d0 : decode cc pc = .ok (.new ik, 3)) (d3 : decode cc (pc + 3) = .ok (.dup, 1)) (d4 : decode cc (pc + 4) = .ok (.ldc is, 2)) (d6 : decode cc (pc + 6) = .ok (.invokespecial ic, 3)) (d9 : decode cc (pc + 9) = .ok (.athrow, 1)) (hno : ∀ x ∈ c.exceptionTable.toList, False)
    (hRf : names.length + 3 < R.frames) (hRl : 13 * (names.length + 1) + 43 ≤ R.locals) (hRc : cells + 1 ≤ R.cells) (hRs : slots + 6 ≤ R.slots) (hp : px cls μ) (hc : cells + 1 ≤ mc) (hs : slots + 6 ≤ ms) : PW p l e R s m args below meth c D cy B nL cells slots (vx_MQ below (Qp D cy B post) (Xp D cy B px) args s mc ms (fun q => B ≤ q)) pc lv [] μ := by
  intro hR H locs ls hP hS hl
  obtain ⟨-, -, -, hU, hN, hst, -⟩ := C.2.2.2.2.2.1
  obtain ⟨sa, hsa⟩ := hst _ hstr
  refine vx_throwS C.1 C.2.1 C.2.2.2.2.2.2.2.2 C.2.2.2.1 hcls hnames (C.2.2.2.2.1 _ hk) (C.2.2.2.2.1 _ hini) hsa hat hgood hU hN hS (by rw [C.2.2.1]; exact hl.size) d0 d3 d4 d6 d9 (fun x hx => (hno x hx).elim) hRf (by simpa using hRl) hRc hRs C.2.2.2.2.2.2.1 (fun t hv hz hk9 => ⟨⟨μ, hp, hR, hP.kept (fun k q hk2 => hk9 q.1 ((hP k q hk2).lt))⟩, ?_⟩) hS.2.2 hc hs
  exact ⟨Nat.le_trans hS.1 hz, fun q h1 h2 => (hk9 q (Nat.lt_of_lt_of_le h1 hS.1)).trans (hS.2.1 q h1 h2)⟩
theorem q_out (C : Cx p l s m args meth c cc nL own Ts D cy B) {E : String} (hno : ∀ x ∈ c.exceptionTable.toList, False) (hp : px E μ) (hc : cells ≤ mc) (hs : slots ≤ ms) : PX p l e R s m args below meth c D cy B nL cells slots (vx_MQ below (Qp D cy B post) (Xp D cy B px) args s mc ms (fun q => B ≤ q)) pc lv st μ E := by
  intro hR H locs ls q ce hP hS hl hce hcv hcl
  exact vx_out (fun x hx => (hno x hx).elim) C.2.2.2.2.2.2.1 hce hcv hcl (fun t ht hv => ⟨⟨μ, hp, hR, by rw [ht]; exact hP⟩, hS.F ht⟩) hS.2.2 hc hs
theorem q_catch (C : Cx p l s m args meth c cc nL own Ts D cy B) {E name : String} (pre : List ExceptionTableEntry) (x : ExceptionTableEntry) (suf : List ExceptionTableEntry) (hsplit : c.exceptionTable.toList = pre ++ x :: suf)
    (hpass : ∀ z ∈ pre, covers z pc = false ∨ (z.catchType ≠ 0 ∧ ∃ nm : String, Cond.classLink own z.catchType nm ∈ Ts ∧ (E, nm) ∈ NCs)) (hx : covers x pc = true) (h0 : x.catchType ≠ 0) (hlink : Cond.classLink own x.catchType name ∈ Ts) (hcast : (Cond.castable E name).before args s = true)
    (kk : ∀ q : Nat, PW p l e R s m args below meth c D cy B nL cells slots Q x.handlerPc lv [.ref q] μ) : PX p l e R s m args below meth c D cy B nL cells slots Q pc lv st μ E := by
  intro hR H locs ls q ce hP hS hl hce hcv hcl
  exact vx_catch C.2.2.2.1 pre x suf hsplit (fun z hz => by
    rcases hpass z hz with h | ⟨h1, nm, h2, h3⟩
    · exact Or.inl h
    · exact Or.inr ⟨h1, nm, C.2.2.2.2.1 _ h2, C.2.2.2.2.2.1.2.2.2.2.2.2 _ h3⟩) hx h0 (C.2.2.2.2.1 _ hlink) hcast hce hcv hcl (kk q hR H locs ls hP hS hl)
def cpS (μ : St) (a b : Nat) : St := fun x k => if x = a ∧ 0 ≤ k ∧ k < 6 then μ b k else μ x k
theorem q_copy (C : Cx p l s m args meth c cc nL own Ts D cy B) {a b index : Nat} (ka : kd a = 5) (kb : kd b = 5) (na : ln a = 6) (nb : ln b = 6) (ha : a < 233) (hb : b < 233) (hw1 : Cond.methodLink own index arraycopyName ∈ Ts) (hw2 : Cond.native arraycopyName ∈ Ts) (hw3 : Cond.static arraycopyName ∈ Ts) (hw4 : Cond.initialized "java/lang/System" ∈ Ts) (hRf : 1 ≤ R.frames) (hRl : (st.map fun v => v.category).sum + (nativeFrameWords "java/lang/System" "arraycopy" 5 + 11) ≤ R.locals) (hd : decode cc pc = .ok (.invokestatic index, 3))
    (kk : PW p l e R s m args below meth c D cy B nL cells slots Q (pc + 3) lv st (cpS μ a b)) : PW p l e R s m args below meth c D cy B nL cells slots Q pc lv (iN 6 :: iN 0 :: .ref (B + a) :: iN 0 :: .ref (B + b) :: st) μ := by
  intro hR H locs ls hP hS hl
  have h9a := WL_get (B := B) (cy := cy) (μ := μ) ha
  rw [ent_int ka na] at h9a
  have h9b := WL_get (B := B) (cy := cy) (μ := μ) hb
  rw [ent_int kb nb] at h9b
  have e6 : (Int32.ofInt 6).toNatClampNeg = 6 := by decide +kernel
  have e0 : (Int32.ofInt 0).toNatClampNeg = 0 := by decide +kernel
  refine va_copyi C.1 C.2.1 (by rw [C.2.2.1]; exact hl.size.symm) C.2.2.2.1 (C.2.2.2.2.1 _ hw1) (C.2.2.2.2.1 _ hw2) (C.2.2.2.2.1 _ hw3) (C.2.2.2.2.1 _ hw4) C.2.2.2.2.2.1.1 hP (WL_D (B := B)) hS b a 0 0 h9b h9a rfl rfl rfl (by decide +kernel) (by decide +kernel) (by decide +kernel) (by rw [e0, e6]; decide) (by rw [e0, e6]; decide) (fun i hi => rfl) hRf hRl hd (fun H1 locs1 hP1 hD1 hS1 => ?_)
  have hf : va_cpy (fun j : Nat => Int32.ofInt (μ b j)) (fun j : Nat => Int32.ofInt (μ a j)) 0 0 6 = fun j : Nat => Int32.ofInt (cpS μ a b a j) := by
    funext j
    unfold va_cpy cpS
    by_cases h : j < 6
    · have : (j : Int) < 6 := by omega
      simp [h, this]
    · have : ¬ (j : Int) < 6 := by omega
      simp [h, this]
  rw [e0, e6, hf, WL_set (μ' := cpS μ a b) (by rw [ent_int ka na]) (fun x hx k => by simp [cpS, hx])] at hP1
  refine kk (fun x k => ?_) H1 locs1 ls hP1 hS1 hl
  unfold cpS
  split
  · exact hR b k
  · exact hR x k
theorem q_mmax (C : Cx p l s m args meth c cc nL own Ts D cy B) {x y : Int} {index : Nat} (hx : InR x) (hy : InR y) (hw1 : Cond.methodLink own index Lib.Math.max.name ∈ Ts) (hw2 : Cond.static Lib.Math.max.name ∈ Ts) (hw3 : Cond.initialized "java/lang/Math" ∈ Ts) (hw4 : Cond.code Lib.Math.max.name Lib.Math.max.code 2 (some .int) ∈ Ts) (hRf : 1 ≤ R.frames) (hRl : (st.map fun v => v.category).sum + 13 ≤ R.locals) (hc : cells ≤ R.cells) (hs : slots ≤ R.slots) (hd : decode cc pc = .ok (.invokestatic index, 3))
    (kk : PW p l e R s m args below meth c D cy B nL cells slots Q (pc + 3) lv (iN (if x < y then y else x) :: st) μ) : PW p l e R s m args below meth c D cy B nL cells slots Q pc lv (iN y :: iN x :: st) μ := by
  intro hR H locs ls hP hS hl
  refine va_mmax C.1 C.2.1 (by rw [C.2.2.1]; exact hl.size.symm) C.2.2.2.1 (C.2.2.2.2.1 _ hw1) (C.2.2.2.2.1 _ hw2) (C.2.2.2.2.1 _ hw3) (C.2.2.2.2.1 _ hw4) hRf hRl hc hs hd ?_
  have he : (if Int32.ofInt x < Int32.ofInt y then Int32.ofInt y else Int32.ofInt x) = Int32.ofInt (if x < y then y else x) := by
    by_cases h : x < y
    · rw [if_pos h, if_pos ((x_lt hx hy).mpr h)]
    · rw [if_neg h, if_neg (fun z => h ((x_lt hx hy).mp z))]
  rw [he]
  exact kk hR H locs ls hP hS hl
end
theorem q_start {l : Launch} {D : va_G} {cy : Nat → ClassId} {B : Nat} {y : MethodName} {ws ws' : List Cond} {rm : Room} {as : List Value} {μ : St} {post : Option Value → St → Prop} {px : String → St → Prop} {cc : ByteArray} {maxL : Nat} {ret : Option FieldType} (hl : l.stackTraces = false) (hy : plainName y.cls = true) (hw : ws = Cond.code y cc maxL ret :: ws') (hcat : ∀ v ∈ as, v.category = 1) (hlen : as.length ≤ maxL)
    (body : ∀ (p : Program) (e : Env) (s : State) (m : MethodId) (args : Array Value) (below : List Frame) (meth : Method) (c : Code), Cx p l s m args meth c cc maxL y.cls ws D cy B → meth.sig.returnType = ret → (∀ x ∈ c.exceptionTable.toList, False) →
      PW p l e rm s m args below meth c D cy B maxL 0 0 (vx_MQ below (Qp D cy B post) (Xp D cy B px) args s rm.cells rm.slots (fun q => B ≤ q)) 0 (as.map some ++ List.replicate (maxL - as.length) none) [] μ) : PC l D cy B y ws rm as μ post px := by
  refine vx_ofW hy hw ?_
  intro p e s m args below meth c s₁ Bd hml ht hp
  obtain ⟨rfl, hE, hR, hP⟩ := hp
  have hBs : B ≤ s.heap.size := by
    have := (hP 0 _ (WL_get (by decide))).lt
    omega
  rw [lg_entry_eq]
  exact body p e s m _ below meth c ⟨Bd.exec, Bd.bytes, hml, findClass_of_methodNamed Bd.named, atoms_spec (ws := ws) Bd.pre, hE, Bd.notSynchronized, hBs, hl⟩ Bd.returns ht hR s.heap [] _ hP va_S.rf (lh_entry hcat hlen)
theorem q_startH {l : Launch} {D : va_G} {cy : Nat → ClassId} {B : Nat} {y : MethodName} {ws ws' : List Cond} {rm : Room} {as : List Value} {μ : St} {post : Option Value → St → Prop} {px : String → St → Prop} {cc : ByteArray} {maxL : Nat} {ret : Option FieldType} {hh : List (Nat × Nat × Nat × Nat)} (hl : l.stackTraces = false) (hy : plainName y.cls = true) (hw : ws = Cond.codeWith y cc maxL ret hh :: ws') (hcat : ∀ v ∈ as, v.category = 1) (hlen : as.length ≤ maxL)
    (body : ∀ (p : Program) (e : Env) (s : State) (m : MethodId) (args : Array Value) (below : List Frame) (meth : Method) (c : Code), Cx p l s m args meth c cc maxL y.cls ws D cy B → meth.sig.returnType = ret → c.exceptionTable.toList = tableOf hh →
      PW p l e rm s m args below meth c D cy B maxL 0 0 (vx_MQ below (Qp D cy B post) (Xp D cy B px) args s rm.cells rm.slots (fun q => B ≤ q)) 0 (as.map some ++ List.replicate (maxL - as.length) none) [] μ) : PC l D cy B y ws rm as μ post px := by
  refine vx_ofWH hy hw ?_
  intro p e s m args below meth c s₁ Bd hml hp
  obtain ⟨rfl, hE, hR, hP⟩ := hp
  have hBs : B ≤ s.heap.size := by
    have := (hP 0 _ (WL_get (by decide))).lt
    omega
  have hts := atoms_spec (ws := ws) Bd.pre
  rw [lg_entry_eq]
  exact body p e s m _ below meth c ⟨Bd.exec, Bd.bytes, hml, findClass_of_methodNamed Bd.named, hts, hE, Bd.notSynchronized, hBs, hl⟩ Bd.returns (vx_table (x := y) Bd (hts _ (by rw [hw]; exact List.mem_cons_self))) hR s.heap [] _ hP va_S.rf (lh_entry hcat hlen)
end
section
theorem k0 : kd 0 = 3 := by decide
theorem k1 : kd 1 = 1 := by decide
theorem k2 : kd 2 = 5 := by decide
theorem n2 : ln 2 = 6 := by decide
theorem k3 : kd 3 = 7 := by decide
theorem n3 : ln 3 = 8 := by decide
theorem k12 : kd 12 = 7 := by decide
theorem n12 : ln 12 = 8 := by decide
theorem k21 : kd 21 = 5 := by decide
theorem n21 : ln 21 = 6 := by decide
theorem k22 : kd 22 = 2 := by decide
theorem k23 : kd 23 = 7 := by decide
theorem n23 : ln 23 = 100 := by decide
theorem k124 : kd 124 = 5 := by decide
theorem n124 : ln 124 = 100 := by decide
theorem k125 : kd 125 = 5 := by decide
theorem n125 : ln 125 = 100 := by decide
theorem k126 : kd 126 = 5 := by decide
theorem n126 : ln 126 = 100 := by decide
theorem k127 : kd 127 = 6 := by decide
theorem n127 : ln 127 = 100 := by decide
theorem k128 : kd 128 = 0 := by decide
theorem k129 : kd 129 = 7 := by decide
theorem n129 : ln 129 = 40 := by decide
theorem k170 : kd 170 = 7 := by decide
theorem n170 : ln 170 = 40 := by decide
theorem k211 : kd 211 = 5 := by decide
theorem n211 : ln 211 = 40 := by decide
theorem k212 : kd 212 = 5 := by decide
theorem n212 : ln 212 = 40 := by decide
theorem k213 : kd 213 = 5 := by decide
theorem n213 : ln 213 = 40 := by decide
theorem k214 : kd 214 = 5 := by decide
theorem n214 : ln 214 = 40 := by decide
theorem k215 : kd 215 = 5 := by decide
theorem n215 : ln 215 = 6 := by decide
theorem k216 : kd 216 = 4 := by decide
theorem k217 : kd 217 = 5 := by decide
theorem n217 : ln 217 = 6 := by decide
theorem k218 : kd 218 = 5 := by decide
theorem n218 : ln 218 = 6 := by decide
theorem k219 : kd 219 = 5 := by decide
theorem n219 : ln 219 = 48 := by decide
theorem k220 : kd 220 = 5 := by decide
theorem n220 : ln 220 = 48 := by decide
theorem k221 : kd 221 = 5 := by decide
theorem n221 : ln 221 = 600 := by decide
theorem k222 : kd 222 = 5 := by decide
theorem n222 : ln 222 = 100 := by decide
theorem k223 : kd 223 = 5 := by decide
theorem n223 : ln 223 = 100 := by decide
theorem k224 : kd 224 = 5 := by decide
theorem n224 : ln 224 = 100 := by decide
theorem k225 : kd 225 = 6 := by decide
theorem n225 : ln 225 = 100 := by decide
theorem k226 : kd 226 = 5 := by decide
theorem n226 : ln 226 = 240 := by decide
theorem k227 : kd 227 = 5 := by decide
theorem n227 : ln 227 = 320 := by decide
theorem k228 : kd 228 = 5 := by decide
theorem n228 : ln 228 = 40 := by decide
theorem k229 : kd 229 = 5 := by decide
theorem n229 : ln 229 = 40 := by decide
theorem k230 : kd 230 = 6 := by decide
theorem n230 : ln 230 = 40 := by decide
theorem k231 : kd 231 = 5 := by decide
theorem n231 : ln 231 = 6 := by decide
theorem k232 : kd 232 = 8 := by decide
theorem n232 : ln 232 = 1 := by decide
theorem k_r3 {x : Nat} (h : x < 8) : kd (4 + x) = 5 := by
  unfold kd
  rw [if_neg (by omega), if_neg (by omega), if_neg (by omega), if_neg (by omega), if_neg (by omega), if_neg (by omega), if_neg (by omega), if_neg (by omega)]
theorem n_r3 {x : Nat} (h : x < 8) : ln (4 + x) = 6 := by
  unfold ln
  rw [if_neg (by omega), if_pos (by omega)]
theorem l_r3 {x : Nat} (h : x < 8) : 4 + x < 233 := by omega
theorem k_r12 {x : Nat} (h : x < 8) : kd (13 + x) = 5 := by
  unfold kd
  rw [if_neg (by omega), if_neg (by omega), if_neg (by omega), if_neg (by omega), if_neg (by omega), if_neg (by omega), if_neg (by omega), if_neg (by omega)]
theorem n_r12 {x : Nat} (h : x < 8) : ln (13 + x) = 6 := by
  unfold ln
  rw [if_neg (by omega), if_pos (by omega)]
theorem l_r12 {x : Nat} (h : x < 8) : 13 + x < 233 := by omega
theorem k_r23 {x : Nat} (h : x < 100) : kd (24 + x) = 5 := by
  unfold kd
  rw [if_neg (by omega), if_neg (by omega), if_neg (by omega), if_neg (by omega), if_neg (by omega), if_neg (by omega), if_neg (by omega), if_neg (by omega)]
theorem n_r23 {x : Nat} (h : x < 100) : ln (24 + x) = 6 := by
  unfold ln
  rw [if_neg (by omega), if_neg (by omega), if_neg (by omega), if_pos (by omega)]
theorem l_r23 {x : Nat} (h : x < 100) : 24 + x < 233 := by omega
theorem k_r129 {x : Nat} (h : x < 40) : kd (130 + x) = 5 := by
  unfold kd
  rw [if_neg (by omega), if_neg (by omega), if_neg (by omega), if_neg (by omega), if_neg (by omega), if_neg (by omega), if_neg (by omega), if_neg (by omega)]
theorem n_r129 {x : Nat} (h : x < 40) : ln (130 + x) = 6 := by
  unfold ln
  rw [if_neg (by omega), if_neg (by omega), if_neg (by omega), if_neg (by omega), if_neg (by omega), if_neg (by omega), if_pos (by omega)]
theorem l_r129 {x : Nat} (h : x < 40) : 130 + x < 233 := by omega
theorem k_r170 {x : Nat} (h : x < 40) : kd (171 + x) = 5 := by
  unfold kd
  rw [if_neg (by omega), if_neg (by omega), if_neg (by omega), if_neg (by omega), if_neg (by omega), if_neg (by omega), if_neg (by omega), if_neg (by omega)]
theorem n_r170 {x : Nat} (h : x < 40) : ln (171 + x) = 8 := by
  unfold ln
  rw [if_neg (by omega), if_neg (by omega), if_neg (by omega), if_neg (by omega), if_neg (by omega), if_neg (by omega), if_neg (by omega), if_neg (by omega), if_pos (by omega)]
theorem l_r170 {x : Nat} (h : x < 40) : 171 + x < 233 := by omega
theorem up_to (M : Nat) (Pf : Nat → Prop) (h : ∀ i, i ≤ M → (i < M → Pf (i + 1)) → Pf i) : ∀ i, i ≤ M → Pf i := by
  have hh : ∀ n i, M - i = n → i ≤ M → Pf i := by
    intro n
    induction n with
    | zero => exact fun i e hi => h i hi (fun z => absurd z (by omega))
    | succ n ih => exact fun i e hi => h i hi (fun z => ih (i + 1) (by omega) (by omega))
  exact fun i hi => hh _ i rfl hi
theorem by_meas {α : Type} (f : α → Nat) (Pf : α → Prop) (h : ∀ a, (∀ b, f b < f a → Pf b) → Pf a) : ∀ a, Pf a := by
  have hh : ∀ n a, f a ≤ n → Pf a := by
    intro n
    induction n with
    | zero => exact fun a e => h a (fun b hb => absurd hb (by omega))
    | succ n ih => exact fun a e => h a (fun b hb => ih b (by omega))
  exact fun a => hh _ a (Nat.le_refl _)
def bI (q : Prop) [Decidable q] : Int := if q then 1 else 0
theorem bI_t {q : Prop} [Decidable q] (h : q) : bI q = 1 := if_pos h
theorem bI_f {q : Prop} [Decidable q] (h : ¬ q) : bI q = 0 := if_neg h
theorem bI_01 (q : Prop) [Decidable q] : bI q = 0 ∨ bI q = 1 := by
  unfold bI
  split
  · exact Or.inr rfl
  · exact Or.inl rfl
theorem bI_1 {q : Prop} [Decidable q] : bI q = 1 ↔ q := by
  unfold bI
  split <;> simp_all
theorem bI_0 {q : Prop} [Decidable q] : bI q = 0 ↔ ¬ q := by
  unfold bI
  split <;> simp_all
theorem updS_ap (μ : St) (a : Nat) (k v : Int) (b : Nat) (j : Int) : updS μ a k v b j = if b = a ∧ j = k then v else μ b j := rfl
theorem cpS_ap (μ : St) (a b x : Nat) (k : Int) : cpS μ a b x k = if x = a ∧ 0 ≤ k ∧ k < 6 then μ b k else μ x k := rfl
/- the first i places of the array b hold F -/
def preS (μ : St) (b : Nat) (i : Nat) (F : Int → Int) : St := fun x k => if x = b ∧ 0 ≤ k ∧ k < (i : Int) then F k else μ x k
theorem preS_ap (μ : St) (b i : Nat) (F : Int → Int) (x : Nat) (k : Int) : preS μ b i F x k = if x = b ∧ 0 ≤ k ∧ k < (i : Int) then F k else μ x k := rfl
theorem preS_0 (μ : St) (b : Nat) (F : Int → Int) : preS μ b 0 F = μ := by
  funext x k
  rw [preS_ap, if_neg (by omega)]
theorem preS_ne (μ : St) {b x : Nat} (i : Nat) (F : Int → Int) (k : Int) (h : x ≠ b) : preS μ b i F x k = μ x k := by
  rw [preS_ap, if_neg (fun z => h z.1)]
theorem preS_out (μ : St) (b i : Nat) (F : Int → Int) (x : Nat) (k : Int) (h : (i : Int) ≤ k) : preS μ b i F x k = μ x k := by
  rw [preS_ap, if_neg (by omega)]
theorem preS_step (μ : St) (b i : Nat) (F : Int → Int) {v : Int} (h : v = F i) : updS (preS μ b i F) b i v = preS μ b (i + 1) F := by
  subst h
  funext x k
  rw [updS_ap, preS_ap, preS_ap]
  by_cases hx : x = b
  · by_cases hk : k = (i : Int)
    · rw [if_pos ⟨hx, hk⟩, if_pos ⟨hx, by omega, by omega⟩, hk]
    · rw [if_neg (fun z => hk z.2)]
      by_cases hl : 0 ≤ k ∧ k < (i : Int)
      · rw [if_pos ⟨hx, hl⟩, if_pos ⟨hx, by omega, by omega⟩]
      · rw [if_neg (fun z => hl z.2), if_neg (fun z => by omega)]
  · rw [if_neg (fun z => hx z.1), if_neg (fun z => hx z.1), if_neg (fun z => hx z.1)]
theorem preS_skip (μ : St) (b i : Nat) (F : Int → Int) (h : F i = μ b i) : preS μ b i F = preS μ b (i + 1) F := by
  funext x k
  rw [preS_ap, preS_ap]
  by_cases hx : x = b
  · by_cases hk : k = (i : Int)
    · rw [if_neg (by omega), if_pos ⟨hx, by omega, by omega⟩, hk, h, hx]
    · by_cases hl : 0 ≤ k ∧ k < (i : Int)
      · rw [if_pos ⟨hx, hl⟩, if_pos ⟨hx, by omega, by omega⟩]
      · rw [if_neg (fun z => hl z.2), if_neg (fun z => by omega)]
  · rw [if_neg (fun z => hx z.1), if_neg (fun z => hx z.1)]
abbrev r0 (k : Nat) : Room := { frames := k, cells := 0, slots := 0, locals := 36 * k }
abbrev r1 (k : Nat) : Room := { frames := k, cells := 1, slots := 6, locals := 36 * k }
end
section
set_option maxHeartbeats 4000000 in
set_option maxRecDepth 100000 in
theorem c_covers {l : Launch} (hlf : l.stackTraces = false) (D : va_G) (cy : Nat → ClassId) (B : Nat) {μ : St} {a b : Nat} (ka : kd a = 5) (na : ln a = 6) (la : a < 233) (kb : kd b = 5) (nb : ln b = 6) (lb : b < 233) : PC l D cy B yX3_covers wsX3_covers (r0 0) [.ref (B + a), .ref (B + b)] μ (ret1 (bI (∀ q : Nat, q < 6 → μ b q ≤ μ a q)) μ) noX := by
  refine PC.pre (fun hR => ?_)
  refine q_start (cc := cX3_covers) (maxL := 3) (ret := (some .boolean)) hlf (by decide +kernel) rfl (by simp [Value.category]) (Nat.le_of_ble_eq_true rfl) ?_
  intro p e s m args below meth c C hret hno
  show PW p l e (r0 0) s m args below meth c D cy B 3 0 0 _ 0 [some (.ref (B + a)), some (.ref (B + b)), none] [] μ
  have L : ∀ i : Nat, i ≤ 6 → (∀ q : Nat, q < i → μ b q ≤ μ a q) → PW p l e (r0 0) s m args below meth c D cy B 3 0 0 (vx_MQ below (Qp D cy B (ret1 (bI (∀ q : Nat, q < 6 → μ b q ≤ μ a q)) μ)) (Xp D cy B noX) args s (r0 0).cells (r0 0).slots (fun q => B ≤ q)) 2 [some (.ref (B + a)), some (.ref (B + b)), some (iN i)] [] μ := by
    refine up_to 6 _ (fun i hi ih hI => ?_)
    refine q_iload_n (pc := 2) C dX3_covers_2 rfl rfl ?_
    refine q_bipush (pc := 3) C (by decide +kernel) dX3_covers_3 ?_
    refine q_icmp_ge (pc := 5) (tgt := 25) C (by first | exact hR _ _ | exact hRo _ _ | assumption | exact ⟨by omega, by omega⟩) (by first | exact hR _ _ | exact hRo _ _ | assumption | exact ⟨by omega, by omega⟩) dX3_covers_5 (by decide) (fun hc => ?_) (fun hc => ?_)
    · refine q_iconst (pc := 25) C dX3_covers_25 ?_
      exact q_zret (pc := 26) C hret (by first | exact Or.inl rfl | exact Or.inr rfl | assumption) ⟨by rw [bI_t (fun q hq => hI q (by omega))], rfl⟩ (by decide) (by decide) dX3_covers_26
    · refine q_aload_n (pc := 8) C dX3_covers_8 rfl rfl ?_
      refine q_iload_n (pc := 9) C dX3_covers_9 rfl rfl ?_
      refine q_iaload (pc := 10) C ka na (by decide) la (by omega) (by omega) dX3_covers_10 ?_
      refine q_aload_n (pc := 11) C dX3_covers_11 rfl rfl ?_
      refine q_iload_n (pc := 12) C dX3_covers_12 rfl rfl ?_
      refine q_iaload (pc := 13) C kb nb (by decide) lb (by omega) (by omega) dX3_covers_13 ?_
      refine q_icmp_ge (pc := 14) (tgt := 19) C (by first | exact hR _ _ | exact hRo _ _ | assumption | exact ⟨by omega, by omega⟩) (by first | exact hR _ _ | exact hRo _ _ | assumption | exact ⟨by omega, by omega⟩) dX3_covers_14 (by decide) (fun hd => ?_) (fun hd => ?_)
      · refine q_iinc (pc := 19) (lv2 := [_, _, _]) C dX3_covers_19 (by decide) rfl rfl ?_
        refine q_goto (pc := 22) (tgt := 2) C dX3_covers_22 (by decide) ?_
        refine ih (by omega) (fun q hq => ?_)
        by_cases e : q = i
        · rw [e]; exact hd
        · exact hI q (by omega)
      · refine q_iconst (pc := 17) C dX3_covers_17 ?_
        exact q_zret (pc := 18) C hret (by first | exact Or.inl rfl | exact Or.inr rfl | assumption) ⟨by rw [bI_f (fun z => hd (z i (by omega)))], rfl⟩ (by decide) (by decide) dX3_covers_18
  refine q_iconst (pc := 0) C dX3_covers_0 ?_
  refine q_istore_n (pc := 1) (lv2 := [_, _, _]) C dX3_covers_1 rfl (by decide) rfl ?_
  exact L 0 (by omega) (fun q hq => absurd hq (by omega))
set_option maxHeartbeats 4000000 in
set_option maxRecDepth 100000 in
theorem c_same {l : Launch} (hlf : l.stackTraces = false) (D : va_G) (cy : Nat → ClassId) (B : Nat) {μ : St} {a b : Nat} (ka : kd a = 5) (na : ln a = 6) (la : a < 233) (kb : kd b = 5) (nb : ln b = 6) (lb : b < 233) : PC l D cy B yX3_same wsX3_same (r0 0) [.ref (B + a), .ref (B + b)] μ (ret1 (bI (∀ q : Nat, q < 6 → μ a q = μ b q)) μ) noX := by
  refine PC.pre (fun hR => ?_)
  refine q_start (cc := cX3_same) (maxL := 3) (ret := (some .boolean)) hlf (by decide +kernel) rfl (by simp [Value.category]) (Nat.le_of_ble_eq_true rfl) ?_
  intro p e s m args below meth c C hret hno
  show PW p l e (r0 0) s m args below meth c D cy B 3 0 0 _ 0 [some (.ref (B + a)), some (.ref (B + b)), none] [] μ
  have L : ∀ i : Nat, i ≤ 6 → (∀ q : Nat, q < i → μ a q = μ b q) → PW p l e (r0 0) s m args below meth c D cy B 3 0 0 (vx_MQ below (Qp D cy B (ret1 (bI (∀ q : Nat, q < 6 → μ a q = μ b q)) μ)) (Xp D cy B noX) args s (r0 0).cells (r0 0).slots (fun q => B ≤ q)) 2 [some (.ref (B + a)), some (.ref (B + b)), some (iN i)] [] μ := by
    refine up_to 6 _ (fun i hi ih hI => ?_)
    refine q_iload_n (pc := 2) C dX3_same_2 rfl rfl ?_
    refine q_bipush (pc := 3) C (by decide +kernel) dX3_same_3 ?_
    refine q_icmp_ge (pc := 5) (tgt := 25) C (by first | exact hR _ _ | exact hRo _ _ | assumption | exact ⟨by omega, by omega⟩) (by first | exact hR _ _ | exact hRo _ _ | assumption | exact ⟨by omega, by omega⟩) dX3_same_5 (by decide) (fun hc => ?_) (fun hc => ?_)
    · refine q_iconst (pc := 25) C dX3_same_25 ?_
      exact q_zret (pc := 26) C hret (by first | exact Or.inl rfl | exact Or.inr rfl | assumption) ⟨by rw [bI_t (fun q hq => hI q (by omega))], rfl⟩ (by decide) (by decide) dX3_same_26
    · refine q_aload_n (pc := 8) C dX3_same_8 rfl rfl ?_
      refine q_iload_n (pc := 9) C dX3_same_9 rfl rfl ?_
      refine q_iaload (pc := 10) C ka na (by decide) la (by omega) (by omega) dX3_same_10 ?_
      refine q_aload_n (pc := 11) C dX3_same_11 rfl rfl ?_
      refine q_iload_n (pc := 12) C dX3_same_12 rfl rfl ?_
      refine q_iaload (pc := 13) C kb nb (by decide) lb (by omega) (by omega) dX3_same_13 ?_
      refine q_icmp_eq (pc := 14) (tgt := 19) C (by first | exact hR _ _ | exact hRo _ _ | assumption | exact ⟨by omega, by omega⟩) (by first | exact hR _ _ | exact hRo _ _ | assumption | exact ⟨by omega, by omega⟩) dX3_same_14 (by decide) (fun hd => ?_) (fun hd => ?_)
      · refine q_iinc (pc := 19) (lv2 := [_, _, _]) C dX3_same_19 (by decide) rfl rfl ?_
        refine q_goto (pc := 22) (tgt := 2) C dX3_same_22 (by decide) ?_
        refine ih (by omega) (fun q hq => ?_)
        by_cases e : q = i
        · rw [e]; exact hd
        · exact hI q (by omega)
      · refine q_iconst (pc := 17) C dX3_same_17 ?_
        exact q_zret (pc := 18) C hret (by first | exact Or.inl rfl | exact Or.inr rfl | assumption) ⟨by rw [bI_f (fun z => hd (z i (by omega)))], rfl⟩ (by decide) (by decide) dX3_same_18
  refine q_iconst (pc := 0) C dX3_same_0 ?_
  refine q_istore_n (pc := 1) (lv2 := [_, _, _]) C dX3_same_1 rfl (by decide) rfl ?_
  exact L 0 (by omega) (fun q hq => absurd hq (by omega))
set_option maxHeartbeats 4000000 in
set_option maxRecDepth 100000 in
theorem c_asTold {l : Launch} (hlf : l.stackTraces = false) (D : va_G) (cy : Nat → ClassId) (B : Nat) {μ : St} {x : Int} (hx : InR x) : PC l D cy B yX3_asTold wsX3_asTold (r0 0) [iN x] μ (ret1 (if x = 1000000 then -1 else x) μ) noX := by
  refine PC.pre (fun hR => ?_)
  refine q_start (cc := cX3_asTold) (maxL := 1) (ret := (some .int)) hlf (by decide +kernel) rfl (by simp [Value.category]) (Nat.le_of_ble_eq_true rfl) ?_
  intro p e s m args below meth c C hret hno
  show PW p l e (r0 0) s m args below meth c D cy B 1 0 0 _ 0 [some (iN x)] [] μ
  obtain ⟨hx1, hx2⟩ := id hx
  refine q_iload_n (pc := 0) C dX3_asTold_0 rfl rfl ?_
  refine q_ldc (pc := 1) (n := 1000000) (x := (1000000 : Int32)) C (by decide +kernel) (by decide +kernel) dX3_asTold_1 ?_
  refine q_icmp_ne (pc := 3) (tgt := 10) C (by first | exact hR _ _ | exact hRo _ _ | assumption | exact ⟨by omega, by omega⟩) (by first | exact hR _ _ | exact hRo _ _ | assumption | exact ⟨by omega, by omega⟩) dX3_asTold_3 (by decide) (fun hc => ?_) (fun hc => ?_)
  · refine q_iload_n (pc := 10) C dX3_asTold_10 rfl rfl ?_
    exact q_iret (pc := 11) C hret ⟨by rw [if_neg hc], rfl⟩ (by decide) (by decide) dX3_asTold_11
  · refine q_iconst (pc := 6) C dX3_asTold_6 ?_
    refine q_goto (pc := 7) (tgt := 11) C dX3_asTold_7 (by decide) ?_
    exact q_iret (pc := 11) C hret ⟨by rw [if_pos hc], rfl⟩ (by decide) (by decide) dX3_asTold_11
set_option maxHeartbeats 4000000 in
set_option maxRecDepth 100000 in
theorem c_copyInto {l : Launch} (hlf : l.stackTraces = false) (D : va_G) (cy : Nat → ClassId) (B : Nat) {μ : St} {a b : Nat} (ka : kd a = 5) (na : ln a = 6) (la : a < 233) (kb : kd b = 5) (nb : ln b = 6) (lb : b < 233) : PC l D cy B yX3_copyInto wsX3_copyInto (r0 1) [.ref (B + a), .ref (B + b)] μ (ret0 (cpS μ a b)) noX := by
  refine PC.pre (fun hR => ?_)
  refine q_start (cc := cX3_copyInto) (maxL := 2) (ret := none) hlf (by decide +kernel) rfl (by simp [Value.category]) (Nat.le_of_ble_eq_true rfl) ?_
  intro p e s m args below meth c C hret hno
  show PW p l e (r0 1) s m args below meth c D cy B 2 0 0 _ 0 [some (.ref (B + a)), some (.ref (B + b))] [] μ
  refine q_aload_n (pc := 0) C dX3_copyInto_0 rfl rfl ?_
  refine q_iconst (pc := 1) C dX3_copyInto_1 ?_
  refine q_aload_n (pc := 2) C dX3_copyInto_2 rfl rfl ?_
  refine q_iconst (pc := 3) C dX3_copyInto_3 ?_
  refine q_bipush (pc := 4) C (by decide +kernel) dX3_copyInto_4 ?_
  refine q_copy (pc := 6) C ka kb na nb la lb (by decide +kernel) (by decide +kernel) (by decide +kernel) (by decide +kernel) (Nat.le_of_ble_eq_true rfl) (Nat.le_of_ble_eq_true rfl) dX3_copyInto_6 ?_
  exact q_vret (pc := 9) C hret ⟨rfl, rfl⟩ (by decide) (by decide) dX3_copyInto_9
end
section
theorem fiX1_addPlace_X1 : ∀ w ∈ u_ws RX1 TX1 5, w ∈ wsX1_addPlace := by decide +kernel
theorem fiX1_addTransition_X1 : ∀ w ∈ u_ws RX1 TX1 5, w ∈ wsX1_addTransition := by decide +kernel
theorem fiX1_enables_X1 : ∀ w ∈ u_ws RX1 TX1 5, w ∈ wsX1_enables := by decide +kernel
theorem fiX1_fire_X1 : ∀ w ∈ u_ws RX1 TX1 5, w ∈ wsX1_fire := by decide +kernel
theorem fiX1_setArc_X1 : ∀ w ∈ u_ws RX1 TX1 5, w ∈ wsX1_setArc := by decide +kernel
theorem flX1_addPlace_23 : Cond.fieldLink RX1 23 RX1 (TX1 0).2.1 (TX1 0).2.2.1 ∈ wsX1_addPlace := by decide +kernel
theorem flX1_addPlace_9 : Cond.fieldLink RX1 9 RX1 (TX1 2).2.1 (TX1 2).2.2.1 ∈ wsX1_addPlace := by decide +kernel
theorem flX1_addTransition_27 : Cond.fieldLink RX1 27 RX1 (TX1 1).2.1 (TX1 1).2.2.1 ∈ wsX1_addTransition := by decide +kernel
theorem flX1_enables_17 : Cond.fieldLink RX1 17 RX1 (TX1 3).2.1 (TX1 3).2.2.1 ∈ wsX1_enables := by decide +kernel
theorem flX1_fire_17 : Cond.fieldLink RX1 17 RX1 (TX1 3).2.1 (TX1 3).2.2.1 ∈ wsX1_fire := by decide +kernel
theorem flX1_fire_20 : Cond.fieldLink RX1 20 RX1 (TX1 4).2.1 (TX1 4).2.2.1 ∈ wsX1_fire := by decide +kernel
theorem flX1_setArc_17 : Cond.fieldLink RX1 17 RX1 (TX1 3).2.1 (TX1 3).2.2.1 ∈ wsX1_setArc := by decide +kernel
theorem flX1_setArc_20 : Cond.fieldLink RX1 20 RX1 (TX1 4).2.1 (TX1 4).2.2.1 ∈ wsX1_setArc := by decide +kernel
set_option maxHeartbeats 4000000 in
set_option maxRecDepth 100000 in
theorem c_addPlace {l : Launch} (hlf : l.stackTraces = false) (D : va_G) (cy : Nat → ClassId) (B : Nat) {μ : St} {t : Int} (ht : InR t) (h0 : 0 ≤ μ 1 0) (h6 : μ 1 0 < 6) : PC l D cy B yX1_addPlace wsX1_addPlace (r0 0) [.ref (B + 1), iN t] μ (fun r μ2 => r = some (iN (μ 1 0)) ∧ μ2 = updS (updS μ 2 (μ 1 0) t) 1 0 (μ 1 0 + 1)) noX := by
  refine PC.pre (fun hR => ?_)
  refine q_start (cc := cX1_addPlace) (maxL := 2) (ret := (some .int)) hlf (by decide +kernel) rfl (by simp [Value.category]) (Nat.le_of_ble_eq_true rfl) ?_
  intro p e s m args below meth c C hret hno
  show PW p l e (r0 0) s m args below meth c D cy B 2 0 0 _ 0 [some (.ref (B + 1)), some (iN t)] [] μ
  refine q_aload_n (pc := 0) C dX1_addPlace_0 rfl rfl ?_
  refine q_getR (pc := 1) (ci := 1) (k := 2) (r := 2) C rfl fiX1_addPlace_X1 (by decide) k1 (by decide) rfl (by decide) flX1_addPlace_9 rfl rfl dX1_addPlace_1 ?_
  refine q_aload_n (pc := 4) C dX1_addPlace_4 rfl rfl ?_
  refine q_getI (pc := 5) (ci := 1) (k := 0) (ki := 0) C rfl rfl fiX1_addPlace_X1 (by decide) k1 (by decide) rfl (by decide) flX1_addPlace_23 rfl rfl dX1_addPlace_5 ?_
  refine q_iload_n (pc := 8) C dX1_addPlace_8 rfl rfl ?_
  refine q_iastore (pc := 9) C k2 n2 (by decide) (by decide) (by omega) (by omega) (by first | exact hR _ _ | exact hRo _ _ | assumption | exact ⟨by omega, by omega⟩) dX1_addPlace_9 ?_
  refine q_aload_n (pc := 10) C dX1_addPlace_10 rfl rfl ?_
  refine q_dup (pc := 11) C rfl dX1_addPlace_11 ?_
  refine q_getI (pc := 12) (ci := 1) (k := 0) (ki := 0) C rfl rfl fiX1_addPlace_X1 (by decide) k1 (by decide) rfl (by decide) flX1_addPlace_23 rfl rfl dX1_addPlace_12 ?_
  simp only [updS_ap, Nat.reduceEqDiff, Int.reduceEq, Int.toNat_natCast, false_and, true_and, and_false, and_true, and_self, if_false, if_true, ↓reduceIte]
  refine q_iconst (pc := 15) C dX1_addPlace_15 ?_
  refine q_iadd (pc := 16) C dX1_addPlace_16 ?_
  refine q_put (pc := 17) (ci := 1) (k := 0) (ki := 0) (ty0 := tyX1) C rfl rfl fiX1_addPlace_X1 (by decide) k1 (by decide) rfl (by decide) flX1_addPlace_23 rfl tyX1_ok nmX1 rfl rfl rfl (by first | exact hR _ _ | exact hRo _ _ | assumption | exact ⟨by omega, by omega⟩) dX1_addPlace_17 ?_
  refine q_aload_n (pc := 20) C dX1_addPlace_20 rfl rfl ?_
  refine q_getI (pc := 21) (ci := 1) (k := 0) (ki := 0) C rfl rfl fiX1_addPlace_X1 (by decide) k1 (by decide) rfl (by decide) flX1_addPlace_23 rfl rfl dX1_addPlace_21 ?_
  refine q_iconst (pc := 24) C dX1_addPlace_24 ?_
  refine q_isub (pc := 25) C dX1_addPlace_25 ?_
  simp only [updS_ap, Nat.reduceEqDiff, Int.reduceEq, Int.toNat_natCast, false_and, true_and, and_false, and_true, and_self, if_false, if_true, ↓reduceIte]
  exact q_iret (pc := 26) C hret ⟨by rw [Int.add_sub_cancel], rfl⟩ (by decide) (by decide) dX1_addPlace_26
set_option maxHeartbeats 4000000 in
set_option maxRecDepth 100000 in
theorem c_addTransition {l : Launch} (hlf : l.stackTraces = false) (D : va_G) (cy : Nat → ClassId) (B : Nat) {μ : St} (h0 : 0 ≤ μ 1 1) (h6 : μ 1 1 < 8) : PC l D cy B yX1_addTransition wsX1_addTransition (r0 0) [.ref (B + 1)] μ (fun r μ2 => r = some (iN (μ 1 1)) ∧ μ2 = updS μ 1 1 (μ 1 1 + 1)) noX := by
  refine PC.pre (fun hR => ?_)
  refine q_start (cc := cX1_addTransition) (maxL := 1) (ret := (some .int)) hlf (by decide +kernel) rfl (by simp [Value.category]) (Nat.le_of_ble_eq_true rfl) ?_
  intro p e s m args below meth c C hret hno
  show PW p l e (r0 0) s m args below meth c D cy B 1 0 0 _ 0 [some (.ref (B + 1))] [] μ
  refine q_aload_n (pc := 0) C dX1_addTransition_0 rfl rfl ?_
  refine q_dup (pc := 1) C rfl dX1_addTransition_1 ?_
  refine q_getI (pc := 2) (ci := 1) (k := 1) (ki := 1) C rfl rfl fiX1_addTransition_X1 (by decide) k1 (by decide) rfl (by decide) flX1_addTransition_27 rfl rfl dX1_addTransition_2 ?_
  refine q_iconst (pc := 5) C dX1_addTransition_5 ?_
  refine q_iadd (pc := 6) C dX1_addTransition_6 ?_
  refine q_put (pc := 7) (ci := 1) (k := 1) (ki := 1) (ty0 := tyX1) C rfl rfl fiX1_addTransition_X1 (by decide) k1 (by decide) rfl (by decide) flX1_addTransition_27 rfl tyX1_ok nmX1 rfl rfl rfl (by first | exact hR _ _ | exact hRo _ _ | assumption | exact ⟨by omega, by omega⟩) dX1_addTransition_7 ?_
  refine q_aload_n (pc := 10) C dX1_addTransition_10 rfl rfl ?_
  refine q_getI (pc := 11) (ci := 1) (k := 1) (ki := 1) C rfl rfl fiX1_addTransition_X1 (by decide) k1 (by decide) rfl (by decide) flX1_addTransition_27 rfl rfl dX1_addTransition_11 ?_
  refine q_iconst (pc := 14) C dX1_addTransition_14 ?_
  refine q_isub (pc := 15) C dX1_addTransition_15 ?_
  simp only [updS_ap, Nat.reduceEqDiff, Int.reduceEq, Int.toNat_natCast, false_and, true_and, and_false, and_true, and_self, if_false, if_true, ↓reduceIte]
  exact q_iret (pc := 16) C hret ⟨by rw [Int.add_sub_cancel], rfl⟩ (by decide) (by decide) dX1_addTransition_16
set_option maxHeartbeats 4000000 in
set_option maxRecDepth 100000 in
theorem c_setArc {l : Launch} (hlf : l.stackTraces = false) (D : va_G) (cy : Nat → ClassId) (B : Nat) {μ : St} {p0 : Int} {t : Nat} {n z : Int} (hp0 : 0 ≤ p0) (hp : p0 < 6) (ht : t < 8) (hn : InR n) (hz : InR z) : PC l D cy B yX1_setArc wsX1_setArc (r0 0) [.ref (B + 1), iN p0, iN t, iN n, iN z] μ (fun r μ2 => r = some (iN (if z = 0 then μ (4 + t) p0 else μ (13 + t) p0)) ∧ μ2 = (if z = 0 then updS μ (4 + t) p0 n else updS μ (13 + t) p0 n)) noX := by
  refine PC.pre (fun hR => ?_)
  refine q_start (cc := cX1_setArc) (maxL := 7) (ret := (some .int)) hlf (by decide +kernel) rfl (by simp [Value.category]) (Nat.le_of_ble_eq_true rfl) ?_
  intro p e s m args below meth c C hret hno
  show PW p l e (r0 0) s m args below meth c D cy B 7 0 0 _ 0 [some (.ref (B + 1)), some (iN p0), some (iN t), some (iN n), some (iN z), none, none] [] μ
  have hz1 := hz.1
  have hz2 := hz.2
  refine q_iload (pc := 0) C dX1_setArc_0 rfl ?_
  refine q_if_eq (pc := 2) (tgt := 14) C (by first | exact hR _ _ | exact hRo _ _ | assumption | exact ⟨by omega, by omega⟩) dX1_setArc_2 (by decide) (fun hc => ?_) (fun hc => ?_)
  · refine q_aload_n (pc := 14) C dX1_setArc_14 rfl rfl ?_
    refine q_getR (pc := 15) (ci := 1) (k := 3) (r := 3) C rfl fiX1_setArc_X1 (by decide) k1 (by decide) rfl (by decide) flX1_setArc_17 rfl rfl dX1_setArc_15 ?_
    refine q_iload_n (pc := 18) C dX1_setArc_18 rfl rfl ?_
    first | refine q_aaloadN (pc := 19) C k3 n3 (by decide) (by decide) (by omega) rfl dX1_setArc_19 ?_ | refine q_aaload (pc := 19) C k3 n3 (by decide) (by decide) (by omega) (by omega) rfl dX1_setArc_19 ?_
    refine q_astore (pc := 20) (lv2 := [_, _, _, _, _, _, _]) C dX1_setArc_20 (by decide) rfl ?_
    refine q_aload (pc := 22) C dX1_setArc_22 rfl ?_
    refine q_iload_n (pc := 24) C dX1_setArc_24 rfl rfl ?_
    refine q_iaload (pc := 25) C (k_r3 (by omega)) (n_r3 (by omega)) (by decide) (l_r3 (by omega)) (by omega) (by omega) dX1_setArc_25 ?_
    refine q_istore (pc := 26) (lv2 := [_, _, _, _, _, _, _]) C dX1_setArc_26 (by decide) rfl ?_
    refine q_aload (pc := 28) C dX1_setArc_28 rfl ?_
    refine q_iload_n (pc := 30) C dX1_setArc_30 rfl rfl ?_
    refine q_iload_n (pc := 31) C dX1_setArc_31 rfl rfl ?_
    refine q_iastore (pc := 32) C (k_r3 (by omega)) (n_r3 (by omega)) (by decide) (l_r3 (by omega)) (by omega) (by omega) (by first | exact hR _ _ | exact hRo _ _ | assumption | exact ⟨by omega, by omega⟩) dX1_setArc_32 ?_
    refine q_iload (pc := 33) C dX1_setArc_33 rfl ?_
    exact q_iret (pc := 35) C hret ⟨by rw [if_pos hc], by rw [if_pos hc]⟩ (by decide) (by decide) dX1_setArc_35
  · refine q_aload_n (pc := 5) C dX1_setArc_5 rfl rfl ?_
    refine q_getR (pc := 6) (ci := 1) (k := 4) (r := 12) C rfl fiX1_setArc_X1 (by decide) k1 (by decide) rfl (by decide) flX1_setArc_20 rfl rfl dX1_setArc_6 ?_
    refine q_iload_n (pc := 9) C dX1_setArc_9 rfl rfl ?_
    first | refine q_aaloadN (pc := 10) C k12 n12 (by decide) (by decide) (by omega) rfl dX1_setArc_10 ?_ | refine q_aaload (pc := 10) C k12 n12 (by decide) (by decide) (by omega) (by omega) rfl dX1_setArc_10 ?_
    refine q_goto (pc := 11) (tgt := 20) C dX1_setArc_11 (by decide) ?_
    refine q_astore (pc := 20) (lv2 := [_, _, _, _, _, _, _]) C dX1_setArc_20 (by decide) rfl ?_
    refine q_aload (pc := 22) C dX1_setArc_22 rfl ?_
    refine q_iload_n (pc := 24) C dX1_setArc_24 rfl rfl ?_
    refine q_iaload (pc := 25) C (k_r12 (by omega)) (n_r12 (by omega)) (by decide) (l_r12 (by omega)) (by omega) (by omega) dX1_setArc_25 ?_
    refine q_istore (pc := 26) (lv2 := [_, _, _, _, _, _, _]) C dX1_setArc_26 (by decide) rfl ?_
    refine q_aload (pc := 28) C dX1_setArc_28 rfl ?_
    refine q_iload_n (pc := 30) C dX1_setArc_30 rfl rfl ?_
    refine q_iload_n (pc := 31) C dX1_setArc_31 rfl rfl ?_
    refine q_iastore (pc := 32) C (k_r12 (by omega)) (n_r12 (by omega)) (by decide) (l_r12 (by omega)) (by omega) (by omega) (by first | exact hR _ _ | exact hRo _ _ | assumption | exact ⟨by omega, by omega⟩) dX1_setArc_32 ?_
    refine q_iload (pc := 33) C dX1_setArc_33 rfl ?_
    exact q_iret (pc := 35) C hret ⟨by rw [if_neg hc], by rw [if_neg hc]⟩ (by decide) (by decide) dX1_setArc_35
set_option maxHeartbeats 4000000 in
set_option maxRecDepth 100000 in
theorem c_enables {l : Launch} (hlf : l.stackTraces = false) (D : va_G) (cy : Nat → ClassId) (B : Nat) {μ : St} {a t : Nat} (ka : kd a = 5) (na : ln a = 6) (la : a < 233) (ht : t < 8) : PC l D cy B yX1_enables wsX1_enables (r0 1) [.ref (B + 1), .ref (B + a), iN t] μ (ret1 (bI (∀ q : Nat, q < 6 → μ (4 + t) q ≤ μ a q)) μ) noX := by
  refine PC.pre (fun hR => ?_)
  refine q_start (cc := cX1_enables) (maxL := 3) (ret := (some .boolean)) hlf (by decide +kernel) rfl (by simp [Value.category]) (Nat.le_of_ble_eq_true rfl) ?_
  intro p e s m args below meth c C hret hno
  show PW p l e (r0 1) s m args below meth c D cy B 3 0 0 _ 0 [some (.ref (B + 1)), some (.ref (B + a)), some (iN t)] [] μ
  refine q_aload_n (pc := 0) C dX1_enables_0 rfl rfl ?_
  refine q_aload_n (pc := 1) C dX1_enables_1 rfl rfl ?_
  refine q_getR (pc := 2) (ci := 1) (k := 3) (r := 3) C rfl fiX1_enables_X1 (by decide) k1 (by decide) rfl (by decide) flX1_enables_17 rfl rfl dX1_enables_2 ?_
  refine q_iload_n (pc := 5) C dX1_enables_5 rfl rfl ?_
  first | refine q_aaloadN (pc := 6) C k3 n3 (by decide) (by decide) (by omega) rfl dX1_enables_6 ?_ | refine q_aaload (pc := 6) C k3 n3 (by decide) (by decide) (by omega) (by omega) rfl dX1_enables_6 ?_
  refine q_callSN (pc := 7) (As := [_, _]) (rest := []) C (c_covers hlf D cy B (a := a) (b := 4 + t) ka na la (k_r3 ht) (n_r3 ht) (l_r3 ht)) ⟨va_cnB (host := "CoverTrees") (index := 30) 2 C.2.2.2.2.1 gX1_enables_X3_covers_n30 rfl rfl rfl (C.2.2.2.2.2.1.2.2.1 (RX1, 30, yX3_covers) (by decide +kernel)) (C.2.2.2.2.1 _ (by decide +kernel)) (by decide +kernel) ⟨Nat.le_of_ble_eq_true rfl, Nat.le_of_ble_eq_true rfl⟩, C.2.2.2.2.1 _ (by decide +kernel), trivial⟩ rfl rfl (by first | decide | simp [Value.category]) dX1_enables_7 (by decide) (fun _ _ h => h.elim) (fun v μ9 hv => ?_)
  have e8 := hv.1
  have e9 := hv.2.symm
  clear hv
  subst e8
  subst e9
  dsimp only [Option.toList, List.cons_append, List.nil_append]
  have hz := bI_01 (∀ q : Nat, q < 6 → μ (4 + t) q ≤ μ a q)
  exact q_zret (pc := 10) C hret (by first | exact Or.inl rfl | exact Or.inr rfl | assumption) ⟨rfl, rfl⟩ (by decide) (by decide) dX1_enables_10
def fireV (μ : St) (a t : Nat) (k : Int) : Int := if μ a k = 1000000 then μ a k else μ a k - μ (4 + t) k + μ (13 + t) k
set_option maxHeartbeats 4000000 in
set_option maxRecDepth 100000 in
theorem c_fire {l : Launch} (hlf : l.stackTraces = false) (D : va_G) (cy : Nat → ClassId) (B : Nat) {μ : St} {a b t : Nat} (ka : kd a = 5) (na : ln a = 6) (la : a < 233) (kb : kd b = 5) (nb : ln b = 6) (lb : b < 233) (ht : t < 8) (hab : a ≠ b) (hb1 : 4 + t ≠ b) (hb2 : 13 + t ≠ b) (hv : ∀ q : Nat, q < 6 → InR (fireV μ a t q)) : PC l D cy B yX1_fire wsX1_fire (r0 0) [.ref (B + 1), .ref (B + a), iN t, .ref (B + b)] μ (ret0 (preS μ b 6 (fireV μ a t))) noX := by
  refine PC.pre (fun hR => ?_)
  refine q_start (cc := cX1_fire) (maxL := 6) (ret := none) hlf (by decide +kernel) rfl (by simp [Value.category]) (Nat.le_of_ble_eq_true rfl) ?_
  intro p e s m args below meth c C hret hno
  show PW p l e (r0 0) s m args below meth c D cy B 6 0 0 _ 0 [some (.ref (B + 1)), some (.ref (B + a)), some (iN t), some (.ref (B + b)), none, none] [] μ
  have hRo := hR
  have L : ∀ i : Nat, i ≤ 6 → PW p l e (r0 0) s m args below meth c D cy B 6 0 0 (vx_MQ below (Qp D cy B (ret0 (preS μ b 6 (fireV μ a t)))) (Xp D cy B noX) args s (r0 0).cells (r0 0).slots (fun q => B ≤ q)) 3 [some (.ref (B + 1)), some (.ref (B + a)), some (iN t), some (.ref (B + b)), some (iN i), none] [] (preS μ b i (fireV μ a t)) := by
    refine up_to 6 _ (fun i hi ih => ?_)
    refine q_rng (fun hR => ?_)
    refine q_iload (pc := 3) C dX1_fire_3 rfl ?_
    refine q_bipush (pc := 5) C (by decide +kernel) dX1_fire_5 ?_
    refine q_icmp_ge (pc := 7) (tgt := 60) C (by first | exact hR _ _ | exact hRo _ _ | assumption | exact ⟨by omega, by omega⟩) (by first | exact hR _ _ | exact hRo _ _ | assumption | exact ⟨by omega, by omega⟩) dX1_fire_7 (by decide) (fun hc => ?_) (fun hc => ?_)
    · have e : i = 6 := by omega
      subst e
      exact q_vret (pc := 60) C hret ⟨rfl, rfl⟩ (by decide) (by decide) dX1_fire_60
    · have hvi := hv i (by omega)
      unfold fireV at hvi
      refine q_aload_n (pc := 10) C dX1_fire_10 rfl rfl ?_
      refine q_iload (pc := 11) C dX1_fire_11 rfl ?_
      refine q_iaload (pc := 13) C ka na (by decide) la (by omega) (by omega) dX1_fire_13 ?_
      simp only [updS_ap, Nat.reduceEqDiff, Int.reduceEq, Int.toNat_natCast, false_and, true_and, and_false, and_true, and_self, if_false, if_true, ↓reduceIte, preS_ne μ i (fireV μ a t) _ hab]
      refine q_istore (pc := 14) (lv2 := [_, _, _, _, _, _]) C dX1_fire_14 (by decide) rfl ?_
      refine q_aload_n (pc := 16) C dX1_fire_16 rfl rfl ?_
      refine q_iload (pc := 17) C dX1_fire_17 rfl ?_
      refine q_iload (pc := 19) C dX1_fire_19 rfl ?_
      refine q_ldc (pc := 21) (n := 1000000) (x := (1000000 : Int32)) C (by decide +kernel) (by decide +kernel) dX1_fire_21 ?_
      refine q_icmp_ne (pc := 23) (tgt := 31) C (by first | exact hR _ _ | exact hRo _ _ | assumption | exact ⟨by omega, by omega⟩) (by first | exact hR _ _ | exact hRo _ _ | assumption | exact ⟨by omega, by omega⟩) dX1_fire_23 (by decide) (fun hd => ?_) (fun hd => ?_)
      · refine q_iload (pc := 31) C dX1_fire_31 rfl ?_
        refine q_aload_n (pc := 33) C dX1_fire_33 rfl rfl ?_
        refine q_getR (pc := 34) (ci := 1) (k := 3) (r := 3) C rfl fiX1_fire_X1 (by decide) k1 (by decide) rfl (by decide) flX1_fire_17 rfl rfl dX1_fire_34 ?_
        refine q_iload_n (pc := 37) C dX1_fire_37 rfl rfl ?_
        first | refine q_aaloadN (pc := 38) C k3 n3 (by decide) (by decide) (by omega) rfl dX1_fire_38 ?_ | refine q_aaload (pc := 38) C k3 n3 (by decide) (by decide) (by omega) (by omega) rfl dX1_fire_38 ?_
        refine q_iload (pc := 39) C dX1_fire_39 rfl ?_
        refine q_iaload (pc := 41) C (k_r3 (by omega)) (n_r3 (by omega)) (by decide) (l_r3 (by omega)) (by omega) (by omega) dX1_fire_41 ?_
        refine q_isub (pc := 42) C dX1_fire_42 ?_
        simp only [updS_ap, Nat.reduceEqDiff, Int.reduceEq, Int.toNat_natCast, false_and, true_and, and_false, and_true, and_self, if_false, if_true, ↓reduceIte, preS_ne μ i (fireV μ a t) _ hb1]
        refine q_aload_n (pc := 43) C dX1_fire_43 rfl rfl ?_
        refine q_getR (pc := 44) (ci := 1) (k := 4) (r := 12) C rfl fiX1_fire_X1 (by decide) k1 (by decide) rfl (by decide) flX1_fire_20 rfl rfl dX1_fire_44 ?_
        refine q_iload_n (pc := 47) C dX1_fire_47 rfl rfl ?_
        first | refine q_aaloadN (pc := 48) C k12 n12 (by decide) (by decide) (by omega) rfl dX1_fire_48 ?_ | refine q_aaload (pc := 48) C k12 n12 (by decide) (by decide) (by omega) (by omega) rfl dX1_fire_48 ?_
        refine q_iload (pc := 49) C dX1_fire_49 rfl ?_
        refine q_iaload (pc := 51) C (k_r12 (by omega)) (n_r12 (by omega)) (by decide) (l_r12 (by omega)) (by omega) (by omega) dX1_fire_51 ?_
        simp only [updS_ap, Nat.reduceEqDiff, Int.reduceEq, Int.toNat_natCast, false_and, true_and, and_false, and_true, and_self, if_false, if_true, ↓reduceIte, preS_ne μ i (fireV μ a t) _ hb2]
        refine q_iadd (pc := 52) C dX1_fire_52 ?_
        rw [if_neg hd] at hvi
        refine q_iastore (pc := 53) C kb nb (by decide) lb (by omega) (by omega) (by first | exact hR _ _ | exact hRo _ _ | assumption | exact ⟨by omega, by omega⟩) dX1_fire_53 ?_
        refine q_mu (preS_step μ b i (fireV μ a t) (by unfold fireV; rw [if_neg hd])) ?_
        refine q_drop 5 (lv2 := [_, _, _, _, _, none]) rfl ?_
        refine q_iinc (pc := 54) (lv2 := [_, _, _, _, _, _]) C dX1_fire_54 (by decide) rfl rfl ?_
        refine q_goto (pc := 57) (tgt := 3) C dX1_fire_57 (by decide) ?_
        exact ih (by omega)
      · refine q_iload (pc := 26) C dX1_fire_26 rfl ?_
        refine q_goto (pc := 28) (tgt := 53) C dX1_fire_28 (by decide) ?_
        rw [if_pos hd] at hvi
        refine q_iastore (pc := 53) C kb nb (by decide) lb (by omega) (by omega) (by first | exact hR _ _ | exact hRo _ _ | assumption | exact ⟨by omega, by omega⟩) dX1_fire_53 ?_
        refine q_mu (preS_step μ b i (fireV μ a t) (by unfold fireV; rw [if_pos hd])) ?_
        refine q_drop 5 (lv2 := [_, _, _, _, _, none]) rfl ?_
        refine q_iinc (pc := 54) (lv2 := [_, _, _, _, _, _]) C dX1_fire_54 (by decide) rfl rfl ?_
        refine q_goto (pc := 57) (tgt := 3) C dX1_fire_57 (by decide) ?_
        exact ih (by omega)
  refine q_iconst (pc := 0) C dX1_fire_0 ?_
  refine q_istore (pc := 1) (lv2 := [_, _, _, _, _, _]) C dX1_fire_1 (by decide) rfl ?_
  refine q_mu (preS_0 μ b (fireV μ a t)).symm ?_
  exact L 0 (by omega)
end
section
theorem fiX2_hasEndless_X2 : ∀ w ∈ u_ws RX2 TX2 9, w ∈ wsX2_hasEndless := by decide +kernel
theorem fiX2_isAmongEarlier_X2 : ∀ w ∈ u_ws RX2 TX2 9, w ∈ wsX2_isAmongEarlier := by decide +kernel
theorem fiX2_noteFirstEndless_X2 : ∀ w ∈ u_ws RX2 TX2 9, w ∈ wsX2_noteFirstEndless := by decide +kernel
theorem flX2_hasEndless_61 : Cond.fieldLink RX2 61 RX2 (TX2 2).2.1 (TX2 2).2.2.1 ∈ wsX2_hasEndless := by decide +kernel
theorem flX2_isAmongEarlier_11 : Cond.fieldLink RX2 11 RX2 (TX2 4).2.1 (TX2 4).2.2.1 ∈ wsX2_isAmongEarlier := by decide +kernel
theorem flX2_noteFirstEndless_61 : Cond.fieldLink RX2 61 RX2 (TX2 2).2.1 (TX2 2).2.2.1 ∈ wsX2_noteFirstEndless := by decide +kernel
theorem flX2_noteFirstEndless_91 : Cond.fieldLink RX2 91 RX2 (TX2 3).2.1 (TX2 3).2.2.1 ∈ wsX2_noteFirstEndless := by decide +kernel
def moreV (μ : St) (a b : Nat) (k : Int) : Int := if μ b k < μ a k then 1000000 else μ a k
set_option maxHeartbeats 4000000 in
set_option maxRecDepth 100000 in
theorem c_more {l : Launch} (hlf : l.stackTraces = false) (D : va_G) (cy : Nat → ClassId) (B : Nat) {μ : St} {a b : Nat} (ka : kd a = 5) (na : ln a = 6) (la : a < 233) (kb : kd b = 5) (nb : ln b = 6) (lb : b < 233) (hab : b ≠ a) : PC l D cy B yX2_makeEndlessWhereMore wsX2_makeEndlessWhereMore (r0 0) [.ref (B + 22), .ref (B + a), .ref (B + b)] μ (ret0 (preS μ a 6 (moreV μ a b))) noX := by
  refine PC.pre (fun hR => ?_)
  refine q_start (cc := cX2_makeEndlessWhereMore) (maxL := 4) (ret := none) hlf (by decide +kernel) rfl (by simp [Value.category]) (Nat.le_of_ble_eq_true rfl) ?_
  intro p e s m args below meth c C hret hno
  show PW p l e (r0 0) s m args below meth c D cy B 4 0 0 _ 0 [some (.ref (B + 22)), some (.ref (B + a)), some (.ref (B + b)), none] [] μ
  have hRo := hR
  have L : ∀ i : Nat, i ≤ 6 → PW p l e (r0 0) s m args below meth c D cy B 4 0 0 (vx_MQ below (Qp D cy B (ret0 (preS μ a 6 (moreV μ a b)))) (Xp D cy B noX) args s (r0 0).cells (r0 0).slots (fun q => B ≤ q)) 2 [some (.ref (B + 22)), some (.ref (B + a)), some (.ref (B + b)), some (iN i)] [] (preS μ a i (moreV μ a b)) := by
    refine up_to 6 _ (fun i hi ih => ?_)
    refine q_rng (fun hR => ?_)
    refine q_iload_n (pc := 2) C dX2_makeEndlessWhereMore_2 rfl rfl ?_
    refine q_bipush (pc := 3) C (by decide +kernel) dX2_makeEndlessWhereMore_3 ?_
    refine q_icmp_ge (pc := 5) (tgt := 28) C (by first | exact hR _ _ | exact hRo _ _ | assumption | exact ⟨by omega, by omega⟩) (by first | exact hR _ _ | exact hRo _ _ | assumption | exact ⟨by omega, by omega⟩) dX2_makeEndlessWhereMore_5 (by decide) (fun hc => ?_) (fun hc => ?_)
    · have e : i = 6 := by omega
      subst e
      exact q_vret (pc := 28) C hret ⟨rfl, rfl⟩ (by decide) (by decide) dX2_makeEndlessWhereMore_28
    · refine q_aload_n (pc := 8) C dX2_makeEndlessWhereMore_8 rfl rfl ?_
      refine q_iload_n (pc := 9) C dX2_makeEndlessWhereMore_9 rfl rfl ?_
      refine q_iaload (pc := 10) C ka na (by decide) la (by omega) (by omega) dX2_makeEndlessWhereMore_10 ?_
      rw [preS_out μ a i _ a _ (Int.le_refl _)]
      refine q_aload_n (pc := 11) C dX2_makeEndlessWhereMore_11 rfl rfl ?_
      refine q_iload_n (pc := 12) C dX2_makeEndlessWhereMore_12 rfl rfl ?_
      refine q_iaload (pc := 13) C kb nb (by decide) lb (by omega) (by omega) dX2_makeEndlessWhereMore_13 ?_
      rw [preS_ne μ i _ _ hab]
      refine q_icmp_le (pc := 14) (tgt := 22) C (by first | exact hR _ _ | exact hRo _ _ | assumption | exact ⟨by omega, by omega⟩) (by first | exact hR _ _ | exact hRo _ _ | assumption | exact ⟨by omega, by omega⟩) dX2_makeEndlessWhereMore_14 (by decide) (fun hd => ?_) (fun hd => ?_)
      · refine q_mu (preS_skip μ a i (moreV μ a b) (by unfold moreV; rw [if_neg (by omega)])) ?_
        refine q_iinc (pc := 22) (lv2 := [_, _, _, _]) C dX2_makeEndlessWhereMore_22 (by decide) rfl rfl ?_
        refine q_goto (pc := 25) (tgt := 2) C dX2_makeEndlessWhereMore_25 (by decide) ?_
        exact ih (by omega)
      · refine q_aload_n (pc := 17) C dX2_makeEndlessWhereMore_17 rfl rfl ?_
        refine q_iload_n (pc := 18) C dX2_makeEndlessWhereMore_18 rfl rfl ?_
        refine q_ldc (pc := 19) (n := 1000000) (x := (1000000 : Int32)) C (by decide +kernel) (by decide +kernel) dX2_makeEndlessWhereMore_19 ?_
        refine q_iastore (pc := 21) C ka na (by decide) la (by omega) (by omega) (by first | exact hR _ _ | exact hRo _ _ | assumption | exact ⟨by omega, by omega⟩) dX2_makeEndlessWhereMore_21 ?_
        refine q_mu (preS_step μ a i (moreV μ a b) (by unfold moreV; rw [if_pos (by omega)])) ?_
        refine q_iinc (pc := 22) (lv2 := [_, _, _, _]) C dX2_makeEndlessWhereMore_22 (by decide) rfl rfl ?_
        refine q_goto (pc := 25) (tgt := 2) C dX2_makeEndlessWhereMore_25 (by decide) ?_
        exact ih (by omega)
  refine q_iconst (pc := 0) C dX2_makeEndlessWhereMore_0 ?_
  refine q_istore_n (pc := 1) (lv2 := [_, _, _, _]) C dX2_makeEndlessWhereMore_1 rfl (by decide) rfl ?_
  refine q_mu (preS_0 μ a (moreV μ a b)).symm ?_
  exact L 0 (by omega)
def noteS (μ : St) (n d : Int) : St := if μ 22 2 = -2 then updS (updS μ 22 2 n) 22 3 d else μ
set_option maxHeartbeats 4000000 in
set_option maxRecDepth 100000 in
theorem c_note {l : Launch} (hlf : l.stackTraces = false) (D : va_G) (cy : Nat → ClassId) (B : Nat) {μ : St} {n d : Int} (hn : InR n) (hd : InR d) : PC l D cy B yX2_noteFirstEndless wsX2_noteFirstEndless (r0 0) [.ref (B + 22), iN n, iN d] μ (ret0 (noteS μ n d)) noX := by
  refine PC.pre (fun hR => ?_)
  refine q_start (cc := cX2_noteFirstEndless) (maxL := 3) (ret := none) hlf (by decide +kernel) rfl (by simp [Value.category]) (Nat.le_of_ble_eq_true rfl) ?_
  intro p e s m args below meth c C hret hno
  show PW p l e (r0 0) s m args below meth c D cy B 3 0 0 _ 0 [some (.ref (B + 22)), some (iN n), some (iN d)] [] μ
  refine q_aload_n (pc := 0) C dX2_noteFirstEndless_0 rfl rfl ?_
  refine q_getI (pc := 1) (ci := 2) (k := 2) (ki := 2) C rfl rfl fiX2_noteFirstEndless_X2 (by decide) k22 (by decide) rfl (by decide) flX2_noteFirstEndless_61 rfl rfl dX2_noteFirstEndless_1 ?_
  refine q_bipush (pc := 4) C (by decide +kernel) dX2_noteFirstEndless_4 ?_
  refine q_icmp_ne (pc := 6) (tgt := 19) C (by first | exact hR _ _ | exact hRo _ _ | assumption | exact ⟨by omega, by omega⟩) (by first | exact hR _ _ | exact hRo _ _ | assumption | exact ⟨by omega, by omega⟩) dX2_noteFirstEndless_6 (by decide) (fun hc => ?_) (fun hc => ?_)
  · exact q_vret (pc := 19) C hret ⟨rfl, by unfold noteS; rw [if_neg hc]⟩ (by decide) (by decide) dX2_noteFirstEndless_19
  · refine q_aload_n (pc := 9) C dX2_noteFirstEndless_9 rfl rfl ?_
    refine q_iload_n (pc := 10) C dX2_noteFirstEndless_10 rfl rfl ?_
    refine q_put (pc := 11) (ci := 2) (k := 2) (ki := 2) (ty0 := tyX2) C rfl rfl fiX2_noteFirstEndless_X2 (by decide) k22 (by decide) rfl (by decide) flX2_noteFirstEndless_61 rfl tyX2_ok nmX2 rfl rfl rfl (by first | exact hR _ _ | exact hRo _ _ | assumption | exact ⟨by omega, by omega⟩) dX2_noteFirstEndless_11 ?_
    refine q_aload_n (pc := 14) C dX2_noteFirstEndless_14 rfl rfl ?_
    refine q_iload_n (pc := 15) C dX2_noteFirstEndless_15 rfl rfl ?_
    refine q_put (pc := 16) (ci := 2) (k := 3) (ki := 3) (ty0 := tyX2) C rfl rfl fiX2_noteFirstEndless_X2 (by decide) k22 (by decide) rfl (by decide) flX2_noteFirstEndless_91 rfl tyX2_ok nmX2 rfl rfl rfl (by first | exact hR _ _ | exact hRo _ _ | assumption | exact ⟨by omega, by omega⟩) dX2_noteFirstEndless_16 ?_
    exact q_vret (pc := 19) C hret ⟨rfl, by unfold noteS; rw [if_pos hc]⟩ (by decide) (by decide) dX2_noteFirstEndless_19
def amoP (μ : St) (n : Nat) : Prop := ∃ i : Nat, i < n ∧ ∀ q : Nat, q < 6 → μ (24 + i) q = μ (24 + n) q
def amo (μ : St) (n : Nat) : Int := bI (∃ i : Nat, i < n ∧ ∀ q : Nat, q < 6 → μ (24 + i) q = μ (24 + n) q)
theorem amo_01 (μ : St) (n : Nat) : amo μ n = 0 ∨ amo μ n = 1 := bI_01 _
set_option maxHeartbeats 4000000 in
set_option maxRecDepth 100000 in
theorem c_among {l : Launch} (hlf : l.stackTraces = false) (D : va_G) (cy : Nat → ClassId) (B : Nat) {μ : St} {n : Nat} (hn : n < 100) : PC l D cy B yX2_isAmongEarlier wsX2_isAmongEarlier (r0 1) [.ref (B + 22), iN n] μ (ret1 (amo μ n) μ) noX := by
  refine PC.pre (fun hR => ?_)
  refine q_start (cc := cX2_isAmongEarlier) (maxL := 3) (ret := (some .boolean)) hlf (by decide +kernel) rfl (by simp [Value.category]) (Nat.le_of_ble_eq_true rfl) ?_
  intro p e s m args below meth c C hret hno
  show PW p l e (r0 1) s m args below meth c D cy B 3 0 0 _ 0 [some (.ref (B + 22)), some (iN n), none] [] μ
  have L : ∀ i : Nat, i ≤ n → (∀ j : Nat, j < i → ¬ ∀ q : Nat, q < 6 → μ (24 + j) q = μ (24 + n) q) → PW p l e (r0 1) s m args below meth c D cy B 3 0 0 (vx_MQ below (Qp D cy B (ret1 (amo μ n) μ)) (Xp D cy B noX) args s (r0 1).cells (r0 1).slots (fun q => B ≤ q)) 2 [some (.ref (B + 22)), some (iN n), some (iN i)] [] μ := by
    refine up_to n _ (fun i hi ih hI => ?_)
    refine q_iload_n (pc := 2) C dX2_isAmongEarlier_2 rfl rfl ?_
    refine q_iload_n (pc := 3) C dX2_isAmongEarlier_3 rfl rfl ?_
    refine q_icmp_ge (pc := 4) (tgt := 33) C (by first | exact hR _ _ | exact hRo _ _ | assumption | exact ⟨by omega, by omega⟩) (by first | exact hR _ _ | exact hRo _ _ | assumption | exact ⟨by omega, by omega⟩) dX2_isAmongEarlier_4 (by decide) (fun hc => ?_) (fun hc => ?_)
    · refine q_iconst (pc := 33) C dX2_isAmongEarlier_33 ?_
      exact q_zret (pc := 34) C hret (by first | exact Or.inl rfl | exact Or.inr rfl | assumption) ⟨by unfold amo; rw [bI_f (fun z => by obtain ⟨j, hj, z⟩ := z; exact hI j (by omega) z)], rfl⟩ (by decide) (by decide) dX2_isAmongEarlier_34
    · refine q_aload_n (pc := 7) C dX2_isAmongEarlier_7 rfl rfl ?_
      refine q_getR (pc := 8) (ci := 2) (k := 4) (r := 23) C rfl fiX2_isAmongEarlier_X2 (by decide) k22 (by decide) rfl (by decide) flX2_isAmongEarlier_11 rfl rfl dX2_isAmongEarlier_8 ?_
      refine q_iload_n (pc := 11) C dX2_isAmongEarlier_11 rfl rfl ?_
      first | refine q_aaloadN (pc := 12) C k23 n23 (by decide) (by decide) (by omega) rfl dX2_isAmongEarlier_12 ?_ | refine q_aaload (pc := 12) C k23 n23 (by decide) (by decide) (by omega) (by omega) rfl dX2_isAmongEarlier_12 ?_
      refine q_aload_n (pc := 13) C dX2_isAmongEarlier_13 rfl rfl ?_
      refine q_getR (pc := 14) (ci := 2) (k := 4) (r := 23) C rfl fiX2_isAmongEarlier_X2 (by decide) k22 (by decide) rfl (by decide) flX2_isAmongEarlier_11 rfl rfl dX2_isAmongEarlier_14 ?_
      refine q_iload_n (pc := 17) C dX2_isAmongEarlier_17 rfl rfl ?_
      first | refine q_aaloadN (pc := 18) C k23 n23 (by decide) (by decide) (by omega) rfl dX2_isAmongEarlier_18 ?_ | refine q_aaload (pc := 18) C k23 n23 (by decide) (by decide) (by omega) (by omega) rfl dX2_isAmongEarlier_18 ?_
      refine q_callSN (pc := 19) (As := [_, _]) (rest := []) C (c_same hlf D cy B (a := 24 + i) (b := 24 + n) (k_r23 (by omega)) (n_r23 (by omega)) (l_r23 (by omega)) (k_r23 (by omega)) (n_r23 (by omega)) (l_r23 (by omega))) ⟨va_cnB (host := "CoverTrees") (index := 80) 2 C.2.2.2.2.1 gX2_isAmongEarlier_X3_same_n80 rfl rfl rfl (C.2.2.2.2.2.1.2.2.1 (RX2, 80, yX3_same) (by decide +kernel)) (C.2.2.2.2.1 _ (by decide +kernel)) (by decide +kernel) ⟨Nat.le_of_ble_eq_true rfl, Nat.le_of_ble_eq_true rfl⟩, C.2.2.2.2.1 _ (by decide +kernel), trivial⟩ rfl rfl (by first | decide | simp [Value.category]) dX2_isAmongEarlier_19 (by decide) (fun _ _ h => h.elim) (fun v μ9 hv => ?_)
      have e8 := hv.1
      have e9 := hv.2.symm
      clear hv
      subst e8
      subst e9
      dsimp only [Option.toList, List.cons_append, List.nil_append]
      have hz := bI_01 (∀ q : Nat, q < 6 → μ (24 + i) q = μ (24 + n) q)
      refine q_if_eq (pc := 22) (tgt := 27) C (by first | exact hR _ _ | exact hRo _ _ | assumption | exact ⟨by omega, by omega⟩) dX2_isAmongEarlier_22 (by decide) (fun hd => ?_) (fun hd => ?_)
      · refine q_iinc (pc := 27) (lv2 := [_, _, _]) C dX2_isAmongEarlier_27 (by decide) rfl rfl ?_
        refine q_goto (pc := 30) (tgt := 2) C dX2_isAmongEarlier_30 (by decide) ?_
        refine ih (by omega) (fun j hj => ?_)
        by_cases e : j = i
        · rw [e]; exact bI_0.mp hd
        · exact hI j (by omega)
      · refine q_iconst (pc := 25) C dX2_isAmongEarlier_25 ?_
        exact q_zret (pc := 26) C hret (by first | exact Or.inl rfl | exact Or.inr rfl | assumption) ⟨by unfold amo; rw [bI_t ⟨i, by omega, bI_1.mp (by omega)⟩], rfl⟩ (by decide) (by decide) dX2_isAmongEarlier_26
  refine q_iconst (pc := 0) C dX2_isAmongEarlier_0 ?_
  refine q_istore_n (pc := 1) (lv2 := [_, _, _]) C dX2_isAmongEarlier_1 rfl (by decide) rfl ?_
  exact L 0 (by omega) (fun j hj => absurd hj (by omega))
set_option maxHeartbeats 4000000 in
set_option maxRecDepth 100000 in
theorem c_hasEndless {l : Launch} (hlf : l.stackTraces = false) (D : va_G) (cy : Nat → ClassId) (B : Nat) {μ : St}  : PC l D cy B yX2_hasEndless wsX2_hasEndless (r0 0) [.ref (B + 22)] μ (ret1 (bI (¬ μ 22 2 = -2)) μ) noX := by
  refine PC.pre (fun hR => ?_)
  refine q_start (cc := cX2_hasEndless) (maxL := 1) (ret := (some .boolean)) hlf (by decide +kernel) rfl (by simp [Value.category]) (Nat.le_of_ble_eq_true rfl) ?_
  intro p e s m args below meth c C hret hno
  show PW p l e (r0 0) s m args below meth c D cy B 1 0 0 _ 0 [some (.ref (B + 22))] [] μ
  refine q_aload_n (pc := 0) C dX2_hasEndless_0 rfl rfl ?_
  refine q_getI (pc := 1) (ci := 2) (k := 2) (ki := 2) C rfl rfl fiX2_hasEndless_X2 (by decide) k22 (by decide) rfl (by decide) flX2_hasEndless_61 rfl rfl dX2_hasEndless_1 ?_
  refine q_bipush (pc := 4) C (by decide +kernel) dX2_hasEndless_4 ?_
  refine q_icmp_eq (pc := 6) (tgt := 13) C (by first | exact hR _ _ | exact hRo _ _ | assumption | exact ⟨by omega, by omega⟩) (by first | exact hR _ _ | exact hRo _ _ | assumption | exact ⟨by omega, by omega⟩) dX2_hasEndless_6 (by decide) (fun hc => ?_) (fun hc => ?_)
  · refine q_iconst (pc := 13) C dX2_hasEndless_13 ?_
    exact q_zret (pc := 14) C hret (by first | exact Or.inl rfl | exact Or.inr rfl | assumption) ⟨by rw [bI_f (fun z => z hc)], rfl⟩ (by decide) (by decide) dX2_hasEndless_14
  · refine q_iconst (pc := 9) C dX2_hasEndless_9 ?_
    refine q_goto (pc := 10) (tgt := 14) C dX2_hasEndless_10 (by decide) ?_
    exact q_zret (pc := 14) C hret (by first | exact Or.inl rfl | exact Or.inr rfl | assumption) ⟨by rw [bI_t hc], rfl⟩ (by decide) (by decide) dX2_hasEndless_14
end
section
theorem fiX2_makeEndlessWhatRepeats_X2 : ∀ w ∈ u_ws RX2 TX2 9, w ∈ wsX2_makeEndlessWhatRepeats := by decide +kernel
theorem flX2_makeEndlessWhatRepeats_11 : Cond.fieldLink RX2 11 RX2 (TX2 4).2.1 (TX2 4).2.2.1 ∈ wsX2_makeEndlessWhatRepeats := by decide +kernel
theorem flX2_makeEndlessWhatRepeats_16 : Cond.fieldLink RX2 16 RX2 (TX2 5).2.1 (TX2 5).2.2.1 ∈ wsX2_makeEndlessWhatRepeats := by decide +kernel
theorem flX2_makeEndlessWhatRepeats_23 : Cond.fieldLink RX2 23 RX2 (TX2 7).2.1 (TX2 7).2.2.1 ∈ wsX2_makeEndlessWhatRepeats := by decide +kernel
abbrev hitP (μ : St) (n a : Nat) : Prop := (∀ q : Nat, q < 6 → μ (24 + a) q ≤ μ (24 + n) q) ∧ ¬ (∀ q : Nat, q < 6 → μ (24 + n) q = μ (24 + a) q)
def hitS (μ : St) (n a : Nat) (d : Int) : St := if hitP μ n a then noteS (preS μ (24 + n) 6 (moreV μ (24 + n) (24 + a))) n d else μ
def repS : Nat → St → Nat → Nat → St
  | 0, μ, n, a => hitS μ n a 0
  | d + 1, μ, n, a => repS d (hitS μ n a ((d + 1 : Nat) : Int)) n (μ 124 a).toNat
theorem repS_succ (d : Nat) (μ : St) (n a : Nat) : repS (d + 1) μ n a = repS d (hitS μ n a ((d + 1 : Nat) : Int)) n (μ 124 a).toNat := rfl
theorem noteS_ne (μ : St) (n d : Int) {x : Nat} (h : x ≠ 22) (k : Int) : noteS μ n d x k = μ x k := by
  unfold noteS
  split
  · rw [updS_ne _ _ _ _ h, updS_ne _ _ _ _ h]
  · rfl
theorem hitS_ne (μ : St) (n a : Nat) (d : Int) {x : Nat} (h : x ≠ 22) (h2 : x ≠ 24 + n) (k : Int) : hitS μ n a d x k = μ x k := by
  unfold hitS
  split
  · rw [noteS_ne _ _ _ h, preS_ne _ _ _ _ h2]
  · rfl
theorem repS_ne : ∀ (d : Nat) (μ : St) (n a : Nat) {x : Nat} (h : x ≠ 22) (h2 : x ≠ 24 + n) (k : Int), repS d μ n a x k = μ x k
  | 0, μ, n, a, x, h, h2, k => hitS_ne μ n a 0 h h2 k
  | d + 1, μ, n, a, x, h, h2, k => by
    unfold repS
    rw [repS_ne d _ _ _ h h2, hitS_ne _ _ _ _ h h2]
/- the nodes below n are a tree, with their depths -/
def chP (μ : St) (n : Nat) : Prop := ∀ i : Nat, i < n → (i = 0 ∧ μ 126 i = 0) ∨ ∃ j e : Nat, j < i ∧ μ 124 i = j ∧ μ 126 j = e ∧ μ 126 i = ((e + 1 : Nat) : Int)
theorem chP_le {μ : St} {n : Nat} (h : chP μ n) : ∀ i : Nat, i < n → ∃ e : Nat, μ 126 i = e ∧ e ≤ i := by
  intro i
  induction i using Nat.strongRecOn with
  | ind i ih =>
    intro hi
    rcases h i hi with ⟨e1, e2⟩ | ⟨j, e, hj, -, h3, h4⟩
    · exact ⟨0, by rw [e2]; rfl, Nat.zero_le _⟩
    · obtain ⟨e2, h5, h6⟩ := ih j hj (by omega)
      exact ⟨e + 1, h4, by rw [h3] at h5; omega⟩
set_option maxHeartbeats 4000000 in
set_option maxRecDepth 100000 in
theorem c_rep {l : Launch} (hlf : l.stackTraces = false) (D : va_G) (cy : Nat → ClassId) (B : Nat) {μ : St} {n a0 d0 : Nat} (hn : n < 100) (ha0 : a0 < n) (hp : μ 124 n = a0) (hdn : μ 126 n = ((d0 + 1 : Nat) : Int)) (hd0 : μ 126 a0 = d0) (hch : chP μ n) : PC l D cy B yX2_makeEndlessWhatRepeats wsX2_makeEndlessWhatRepeats (r0 1) [.ref (B + 22), iN n] μ (ret0 (repS d0 μ n a0)) noX := by
  refine PC.pre (fun hR => ?_)
  refine q_start (cc := cX2_makeEndlessWhatRepeats) (maxL := 6) (ret := none) hlf (by decide +kernel) rfl (by simp [Value.category]) (Nat.le_of_ble_eq_true rfl) ?_
  intro p e s m args below meth c C hret hno
  show PW p l e (r0 1) s m args below meth c D cy B 6 0 0 _ 0 [some (.ref (B + 22)), some (iN n), none, none, none, none] [] μ
  have L : ∀ (d a : Nat) (σ : St), a < n → σ 126 a = d → (∀ x k, x ≠ 22 → x ≠ 24 + n → σ x k = μ x k) → repS d σ n a = repS d0 μ n a0 → PW p l e (r0 1) s m args below meth c D cy B 6 0 0 (vx_MQ below (Qp D cy B (ret0 (repS d0 μ n a0))) (Xp D cy B noX) args s (r0 1).cells (r0 1).slots (fun q => B ≤ q)) 24 [some (.ref (B + 22)), some (iN n), some (.ref (B + (24 + n))), some (iN a), some (iN d), none] [] σ := by
    intro d
    induction d with
    | zero =>
      intro a σ ha hda hσ hfin
      have T : ∀ σ2 : St, σ2 = hitS σ n a 0 → PW p l e (r0 1) s m args below meth c D cy B 6 0 0 (vx_MQ below (Qp D cy B (ret0 (repS d0 μ n a0))) (Xp D cy B noX) args s (r0 1).cells (r0 1).slots (fun q => B ≤ q)) 69 [some (.ref (B + 22)), some (iN n), some (.ref (B + (24 + n))), some (iN a), some (iN 0), none] [] σ2 := by
        intro σ2 e2
        refine q_aload_n (pc := 69) C dX2_makeEndlessWhatRepeats_69 rfl rfl ?_
        refine q_getR (pc := 70) (ci := 2) (k := 5) (r := 124) C rfl fiX2_makeEndlessWhatRepeats_X2 (by decide) k22 (by decide) rfl (by decide) flX2_makeEndlessWhatRepeats_16 rfl rfl dX2_makeEndlessWhatRepeats_70 ?_
        refine q_iload_n (pc := 73) C dX2_makeEndlessWhatRepeats_73 rfl rfl ?_
        refine q_iaload (pc := 74) C k124 n124 (by decide) (by decide) (by omega) (by omega) dX2_makeEndlessWhatRepeats_74 ?_
        refine q_istore_n (pc := 75) (lv2 := [_, _, _, _, _, _]) C dX2_makeEndlessWhatRepeats_75 rfl (by decide) rfl ?_
        refine q_iinc (pc := 76) (lv2 := [_, _, _, _, _, _]) C dX2_makeEndlessWhatRepeats_76 (by decide) rfl rfl ?_
        refine q_goto (pc := 79) (tgt := 24) C dX2_makeEndlessWhatRepeats_79 (by decide) ?_
        refine q_iload (pc := 24) C dX2_makeEndlessWhatRepeats_24 rfl ?_
        refine q_if_lt (pc := 26) (tgt := 82) C (by first | exact hR _ _ | exact hRo _ _ | assumption | exact ⟨by omega, by omega⟩) dX2_makeEndlessWhatRepeats_26 (by decide) (fun hq => ?_) (fun hq => ?_)
        · exact q_vret (pc := 82) C hret ⟨rfl, by rw [e2]; exact hfin⟩ (by decide) (by decide) dX2_makeEndlessWhatRepeats_82
        · exact absurd (show (0 : Int) + -1 < 0 by decide) hq
      have hdI : ((0 : Nat) : Int) = 0 := rfl
      refine q_iload (pc := 24) C dX2_makeEndlessWhatRepeats_24 rfl ?_
      refine q_if_lt (pc := 26) (tgt := 82) C (by first | exact hR _ _ | exact hRo _ _ | assumption | exact ⟨by omega, by omega⟩) dX2_makeEndlessWhatRepeats_26 (by decide) (fun hq => ?_) (fun hq => ?_)
      · exact absurd hq (by omega)
      · refine q_aload_n (pc := 29) C dX2_makeEndlessWhatRepeats_29 rfl rfl ?_
        refine q_getR (pc := 30) (ci := 2) (k := 4) (r := 23) C rfl fiX2_makeEndlessWhatRepeats_X2 (by decide) k22 (by decide) rfl (by decide) flX2_makeEndlessWhatRepeats_11 rfl rfl dX2_makeEndlessWhatRepeats_30 ?_
        refine q_iload_n (pc := 33) C dX2_makeEndlessWhatRepeats_33 rfl rfl ?_
        first | refine q_aaloadN (pc := 34) C k23 n23 (by decide) (by decide) (by omega) rfl dX2_makeEndlessWhatRepeats_34 ?_ | refine q_aaload (pc := 34) C k23 n23 (by decide) (by decide) (by omega) (by omega) rfl dX2_makeEndlessWhatRepeats_34 ?_
        refine q_astore (pc := 35) (lv2 := [_, _, _, _, _, _]) C dX2_makeEndlessWhatRepeats_35 (by decide) rfl ?_
        refine q_aload_n (pc := 37) C dX2_makeEndlessWhatRepeats_37 rfl rfl ?_
        refine q_aload (pc := 38) C dX2_makeEndlessWhatRepeats_38 rfl ?_
        refine q_callSN (pc := 40) (As := [_, _]) (rest := []) C (c_covers hlf D cy B (a := 24 + n) (b := 24 + a) (k_r23 (by omega)) (n_r23 (by omega)) (l_r23 (by omega)) (k_r23 (by omega)) (n_r23 (by omega)) (l_r23 (by omega))) ⟨va_cnB (host := "CoverTrees") (index := 76) 2 C.2.2.2.2.1 gX2_makeEndlessWhatRepeats_X3_covers_n76 rfl rfl rfl (C.2.2.2.2.2.1.2.2.1 (RX2, 76, yX3_covers) (by decide +kernel)) (C.2.2.2.2.1 _ (by decide +kernel)) (by decide +kernel) ⟨Nat.le_of_ble_eq_true rfl, Nat.le_of_ble_eq_true rfl⟩, C.2.2.2.2.1 _ (by decide +kernel), trivial⟩ rfl rfl (by first | decide | simp [Value.category]) dX2_makeEndlessWhatRepeats_40 (by decide) (fun _ _ h => h.elim) (fun v σ9 hv => ?_)
        obtain ⟨rfl, rfl⟩ := hv
        have hz := bI_01 (∀ q : Nat, q < 6 → σ9 (24 + a) q ≤ σ9 (24 + n) q)
        refine q_if_eq (pc := 43) (tgt := 69) C (by first | exact hR _ _ | exact hRo _ _ | assumption | exact ⟨by omega, by omega⟩) dX2_makeEndlessWhatRepeats_43 (by decide) (fun hr => ?_) (fun hr => ?_)
        · refine q_drop 5 (lv2 := [_, _, _, _, _, none]) rfl ?_
          exact T σ9 (by unfold hitS; rw [if_neg (fun z => bI_0.mp hr z.1)])
        · have hcv := bI_1.mp (show bI (∀ q : Nat, q < 6 → σ9 (24 + a) q ≤ σ9 (24 + n) q) = 1 by omega)
          refine q_aload_n (pc := 46) C dX2_makeEndlessWhatRepeats_46 rfl rfl ?_
          refine q_aload (pc := 47) C dX2_makeEndlessWhatRepeats_47 rfl ?_
          refine q_callSN (pc := 49) (As := [_, _]) (rest := []) C (c_same hlf D cy B (a := 24 + n) (b := 24 + a) (k_r23 (by omega)) (n_r23 (by omega)) (l_r23 (by omega)) (k_r23 (by omega)) (n_r23 (by omega)) (l_r23 (by omega))) ⟨va_cnB (host := "CoverTrees") (index := 80) 2 C.2.2.2.2.1 gX2_makeEndlessWhatRepeats_X3_same_n80 rfl rfl rfl (C.2.2.2.2.2.1.2.2.1 (RX2, 80, yX3_same) (by decide +kernel)) (C.2.2.2.2.1 _ (by decide +kernel)) (by decide +kernel) ⟨Nat.le_of_ble_eq_true rfl, Nat.le_of_ble_eq_true rfl⟩, C.2.2.2.2.1 _ (by decide +kernel), trivial⟩ rfl rfl (by first | decide | simp [Value.category]) dX2_makeEndlessWhatRepeats_49 (by decide) (fun _ _ h => h.elim) (fun v σ8 hv => ?_)
          obtain ⟨rfl, rfl⟩ := hv
          have hz2 := bI_01 (∀ q : Nat, q < 6 → σ8 (24 + n) q = σ8 (24 + a) q)
          refine q_if_ne (pc := 52) (tgt := 69) C (by first | exact hR _ _ | exact hRo _ _ | assumption | exact ⟨by omega, by omega⟩) dX2_makeEndlessWhatRepeats_52 (by decide) (fun hr2 => ?_) (fun hr2 => ?_)
          · have hsm := bI_1.mp (show bI (∀ q : Nat, q < 6 → σ8 (24 + n) q = σ8 (24 + a) q) = 1 by omega)
            refine q_drop 5 (lv2 := [_, _, _, _, _, none]) rfl ?_
            exact T σ8 (by unfold hitS; rw [if_neg (fun z => z.2 hsm)])
          · refine q_aload_n (pc := 55) C dX2_makeEndlessWhatRepeats_55 rfl rfl ?_
            refine q_aload_n (pc := 56) C dX2_makeEndlessWhatRepeats_56 rfl rfl ?_
            refine q_aload (pc := 57) C dX2_makeEndlessWhatRepeats_57 rfl ?_
            refine q_callV (pc := 59) (As := [_, _]) (rest := []) C (c_more hlf D cy B (a := 24 + n) (b := 24 + a) (k_r23 (by omega)) (n_r23 (by omega)) (l_r23 (by omega)) (k_r23 (by omega)) (n_r23 (by omega)) (l_r23 (by omega)) (by omega)) (cwV 2 C.2.2.2.2.1 gX2_makeEndlessWhatRepeats_X2_makeEndlessWhereMore rfl rfl rfl (by decide +kernel) ⟨Nat.le_of_ble_eq_true rfl, Nat.le_of_ble_eq_true rfl⟩) (ci := 2) rfl k22 (by decide) (by decide) rfl rfl (by first | decide | simp [Value.category]) dX2_makeEndlessWhatRepeats_59 (by decide) (fun _ _ h => h.elim) (fun v σ7 hv => ?_)
            obtain ⟨rfl, rfl⟩ := hv
            refine q_aload_n (pc := 62) C dX2_makeEndlessWhatRepeats_62 rfl rfl ?_
            refine q_iload_n (pc := 63) C dX2_makeEndlessWhatRepeats_63 rfl rfl ?_
            refine q_iload (pc := 64) C dX2_makeEndlessWhatRepeats_64 rfl ?_
            refine q_callV (pc := 66) (As := [_, _]) (rest := []) C (c_note hlf D cy B (n := n) (d := 0) ⟨by omega, by omega⟩ ⟨by omega, by omega⟩) (cwV 2 C.2.2.2.2.1 gX2_makeEndlessWhatRepeats_X2_noteFirstEndless rfl rfl rfl (by decide +kernel) ⟨Nat.le_of_ble_eq_true rfl, Nat.le_of_ble_eq_true rfl⟩) (ci := 2) rfl k22 (by decide) (by decide) rfl rfl (by first | decide | simp [Value.category]) dX2_makeEndlessWhatRepeats_66 (by decide) (fun _ _ h => h.elim) (fun v σ6 hv => ?_)
            obtain ⟨rfl, rfl⟩ := hv
            refine q_drop 5 (lv2 := [_, _, _, _, _, none]) rfl ?_
            exact T _ (by unfold hitS; rw [if_pos ⟨hcv, bI_0.mp hr2⟩])
    | succ d ih =>
      intro a σ ha hda hσ hfin
      obtain ⟨e1, e2⟩ | ⟨j, e3, hj, hp1, hp2, hp3⟩ := hch a ha
      · rw [hσ 126 _ (by decide) (by omega)] at hda
        rw [e2] at hda
        omega
      have hda2 := hda
      rw [hσ 126 _ (by decide) (by omega), hp3] at hda2
      have he3 : e3 = d := by omega
      obtain ⟨e5, h51, h52⟩ := chP_le hch a ha
      have hdlt : d < 100 := by omega
      have T : ∀ σ2 : St, σ2 = hitS σ n a ((d + 1 : Nat) : Int) → PW p l e (r0 1) s m args below meth c D cy B 6 0 0 (vx_MQ below (Qp D cy B (ret0 (repS d0 μ n a0))) (Xp D cy B noX) args s (r0 1).cells (r0 1).slots (fun q => B ≤ q)) 69 [some (.ref (B + 22)), some (iN n), some (.ref (B + (24 + n))), some (iN a), some (iN ((d + 1 : Nat) : Int)), none] [] σ2 := by
        intro σ2 e2
        have hs2 : ∀ x k, x ≠ 22 → x ≠ 24 + n → σ2 x k = μ x k := fun x k h1 h2 => by rw [e2, hitS_ne _ _ _ _ h1 h2]; exact hσ x k h1 h2
        refine q_aload_n (pc := 69) C dX2_makeEndlessWhatRepeats_69 rfl rfl ?_
        refine q_getR (pc := 70) (ci := 2) (k := 5) (r := 124) C rfl fiX2_makeEndlessWhatRepeats_X2 (by decide) k22 (by decide) rfl (by decide) flX2_makeEndlessWhatRepeats_16 rfl rfl dX2_makeEndlessWhatRepeats_70 ?_
        refine q_iload_n (pc := 73) C dX2_makeEndlessWhatRepeats_73 rfl rfl ?_
        refine q_iaload (pc := 74) C k124 n124 (by decide) (by decide) (by omega) (by omega) dX2_makeEndlessWhatRepeats_74 ?_
        refine q_istore_n (pc := 75) (lv2 := [_, _, _, _, _, _]) C dX2_makeEndlessWhatRepeats_75 rfl (by decide) rfl ?_
        rw [hs2 124 _ (by decide) (by omega), hp1]
        refine q_iinc (pc := 76) (lv2 := [_, _, _, _, _, _]) C dX2_makeEndlessWhatRepeats_76 (by decide) rfl rfl ?_
        refine q_goto (pc := 79) (tgt := 24) C dX2_makeEndlessWhatRepeats_79 (by decide) ?_
        rw [show ((d + 1 : Nat) : Int) + -1 = (d : Int) by omega]
        refine ih j σ2 (by omega) ?_ hs2 ?_
        · rw [hs2 126 _ (by decide) (by omega), hp2, he3]
        · rw [e2, ← hfin]
          rw [repS_succ, hσ 124 _ (by decide) (by omega), hp1]
          rfl
      refine q_iload (pc := 24) C dX2_makeEndlessWhatRepeats_24 rfl ?_
      refine q_if_lt (pc := 26) (tgt := 82) C (by first | exact hR _ _ | exact hRo _ _ | assumption | exact ⟨by omega, by omega⟩) dX2_makeEndlessWhatRepeats_26 (by decide) (fun hq => ?_) (fun hq => ?_)
      · exact absurd hq (by omega)
      · refine q_aload_n (pc := 29) C dX2_makeEndlessWhatRepeats_29 rfl rfl ?_
        refine q_getR (pc := 30) (ci := 2) (k := 4) (r := 23) C rfl fiX2_makeEndlessWhatRepeats_X2 (by decide) k22 (by decide) rfl (by decide) flX2_makeEndlessWhatRepeats_11 rfl rfl dX2_makeEndlessWhatRepeats_30 ?_
        refine q_iload_n (pc := 33) C dX2_makeEndlessWhatRepeats_33 rfl rfl ?_
        first | refine q_aaloadN (pc := 34) C k23 n23 (by decide) (by decide) (by omega) rfl dX2_makeEndlessWhatRepeats_34 ?_ | refine q_aaload (pc := 34) C k23 n23 (by decide) (by decide) (by omega) (by omega) rfl dX2_makeEndlessWhatRepeats_34 ?_
        refine q_astore (pc := 35) (lv2 := [_, _, _, _, _, _]) C dX2_makeEndlessWhatRepeats_35 (by decide) rfl ?_
        refine q_aload_n (pc := 37) C dX2_makeEndlessWhatRepeats_37 rfl rfl ?_
        refine q_aload (pc := 38) C dX2_makeEndlessWhatRepeats_38 rfl ?_
        refine q_callSN (pc := 40) (As := [_, _]) (rest := []) C (c_covers hlf D cy B (a := 24 + n) (b := 24 + a) (k_r23 (by omega)) (n_r23 (by omega)) (l_r23 (by omega)) (k_r23 (by omega)) (n_r23 (by omega)) (l_r23 (by omega))) ⟨va_cnB (host := "CoverTrees") (index := 76) 2 C.2.2.2.2.1 gX2_makeEndlessWhatRepeats_X3_covers_n76 rfl rfl rfl (C.2.2.2.2.2.1.2.2.1 (RX2, 76, yX3_covers) (by decide +kernel)) (C.2.2.2.2.1 _ (by decide +kernel)) (by decide +kernel) ⟨Nat.le_of_ble_eq_true rfl, Nat.le_of_ble_eq_true rfl⟩, C.2.2.2.2.1 _ (by decide +kernel), trivial⟩ rfl rfl (by first | decide | simp [Value.category]) dX2_makeEndlessWhatRepeats_40 (by decide) (fun _ _ h => h.elim) (fun v σ9 hv => ?_)
        obtain ⟨rfl, rfl⟩ := hv
        have hz := bI_01 (∀ q : Nat, q < 6 → σ9 (24 + a) q ≤ σ9 (24 + n) q)
        refine q_if_eq (pc := 43) (tgt := 69) C (by first | exact hR _ _ | exact hRo _ _ | assumption | exact ⟨by omega, by omega⟩) dX2_makeEndlessWhatRepeats_43 (by decide) (fun hr => ?_) (fun hr => ?_)
        · refine q_drop 5 (lv2 := [_, _, _, _, _, none]) rfl ?_
          exact T σ9 (by unfold hitS; rw [if_neg (fun z => bI_0.mp hr z.1)])
        · have hcv := bI_1.mp (show bI (∀ q : Nat, q < 6 → σ9 (24 + a) q ≤ σ9 (24 + n) q) = 1 by omega)
          refine q_aload_n (pc := 46) C dX2_makeEndlessWhatRepeats_46 rfl rfl ?_
          refine q_aload (pc := 47) C dX2_makeEndlessWhatRepeats_47 rfl ?_
          refine q_callSN (pc := 49) (As := [_, _]) (rest := []) C (c_same hlf D cy B (a := 24 + n) (b := 24 + a) (k_r23 (by omega)) (n_r23 (by omega)) (l_r23 (by omega)) (k_r23 (by omega)) (n_r23 (by omega)) (l_r23 (by omega))) ⟨va_cnB (host := "CoverTrees") (index := 80) 2 C.2.2.2.2.1 gX2_makeEndlessWhatRepeats_X3_same_n80 rfl rfl rfl (C.2.2.2.2.2.1.2.2.1 (RX2, 80, yX3_same) (by decide +kernel)) (C.2.2.2.2.1 _ (by decide +kernel)) (by decide +kernel) ⟨Nat.le_of_ble_eq_true rfl, Nat.le_of_ble_eq_true rfl⟩, C.2.2.2.2.1 _ (by decide +kernel), trivial⟩ rfl rfl (by first | decide | simp [Value.category]) dX2_makeEndlessWhatRepeats_49 (by decide) (fun _ _ h => h.elim) (fun v σ8 hv => ?_)
          obtain ⟨rfl, rfl⟩ := hv
          have hz2 := bI_01 (∀ q : Nat, q < 6 → σ8 (24 + n) q = σ8 (24 + a) q)
          refine q_if_ne (pc := 52) (tgt := 69) C (by first | exact hR _ _ | exact hRo _ _ | assumption | exact ⟨by omega, by omega⟩) dX2_makeEndlessWhatRepeats_52 (by decide) (fun hr2 => ?_) (fun hr2 => ?_)
          · have hsm := bI_1.mp (show bI (∀ q : Nat, q < 6 → σ8 (24 + n) q = σ8 (24 + a) q) = 1 by omega)
            refine q_drop 5 (lv2 := [_, _, _, _, _, none]) rfl ?_
            exact T σ8 (by unfold hitS; rw [if_neg (fun z => z.2 hsm)])
          · refine q_aload_n (pc := 55) C dX2_makeEndlessWhatRepeats_55 rfl rfl ?_
            refine q_aload_n (pc := 56) C dX2_makeEndlessWhatRepeats_56 rfl rfl ?_
            refine q_aload (pc := 57) C dX2_makeEndlessWhatRepeats_57 rfl ?_
            refine q_callV (pc := 59) (As := [_, _]) (rest := []) C (c_more hlf D cy B (a := 24 + n) (b := 24 + a) (k_r23 (by omega)) (n_r23 (by omega)) (l_r23 (by omega)) (k_r23 (by omega)) (n_r23 (by omega)) (l_r23 (by omega)) (by omega)) (cwV 2 C.2.2.2.2.1 gX2_makeEndlessWhatRepeats_X2_makeEndlessWhereMore rfl rfl rfl (by decide +kernel) ⟨Nat.le_of_ble_eq_true rfl, Nat.le_of_ble_eq_true rfl⟩) (ci := 2) rfl k22 (by decide) (by decide) rfl rfl (by first | decide | simp [Value.category]) dX2_makeEndlessWhatRepeats_59 (by decide) (fun _ _ h => h.elim) (fun v σ7 hv => ?_)
            obtain ⟨rfl, rfl⟩ := hv
            refine q_aload_n (pc := 62) C dX2_makeEndlessWhatRepeats_62 rfl rfl ?_
            refine q_iload_n (pc := 63) C dX2_makeEndlessWhatRepeats_63 rfl rfl ?_
            refine q_iload (pc := 64) C dX2_makeEndlessWhatRepeats_64 rfl ?_
            refine q_callV (pc := 66) (As := [_, _]) (rest := []) C (c_note hlf D cy B (n := n) (d := ((d + 1 : Nat) : Int)) ⟨by omega, by omega⟩ ⟨by omega, by omega⟩) (cwV 2 C.2.2.2.2.1 gX2_makeEndlessWhatRepeats_X2_noteFirstEndless rfl rfl rfl (by decide +kernel) ⟨Nat.le_of_ble_eq_true rfl, Nat.le_of_ble_eq_true rfl⟩) (ci := 2) rfl k22 (by decide) (by decide) rfl rfl (by first | decide | simp [Value.category]) dX2_makeEndlessWhatRepeats_66 (by decide) (fun _ _ h => h.elim) (fun v σ6 hv => ?_)
            obtain ⟨rfl, rfl⟩ := hv
            refine q_drop 5 (lv2 := [_, _, _, _, _, none]) rfl ?_
            exact T _ (by unfold hitS; rw [if_pos ⟨hcv, bI_0.mp hr2⟩])
  refine q_aload_n (pc := 0) C dX2_makeEndlessWhatRepeats_0 rfl rfl ?_
  refine q_getR (pc := 1) (ci := 2) (k := 4) (r := 23) C rfl fiX2_makeEndlessWhatRepeats_X2 (by decide) k22 (by decide) rfl (by decide) flX2_makeEndlessWhatRepeats_11 rfl rfl dX2_makeEndlessWhatRepeats_1 ?_
  refine q_iload_n (pc := 4) C dX2_makeEndlessWhatRepeats_4 rfl rfl ?_
  first | refine q_aaloadN (pc := 5) C k23 n23 (by decide) (by decide) (by omega) rfl dX2_makeEndlessWhatRepeats_5 ?_ | refine q_aaload (pc := 5) C k23 n23 (by decide) (by decide) (by omega) (by omega) rfl dX2_makeEndlessWhatRepeats_5 ?_
  refine q_astore_n (pc := 6) (lv2 := [_, _, _, _, _, _]) C dX2_makeEndlessWhatRepeats_6 rfl (by decide) rfl ?_
  refine q_aload_n (pc := 7) C dX2_makeEndlessWhatRepeats_7 rfl rfl ?_
  refine q_getR (pc := 8) (ci := 2) (k := 5) (r := 124) C rfl fiX2_makeEndlessWhatRepeats_X2 (by decide) k22 (by decide) rfl (by decide) flX2_makeEndlessWhatRepeats_16 rfl rfl dX2_makeEndlessWhatRepeats_8 ?_
  refine q_iload_n (pc := 11) C dX2_makeEndlessWhatRepeats_11 rfl rfl ?_
  refine q_iaload (pc := 12) C k124 n124 (by decide) (by decide) (by omega) (by omega) dX2_makeEndlessWhatRepeats_12 ?_
  rw [hp]
  refine q_istore_n (pc := 13) (lv2 := [_, _, _, _, _, _]) C dX2_makeEndlessWhatRepeats_13 rfl (by decide) rfl ?_
  refine q_aload_n (pc := 14) C dX2_makeEndlessWhatRepeats_14 rfl rfl ?_
  refine q_getR (pc := 15) (ci := 2) (k := 7) (r := 126) C rfl fiX2_makeEndlessWhatRepeats_X2 (by decide) k22 (by decide) rfl (by decide) flX2_makeEndlessWhatRepeats_23 rfl rfl dX2_makeEndlessWhatRepeats_15 ?_
  refine q_iload_n (pc := 18) C dX2_makeEndlessWhatRepeats_18 rfl rfl ?_
  refine q_iaload (pc := 19) C k126 n126 (by decide) (by decide) (by omega) (by omega) dX2_makeEndlessWhatRepeats_19 ?_
  refine q_iconst (pc := 20) C dX2_makeEndlessWhatRepeats_20 ?_
  refine q_isub (pc := 21) C dX2_makeEndlessWhatRepeats_21 ?_
  refine q_istore (pc := 22) (lv2 := [_, _, _, _, _, _]) C dX2_makeEndlessWhatRepeats_22 (by decide) rfl ?_
  rw [hdn, show ((d0 + 1 : Nat) : Int) - 1 = (d0 : Int) by omega]
  exact L d0 a0 μ ha0 hd0 (fun _ _ _ _ => rfl) rfl
end
section
theorem fiX2_addChild_X2 : ∀ w ∈ u_ws RX2 TX2 9, w ∈ wsX2_addChild := by decide +kernel
theorem fiX2_addRoot_X1 : ∀ w ∈ u_ws RX1 TX1 5, w ∈ wsX2_addRoot := by decide +kernel
theorem fiX2_addRoot_X2 : ∀ w ∈ u_ws RX2 TX2 9, w ∈ wsX2_addRoot := by decide +kernel
theorem flX2_addChild_30 : Cond.fieldLink RX2 30 RX2 (TX2 0).2.1 (TX2 0).2.2.1 ∈ wsX2_addChild := by decide +kernel
theorem flX2_addChild_47 : Cond.fieldLink RX2 47 RX2 (TX2 1).2.1 (TX2 1).2.2.1 ∈ wsX2_addChild := by decide +kernel
theorem flX2_addChild_11 : Cond.fieldLink RX2 11 RX2 (TX2 4).2.1 (TX2 4).2.2.1 ∈ wsX2_addChild := by decide +kernel
theorem flX2_addChild_16 : Cond.fieldLink RX2 16 RX2 (TX2 5).2.1 (TX2 5).2.2.1 ∈ wsX2_addChild := by decide +kernel
theorem flX2_addChild_20 : Cond.fieldLink RX2 20 RX2 (TX2 6).2.1 (TX2 6).2.2.1 ∈ wsX2_addChild := by decide +kernel
theorem flX2_addChild_23 : Cond.fieldLink RX2 23 RX2 (TX2 7).2.1 (TX2 7).2.2.1 ∈ wsX2_addChild := by decide +kernel
theorem flX2_addChild_26 : Cond.fieldLink RX2 26 RX2 (TX2 8).2.1 (TX2 8).2.2.1 ∈ wsX2_addChild := by decide +kernel
theorem flX2_addRoot_30 : Cond.fieldLink RX2 30 RX2 (TX2 0).2.1 (TX2 0).2.2.1 ∈ wsX2_addRoot := by decide +kernel
theorem flX2_addRoot_47 : Cond.fieldLink RX2 47 RX2 (TX2 1).2.1 (TX2 1).2.2.1 ∈ wsX2_addRoot := by decide +kernel
theorem flX2_addRoot_61 : Cond.fieldLink RX2 61 RX2 (TX2 2).2.1 (TX2 2).2.2.1 ∈ wsX2_addRoot := by decide +kernel
theorem flX2_addRoot_11 : Cond.fieldLink RX2 11 RX2 (TX2 4).2.1 (TX2 4).2.2.1 ∈ wsX2_addRoot := by decide +kernel
theorem flX2_addRoot_16 : Cond.fieldLink RX2 16 RX2 (TX2 5).2.1 (TX2 5).2.2.1 ∈ wsX2_addRoot := by decide +kernel
theorem flX2_addRoot_20 : Cond.fieldLink RX2 20 RX2 (TX2 6).2.1 (TX2 6).2.2.1 ∈ wsX2_addRoot := by decide +kernel
theorem flX2_addRoot_23 : Cond.fieldLink RX2 23 RX2 (TX2 7).2.1 (TX2 7).2.2.1 ∈ wsX2_addRoot := by decide +kernel
theorem flX2_addRoot_26 : Cond.fieldLink RX2 26 RX2 (TX2 8).2.1 (TX2 8).2.2.1 ∈ wsX2_addRoot := by decide +kernel
def rootS (μ : St) : St := updS (updS (updS (updS (updS (updS (cpS μ 24 2) 124 0 (-2)) 125 0 (-2)) 126 0 0) 127 0 0) 22 2 (-2)) 22 1 1
set_option maxHeartbeats 4000000 in
set_option maxRecDepth 100000 in
theorem c_addRoot {l : Launch} (hlf : l.stackTraces = false) (D : va_G) (cy : Nat → ClassId) (B : Nat) {μ : St}  : PC l D cy B yX2_addRoot wsX2_addRoot (r0 2) [.ref (B + 22)] μ (ret0 (rootS μ)) noX := by
  refine PC.pre (fun hR => ?_)
  refine q_start (cc := cX2_addRoot) (maxL := 1) (ret := none) hlf (by decide +kernel) rfl (by simp [Value.category]) (Nat.le_of_ble_eq_true rfl) ?_
  intro p e s m args below meth c C hret hno
  show PW p l e (r0 2) s m args below meth c D cy B 1 0 0 _ 0 [some (.ref (B + 22))] [] μ
  refine q_aload_n (pc := 0) C dX2_addRoot_0 rfl rfl ?_
  refine q_getR (pc := 1) (ci := 2) (k := 4) (r := 23) C rfl fiX2_addRoot_X2 (by decide) k22 (by decide) rfl (by decide) flX2_addRoot_11 rfl rfl dX2_addRoot_1 ?_
  refine q_iconst (pc := 4) C dX2_addRoot_4 ?_
  first | refine q_aaloadN (pc := 5) C k23 n23 (by decide) (by decide) (by omega) rfl dX2_addRoot_5 ?_ | refine q_aaload (pc := 5) C k23 n23 (by decide) (by decide) (by omega) (by omega) rfl dX2_addRoot_5 ?_
  refine q_aload_n (pc := 6) C dX2_addRoot_6 rfl rfl ?_
  refine q_getR (pc := 7) (ci := 2) (k := 0) (r := 1) C rfl fiX2_addRoot_X2 (by decide) k22 (by decide) rfl (by decide) flX2_addRoot_30 rfl rfl dX2_addRoot_7 ?_
  refine q_getRN (pc := 10) (ci := 1) (k := 2) (r := 2) C rfl fiX2_addRoot_X1 (by decide) k1 (by decide) rfl (by decide) (by decide +kernel) rfl rfl dX2_addRoot_10 ?_
  refine q_callSN (pc := 13) (As := [_, _]) (rest := []) C (c_copyInto hlf D cy B (a := 24) (b := 2) (k_r23 (x := 0) (by omega)) (n_r23 (x := 0) (by omega)) (l_r23 (x := 0) (by omega)) k2 n2 (by decide)) ⟨va_cnB (host := "CoverTrees") (index := 57) 2 C.2.2.2.2.1 gX2_addRoot_X3_copyInto_n57 rfl rfl rfl (C.2.2.2.2.2.1.2.2.1 (RX2, 57, yX3_copyInto) (by decide +kernel)) (C.2.2.2.2.1 _ (by decide +kernel)) (by decide +kernel) ⟨Nat.le_of_ble_eq_true rfl, Nat.le_of_ble_eq_true rfl⟩, C.2.2.2.2.1 _ (by decide +kernel), trivial⟩ rfl rfl (by first | decide | simp [Value.category]) dX2_addRoot_13 (by decide) (fun _ _ h => h.elim) (fun v μ9 hv => ?_)
  have e8 := hv.1
  have e9 := hv.2.symm
  clear hv
  subst e8
  subst e9
  dsimp only [Option.toList, List.cons_append, List.nil_append]
  refine q_aload_n (pc := 16) C dX2_addRoot_16 rfl rfl ?_
  refine q_getR (pc := 17) (ci := 2) (k := 5) (r := 124) C rfl fiX2_addRoot_X2 (by decide) k22 (by decide) rfl (by decide) flX2_addRoot_16 rfl rfl dX2_addRoot_17 ?_
  refine q_iconst (pc := 20) C dX2_addRoot_20 ?_
  refine q_bipush (pc := 21) C (by decide +kernel) dX2_addRoot_21 ?_
  refine q_iastore (pc := 23) C k124 n124 (by decide) (by decide) (by omega) (by omega) (by first | exact hR _ _ | exact hRo _ _ | assumption | exact ⟨by omega, by omega⟩) dX2_addRoot_23 ?_
  refine q_aload_n (pc := 24) C dX2_addRoot_24 rfl rfl ?_
  refine q_getR (pc := 25) (ci := 2) (k := 6) (r := 125) C rfl fiX2_addRoot_X2 (by decide) k22 (by decide) rfl (by decide) flX2_addRoot_20 rfl rfl dX2_addRoot_25 ?_
  refine q_iconst (pc := 28) C dX2_addRoot_28 ?_
  refine q_bipush (pc := 29) C (by decide +kernel) dX2_addRoot_29 ?_
  refine q_iastore (pc := 31) C k125 n125 (by decide) (by decide) (by omega) (by omega) (by first | exact hR _ _ | exact hRo _ _ | assumption | exact ⟨by omega, by omega⟩) dX2_addRoot_31 ?_
  refine q_aload_n (pc := 32) C dX2_addRoot_32 rfl rfl ?_
  refine q_getR (pc := 33) (ci := 2) (k := 7) (r := 126) C rfl fiX2_addRoot_X2 (by decide) k22 (by decide) rfl (by decide) flX2_addRoot_23 rfl rfl dX2_addRoot_33 ?_
  refine q_iconst (pc := 36) C dX2_addRoot_36 ?_
  refine q_iconst (pc := 37) C dX2_addRoot_37 ?_
  refine q_iastore (pc := 38) C k126 n126 (by decide) (by decide) (by omega) (by omega) (by first | exact hR _ _ | exact hRo _ _ | assumption | exact ⟨by omega, by omega⟩) dX2_addRoot_38 ?_
  refine q_aload_n (pc := 39) C dX2_addRoot_39 rfl rfl ?_
  refine q_getR (pc := 40) (ci := 2) (k := 8) (r := 127) C rfl fiX2_addRoot_X2 (by decide) k22 (by decide) rfl (by decide) flX2_addRoot_26 rfl rfl dX2_addRoot_40 ?_
  refine q_iconst (pc := 43) C dX2_addRoot_43 ?_
  refine q_iconst (pc := 44) C dX2_addRoot_44 ?_
  refine q_bastore (pc := 45) C k127 n127 (by decide) (by decide) (by omega) (by omega) (by first | exact hR _ _ | exact hRo _ _ | assumption | exact ⟨by omega, by omega⟩) (by first | exact Or.inl rfl | exact Or.inr rfl | assumption) dX2_addRoot_45 ?_
  refine q_aload_n (pc := 46) C dX2_addRoot_46 rfl rfl ?_
  refine q_bipush (pc := 47) C (by decide +kernel) dX2_addRoot_47 ?_
  refine q_put (pc := 49) (ci := 2) (k := 2) (ki := 2) (ty0 := tyX2) C rfl rfl fiX2_addRoot_X2 (by decide) k22 (by decide) rfl (by decide) flX2_addRoot_61 rfl tyX2_ok nmX2 rfl rfl rfl (by first | exact hR _ _ | exact hRo _ _ | assumption | exact ⟨by omega, by omega⟩) dX2_addRoot_49 ?_
  refine q_aload_n (pc := 52) C dX2_addRoot_52 rfl rfl ?_
  refine q_iconst (pc := 53) C dX2_addRoot_53 ?_
  refine q_put (pc := 54) (ci := 2) (k := 1) (ki := 1) (ty0 := tyX2) C rfl rfl fiX2_addRoot_X2 (by decide) k22 (by decide) rfl (by decide) flX2_addRoot_47 rfl tyX2_ok nmX2 rfl rfl rfl (by first | exact hR _ _ | exact hRo _ _ | assumption | exact ⟨by omega, by omega⟩) dX2_addRoot_54 ?_
  exact q_vret (pc := 57) C hret ⟨rfl, rfl⟩ (by decide) (by decide) dX2_addRoot_57
def ch4 (μ : St) (n c t : Nat) : St := updS (updS (updS (preS μ (24 + n) 6 (fireV μ (24 + c) t)) 124 n c) 125 n t) 126 n (μ 126 c + 1)
def ch5 (μ : St) (n c t : Nat) : St := repS (μ 126 c).toNat (ch4 μ n c t) n c
def chS (μ : St) (n c t : Nat) : St := updS (updS (ch5 μ n c t) 127 n (amo (ch5 μ n c t) n)) 22 1 ((n : Int) + 1)
theorem noteS_22 (μ : St) (n d : Int) {k : Int} (h2 : k ≠ 2) (h3 : k ≠ 3) : noteS μ n d 22 k = μ 22 k := by
  unfold noteS
  split
  · rw [updS_nk _ _ _ _ h3, updS_nk _ _ _ _ h2]
  · rfl
theorem hitS_22 (μ : St) (n a : Nat) (d : Int) {k : Int} (h2 : k ≠ 2) (h3 : k ≠ 3) : hitS μ n a d 22 k = μ 22 k := by
  unfold hitS
  split
  · rw [noteS_22 _ _ _ h2 h3, preS_ne _ _ _ _ (by omega)]
  · rfl
theorem repS_22 : ∀ (d : Nat) (μ : St) (n a : Nat) {k : Int} (h2 : k ≠ 2) (h3 : k ≠ 3), repS d μ n a 22 k = μ 22 k
  | 0, μ, n, a, k, h2, h3 => hitS_22 μ n a 0 h2 h3
  | d + 1, μ, n, a, k, h2, h3 => by
    rw [repS_succ, repS_22 d _ _ _ h2 h3, hitS_22 _ _ _ _ h2 h3]
theorem ch4_124 (μ : St) (n c t : Nat) (hn : n < 100) (k : Int) : ch4 μ n c t 124 k = if k = n then (c : Int) else μ 124 k := by
  unfold ch4
  rw [updS_ap, if_neg (by omega), updS_ap, if_neg (by omega), updS_ap]
  by_cases h : k = n
  · rw [if_pos ⟨rfl, h⟩, if_pos h]
  · rw [if_neg (fun z => h z.2), if_neg h, preS_ne _ _ _ _ (by omega)]
theorem ch4_126 (μ : St) (n c t : Nat) (hn : n < 100) (k : Int) : ch4 μ n c t 126 k = if k = n then μ 126 c + 1 else μ 126 k := by
  unfold ch4
  rw [updS_ap]
  by_cases h : k = n
  · rw [if_pos ⟨rfl, h⟩, if_pos h]
  · rw [if_neg (fun z => h z.2), if_neg h, updS_ap, if_neg (by omega), updS_ap, if_neg (by omega), preS_ne _ _ _ _ (by omega)]
theorem chP_ch4 {μ : St} {n c t : Nat} (hn : n < 100) (h : chP μ n) : chP (ch4 μ n c t) n := by
  intro i hi
  rw [ch4_124 _ _ _ _ hn, ch4_126 _ _ _ _ hn, if_neg (by omega), if_neg (by omega)]
  rcases h i hi with h1 | ⟨j, e, hj, h2, h3, h4⟩
  · exact Or.inl h1
  · refine Or.inr ⟨j, e, hj, h2, ?_, h4⟩
    rw [ch4_126 _ _ _ _ hn, if_neg (by omega)]
    exact h3
set_option maxHeartbeats 4000000 in
set_option maxRecDepth 100000 in
theorem c_addChild {l : Launch} (hlf : l.stackTraces = false) (D : va_G) (cy : Nat → ClassId) (B : Nat) {μ : St} {n u t : Nat} (hn : n < 100) (hs : μ 22 1 = n) (hcn : u < n) (ht : t < 8) (hch : chP μ n) (hv : ∀ q : Nat, q < 6 → InR (fireV μ (24 + u) t q)) : PC l D cy B yX2_addChild wsX2_addChild (r0 2) [.ref (B + 22), iN u, iN t] μ (fun r μ2 => r = some (iN n) ∧ μ2 = chS μ n u t) noX := by
  refine PC.pre (fun hR => ?_)
  refine q_start (cc := cX2_addChild) (maxL := 4) (ret := (some .int)) hlf (by decide +kernel) rfl (by simp [Value.category]) (Nat.le_of_ble_eq_true rfl) ?_
  intro p e s m args below meth c C hret hno
  show PW p l e (r0 2) s m args below meth c D cy B 4 0 0 _ 0 [some (.ref (B + 22)), some (iN u), some (iN t), none] [] μ
  obtain ⟨d, hd1, hd2⟩ := chP_le hch u hcn
  refine q_aload_n (pc := 0) C dX2_addChild_0 rfl rfl ?_
  refine q_getI (pc := 1) (ci := 2) (k := 1) (ki := 1) C rfl rfl fiX2_addChild_X2 (by decide) k22 (by decide) rfl (by decide) flX2_addChild_47 rfl rfl dX2_addChild_1 ?_
  rw [hs]
  refine q_istore_n (pc := 4) (lv2 := [_, _, _, _]) C dX2_addChild_4 rfl (by decide) rfl ?_
  refine q_aload_n (pc := 5) C dX2_addChild_5 rfl rfl ?_
  refine q_getR (pc := 6) (ci := 2) (k := 0) (r := 1) C rfl fiX2_addChild_X2 (by decide) k22 (by decide) rfl (by decide) flX2_addChild_30 rfl rfl dX2_addChild_6 ?_
  refine q_aload_n (pc := 9) C dX2_addChild_9 rfl rfl ?_
  refine q_getR (pc := 10) (ci := 2) (k := 4) (r := 23) C rfl fiX2_addChild_X2 (by decide) k22 (by decide) rfl (by decide) flX2_addChild_11 rfl rfl dX2_addChild_10 ?_
  refine q_iload_n (pc := 13) C dX2_addChild_13 rfl rfl ?_
  first | refine q_aaloadN (pc := 14) C k23 n23 (by decide) (by decide) (by omega) rfl dX2_addChild_14 ?_ | refine q_aaload (pc := 14) C k23 n23 (by decide) (by decide) (by omega) (by omega) rfl dX2_addChild_14 ?_
  refine q_iload_n (pc := 15) C dX2_addChild_15 rfl rfl ?_
  refine q_aload_n (pc := 16) C dX2_addChild_16 rfl rfl ?_
  refine q_getR (pc := 17) (ci := 2) (k := 4) (r := 23) C rfl fiX2_addChild_X2 (by decide) k22 (by decide) rfl (by decide) flX2_addChild_11 rfl rfl dX2_addChild_17 ?_
  refine q_iload_n (pc := 20) C dX2_addChild_20 rfl rfl ?_
  first | refine q_aaloadN (pc := 21) C k23 n23 (by decide) (by decide) (by omega) rfl dX2_addChild_21 ?_ | refine q_aaload (pc := 21) C k23 n23 (by decide) (by decide) (by omega) (by omega) rfl dX2_addChild_21 ?_
  refine q_callV (pc := 22) (As := [_, _, _]) (rest := []) C (c_fire hlf D cy B (a := 24 + u) (b := 24 + n) (t := t) (k_r23 (by omega)) (n_r23 (by omega)) (l_r23 (by omega)) (k_r23 (by omega)) (n_r23 (by omega)) (l_r23 (by omega)) ht (by omega) (by omega) (by omega) hv) (cwV 3 C.2.2.2.2.1 gX2_addChild_X1_fire rfl rfl rfl (by decide +kernel) ⟨Nat.le_of_ble_eq_true rfl, Nat.le_of_ble_eq_true rfl⟩) (ci := 1) rfl k1 (by decide) (by decide) rfl rfl (by first | decide | simp [Value.category]) dX2_addChild_22 (by decide) (fun _ _ h => h.elim) (fun v μ9 hv => ?_)
  have e8 := hv.1
  have e9 := hv.2.symm
  clear hv
  subst e8
  subst e9
  dsimp only [Option.toList, List.cons_append, List.nil_append]
  refine q_aload_n (pc := 25) C dX2_addChild_25 rfl rfl ?_
  refine q_getR (pc := 26) (ci := 2) (k := 5) (r := 124) C rfl fiX2_addChild_X2 (by decide) k22 (by decide) rfl (by decide) flX2_addChild_16 rfl rfl dX2_addChild_26 ?_
  refine q_iload_n (pc := 29) C dX2_addChild_29 rfl rfl ?_
  refine q_iload_n (pc := 30) C dX2_addChild_30 rfl rfl ?_
  refine q_iastore (pc := 31) C k124 n124 (by decide) (by decide) (by omega) (by omega) (by first | exact hR _ _ | exact hRo _ _ | assumption | exact ⟨by omega, by omega⟩) dX2_addChild_31 ?_
  refine q_aload_n (pc := 32) C dX2_addChild_32 rfl rfl ?_
  refine q_getR (pc := 33) (ci := 2) (k := 6) (r := 125) C rfl fiX2_addChild_X2 (by decide) k22 (by decide) rfl (by decide) flX2_addChild_20 rfl rfl dX2_addChild_33 ?_
  refine q_iload_n (pc := 36) C dX2_addChild_36 rfl rfl ?_
  refine q_iload_n (pc := 37) C dX2_addChild_37 rfl rfl ?_
  refine q_iastore (pc := 38) C k125 n125 (by decide) (by decide) (by omega) (by omega) (by first | exact hR _ _ | exact hRo _ _ | assumption | exact ⟨by omega, by omega⟩) dX2_addChild_38 ?_
  refine q_aload_n (pc := 39) C dX2_addChild_39 rfl rfl ?_
  refine q_getR (pc := 40) (ci := 2) (k := 7) (r := 126) C rfl fiX2_addChild_X2 (by decide) k22 (by decide) rfl (by decide) flX2_addChild_23 rfl rfl dX2_addChild_40 ?_
  refine q_iload_n (pc := 43) C dX2_addChild_43 rfl rfl ?_
  refine q_aload_n (pc := 44) C dX2_addChild_44 rfl rfl ?_
  refine q_getR (pc := 45) (ci := 2) (k := 7) (r := 126) C rfl fiX2_addChild_X2 (by decide) k22 (by decide) rfl (by decide) flX2_addChild_23 rfl rfl dX2_addChild_45 ?_
  refine q_iload_n (pc := 48) C dX2_addChild_48 rfl rfl ?_
  refine q_iaload (pc := 49) C k126 n126 (by decide) (by decide) (by omega) (by omega) dX2_addChild_49 ?_
  simp only [updS_ap, Nat.reduceEqDiff, Int.reduceEq, Int.toNat_natCast, false_and, true_and, and_false, and_true, and_self, if_false, if_true, ↓reduceIte, preS_ne _ _ _ _ (show 126 ≠ 24 + n by omega)]
  rw [hd1]
  refine q_iconst (pc := 50) C dX2_addChild_50 ?_
  refine q_iadd (pc := 51) C dX2_addChild_51 ?_
  refine q_iastore (pc := 52) C k126 n126 (by decide) (by decide) (by omega) (by omega) (by first | exact hR _ _ | exact hRo _ _ | assumption | exact ⟨by omega, by omega⟩) dX2_addChild_52 ?_
  refine q_mu (μ2 := ch4 μ n u t) (by unfold ch4; rw [hd1]) ?_
  have e124 : ch4 μ n u t 124 n = u := by rw [ch4_124 _ _ _ _ hn, if_pos rfl]
  have e126 : ch4 μ n u t 126 n = ((d + 1 : Nat) : Int) := by rw [ch4_126 _ _ _ _ hn, if_pos rfl, hd1]; omega
  have e126c : ch4 μ n u t 126 u = d := by rw [ch4_126 _ _ _ _ hn, if_neg (by omega), hd1]
  refine q_aload_n (pc := 53) C dX2_addChild_53 rfl rfl ?_
  refine q_iload_n (pc := 54) C dX2_addChild_54 rfl rfl ?_
  refine q_callV (pc := 55) (As := [_]) (rest := []) C (c_rep hlf D cy B (n := n) (a0 := u) (d0 := d) hn hcn e124 e126 e126c (chP_ch4 hn hch)) (cwV 1 C.2.2.2.2.1 gX2_addChild_X2_makeEndlessWhatRepeats rfl rfl rfl (by decide +kernel) ⟨Nat.le_of_ble_eq_true rfl, Nat.le_of_ble_eq_true rfl⟩) (ci := 2) rfl k22 (by decide) (by decide) rfl rfl (by first | decide | simp [Value.category]) dX2_addChild_55 (by decide) (fun _ _ h => h.elim) (fun v μ9 hv => ?_)
  have e8 := hv.1
  have e9 := hv.2.symm
  clear hv
  subst e8
  subst e9
  dsimp only [Option.toList, List.cons_append, List.nil_append]
  have e5 : repS d (ch4 μ n u t) n u = ch5 μ n u t := by unfold ch5; rw [hd1]; rfl
  refine q_mu e5 ?_
  refine q_aload_n (pc := 58) C dX2_addChild_58 rfl rfl ?_
  refine q_getR (pc := 59) (ci := 2) (k := 8) (r := 127) C rfl fiX2_addChild_X2 (by decide) k22 (by decide) rfl (by decide) flX2_addChild_26 rfl rfl dX2_addChild_59 ?_
  refine q_iload_n (pc := 62) C dX2_addChild_62 rfl rfl ?_
  refine q_aload_n (pc := 63) C dX2_addChild_63 rfl rfl ?_
  refine q_iload_n (pc := 64) C dX2_addChild_64 rfl rfl ?_
  refine q_callV (pc := 65) (As := [_]) (rest := [_, _]) C (c_among hlf D cy B (n := n) hn) (cwV 1 C.2.2.2.2.1 gX2_addChild_X2_isAmongEarlier rfl rfl rfl (by decide +kernel) ⟨Nat.le_of_ble_eq_true rfl, Nat.le_of_ble_eq_true rfl⟩) (ci := 2) rfl k22 (by decide) (by decide) rfl rfl (by first | decide | simp [Value.category]) dX2_addChild_65 (by decide) (fun _ _ h => h.elim) (fun v μ9 hv => ?_)
  have e8 := hv.1
  have e9 := hv.2.symm
  clear hv
  subst e8
  subst e9
  dsimp only [Option.toList, List.cons_append, List.nil_append]
  have hz := amo_01 (ch5 μ n u t) n
  refine q_bastore (pc := 68) C k127 n127 (by decide) (by decide) (by omega) (by omega) (by first | exact hR _ _ | exact hRo _ _ | assumption | exact ⟨by omega, by omega⟩) (by first | exact Or.inl rfl | exact Or.inr rfl | assumption) dX2_addChild_68 ?_
  refine q_aload_n (pc := 69) C dX2_addChild_69 rfl rfl ?_
  refine q_dup (pc := 70) C rfl dX2_addChild_70 ?_
  have e22 : ch5 μ n u t 22 1 = n := by
    rw [← e5, repS_22 _ _ _ _ (by decide) (by decide)]
    unfold ch4
    rw [updS_ap, if_neg (by omega), updS_ap, if_neg (by omega), updS_ap, if_neg (by omega), preS_ne _ _ _ _ (by omega), hs]
  refine q_getI (pc := 71) (ci := 2) (k := 1) (ki := 1) C rfl rfl fiX2_addChild_X2 (by decide) k22 (by decide) rfl (by decide) flX2_addChild_47 rfl rfl dX2_addChild_71 ?_
  simp only [updS_ap, Nat.reduceEqDiff, Int.reduceEq, Int.toNat_natCast, false_and, true_and, and_false, and_true, and_self, if_false, if_true, ↓reduceIte]
  rw [e22]
  refine q_iconst (pc := 74) C dX2_addChild_74 ?_
  refine q_iadd (pc := 75) C dX2_addChild_75 ?_
  refine q_put (pc := 76) (ci := 2) (k := 1) (ki := 1) (ty0 := tyX2) C rfl rfl fiX2_addChild_X2 (by decide) k22 (by decide) rfl (by decide) flX2_addChild_47 rfl tyX2_ok nmX2 rfl rfl rfl (by first | exact hR _ _ | exact hRo _ _ | assumption | exact ⟨by omega, by omega⟩) dX2_addChild_76 ?_
  refine q_iload_n (pc := 79) C dX2_addChild_79 rfl rfl ?_
  exact q_iret (pc := 80) C hret ⟨rfl, rfl⟩ (by decide) (by decide) dX2_addChild_80
end
section
abbrev enP (μ : St) (a t : Nat) : Prop := ∀ q : Nat, q < 6 → μ (4 + t) q ≤ μ a q
def NI (μ : St) (P T : Nat) : Prop := P ≤ 6 ∧ T ≤ 8 ∧ μ 1 0 = P ∧ μ 1 1 = T ∧ (∀ q : Nat, q < 6 → 0 ≤ μ 2 q ∧ μ 2 q ≤ 9) ∧ (∀ t q : Nat, t < 8 → q < 6 → 0 ≤ μ (4 + t) q ∧ μ (4 + t) q ≤ 4 ∧ 0 ≤ μ (13 + t) q ∧ μ (13 + t) q ≤ 4)
def mkP (μ : St) (i : Nat) : Prop := ∀ q : Nat, q < 6 → (0 ≤ μ (24 + i) q ∧ μ (24 + i) q ≤ 9 + 4 * i) ∨ μ (24 + i) q = 1000000
def feP (μ : St) (n : Nat) : Prop := (μ 22 2 = -2 ∧ ∀ i q : Nat, i < n → q < 6 → μ (24 + i) q ≠ 1000000) ∨ ∃ f : Nat, f < n ∧ μ 22 2 = f ∧ ∃ i q : Nat, i < n ∧ q < 6 ∧ μ (24 + i) q = 1000000
def TI (μ : St) (T n : Nat) : Prop := 1 ≤ n ∧ n ≤ 100 ∧ μ 22 1 = n ∧ chP μ n ∧ (∀ i : Nat, i < n → mkP μ i) ∧ (∀ i : Nat, 0 < i → i < n → ∃ b : Nat, μ 125 i = b ∧ b < T) ∧ (∀ i : Nat, i < n → μ 127 i = 0 ∨ μ 127 i = 1) ∧ feP μ n ∧ μ 124 0 = -2 ∧ μ 125 0 = -2
theorem ch5_ne (μ : St) {n : Nat} (u t : Nat) {x : Nat} (h1 : x ≠ 22) (h2 : x ≠ 24 + n) (h3 : x ≠ 124) (h4 : x ≠ 125) (h5 : x ≠ 126) (k : Int) : ch5 μ n u t x k = μ x k := by
  unfold ch5 ch4
  rw [repS_ne _ _ _ _ h1 h2, updS_ne _ _ _ _ h5, updS_ne _ _ _ _ h4, updS_ne _ _ _ _ h3, preS_ne _ _ _ _ h2]
theorem chS_ne (μ : St) {n : Nat} (u t : Nat) {x : Nat} (h1 : x ≠ 22) (h2 : x ≠ 24 + n) (h3 : x ≠ 124) (h4 : x ≠ 125) (h5 : x ≠ 126) (h6 : x ≠ 127) (k : Int) : chS μ n u t x k = μ x k := by
  unfold chS
  rw [updS_ne _ _ _ _ h1, updS_ne _ _ _ _ h6, ch5_ne _ _ _ h1 h2 h3 h4 h5]
theorem chS_out (μ : St) {n : Nat} (hn : n < 100) (u t : Nat) {x : Nat} (h1 : x ≠ 22) (h2 : x < 24 ∨ 128 ≤ x) (k : Int) : chS μ n u t x k = μ x k :=
  chS_ne μ u t h1 (by omega) (by omega) (by omega) (by omega) (by omega) k
theorem ch5_124 (μ : St) {n : Nat} (hn : n < 100) (u t : Nat) (k : Int) : ch5 μ n u t 124 k = if k = n then (u : Int) else μ 124 k := by
  unfold ch5
  rw [repS_ne _ _ _ _ (by omega) (by omega), ch4_124 _ _ _ _ hn]
theorem ch5_126 (μ : St) {n : Nat} (hn : n < 100) (u t : Nat) (k : Int) : ch5 μ n u t 126 k = if k = n then μ 126 u + 1 else μ 126 k := by
  unfold ch5
  rw [repS_ne _ _ _ _ (by omega) (by omega), ch4_126 _ _ _ _ hn]
theorem ch5_125 (μ : St) {n : Nat} (hn : n < 100) (u t : Nat) (k : Int) : ch5 μ n u t 125 k = if k = n then (t : Int) else μ 125 k := by
  unfold ch5 ch4
  rw [repS_ne _ _ _ _ (by omega) (by omega), updS_ap, if_neg (by omega), updS_ap]
  by_cases h : k = n
  · rw [if_pos ⟨rfl, h⟩, if_pos h]
  · rw [if_neg (fun z => h z.2), if_neg h, updS_ap, if_neg (by omega), preS_ne _ _ _ _ (by omega)]
theorem chS_124 (μ : St) {n : Nat} (hn : n < 100) (u t : Nat) (k : Int) : chS μ n u t 124 k = if k = n then (u : Int) else μ 124 k := by
  unfold chS
  rw [updS_ne _ _ _ _ (by omega), updS_ne _ _ _ _ (by omega), ch5_124 _ hn]
theorem chS_125 (μ : St) {n : Nat} (hn : n < 100) (u t : Nat) (k : Int) : chS μ n u t 125 k = if k = n then (t : Int) else μ 125 k := by
  unfold chS
  rw [updS_ne _ _ _ _ (by omega), updS_ne _ _ _ _ (by omega), ch5_125 _ hn]
theorem chS_126 (μ : St) {n : Nat} (hn : n < 100) (u t : Nat) (k : Int) : chS μ n u t 126 k = if k = n then μ 126 u + 1 else μ 126 k := by
  unfold chS
  rw [updS_ne _ _ _ _ (by omega), updS_ne _ _ _ _ (by omega), ch5_126 _ hn]
theorem chS_127 (μ : St) {n : Nat} (hn : n < 100) (u t : Nat) (k : Int) : chS μ n u t 127 k = if k = n then amo (ch5 μ n u t) n else μ 127 k := by
  unfold chS
  rw [updS_ne _ _ _ _ (by omega), updS_ap]
  by_cases h : k = n
  · rw [if_pos ⟨rfl, h⟩, if_pos h]
  · rw [if_neg (fun z => h z.2), if_neg h, ch5_ne _ _ _ (by omega) (by omega) (by omega) (by omega) (by omega)]
theorem chS_row (μ : St) {n : Nat} (hn : n < 100) (u t i : Nat) (k : Int) : chS μ n u t (24 + i) k = if 24 + i = 22 ∨ 24 + i = 127 then chS μ n u t (24 + i) k else ch5 μ n u t (24 + i) k := by
  split
  · rfl
  · unfold chS
    rw [updS_ne _ _ _ _ (by omega), updS_ne _ _ _ _ (by omega)]
theorem chS_mk (μ : St) {n : Nat} (hn : n < 100) (u t : Nat) {i : Nat} (hi : i < n) (k : Int) : chS μ n u t (24 + i) k = μ (24 + i) k :=
  chS_ne μ u t (by omega) (by omega) (by omega) (by omega) (by omega) (by omega) k
theorem chS_mkn (μ : St) {n : Nat} (hn : n < 100) (u t : Nat) (k : Int) : chS μ n u t (24 + n) k = ch5 μ n u t (24 + n) k := by
  unfold chS
  rw [updS_ne _ _ _ _ (by omega), updS_ne _ _ _ _ (by omega)]
theorem chS_22 (μ : St) {n : Nat} (hn : n < 100) (u t : Nat) : chS μ n u t 22 1 = ((n + 1 : Nat) : Int) := by
  unfold chS
  rw [updS_self]
  omega
theorem chS_22' (μ : St) {n : Nat} (hn : n < 100) (u t : Nat) {k : Int} (hk : k ≠ 1) : chS μ n u t 22 k = ch5 μ n u t 22 k := by
  unfold chS
  rw [updS_nk _ _ _ _ hk, updS_ne _ _ _ _ (by omega)]
theorem hitS_row {R : Int → Prop} (hW : R 1000000) (μ : St) (n a : Nat) (d : Int) (h : ∀ q : Nat, q < 6 → R (μ (24 + n) q)) : ∀ q : Nat, q < 6 → R (hitS μ n a d (24 + n) q) := by
  intro q hq
  unfold hitS
  split
  · rw [noteS_ne _ _ _ (by omega), preS_ap, if_pos ⟨rfl, by omega, by omega⟩]
    unfold moreV
    split
    · exact hW
    · exact h q hq
  · exact h q hq
theorem repS_row {R : Int → Prop} (hW : R 1000000) : ∀ (d : Nat) (μ : St) (n a : Nat) (h : ∀ q : Nat, q < 6 → R (μ (24 + n) q)), ∀ q : Nat, q < 6 → R (repS d μ n a (24 + n) q)
  | 0, μ, n, a, h => hitS_row hW μ n a 0 h
  | d + 1, μ, n, a, h => by
    rw [repS_succ]
    exact repS_row hW d _ n _ (hitS_row hW μ n a _ h)
theorem hitS_fe (μ : St) (n a : Nat) (d : Int) : (hitS μ n a d = μ) ∨ ((∃ q : Nat, q < 6 ∧ hitS μ n a d (24 + n) q = 1000000) ∧ hitS μ n a d 22 2 = if μ 22 2 = -2 then (n : Int) else μ 22 2) := by
  unfold hitS
  split
  · rename_i hh
    refine Or.inr ⟨?_, ?_⟩
    · have : ∃ q : Nat, q < 6 ∧ μ (24 + a) q < μ (24 + n) q := by
        refine Classical.byContradiction (fun hc => hh.2 (fun q hq => ?_))
        have h1 := hh.1 q hq
        have h2 : ¬ μ (24 + a) q < μ (24 + n) q := fun z => hc ⟨q, hq, z⟩
        omega
      obtain ⟨q, hq, h1⟩ := this
      refine ⟨q, hq, ?_⟩
      rw [noteS_ne _ _ _ (by omega), preS_ap, if_pos ⟨rfl, by omega, by omega⟩]
      unfold moreV
      rw [if_pos h1]
    · unfold noteS
      rw [preS_ne _ _ _ _ (by omega)]
      split
      · rw [updS_nk _ _ _ _ (by decide), updS_self]
      · rw [preS_ne _ _ _ _ (by omega)]
  · exact Or.inl rfl
theorem repS_W : ∀ (d : Nat) (μ : St) (n a : Nat) (q : Nat), q < 6 → μ (24 + n) q = 1000000 → repS d μ n a (24 + n) q = 1000000 := by
  have hh : ∀ (μ : St) (n a : Nat) (d : Int) (q : Nat), q < 6 → μ (24 + n) q = 1000000 → hitS μ n a d (24 + n) q = 1000000 := by
    intro μ n a d q hq h
    unfold hitS
    split
    · rw [noteS_ne _ _ _ (by omega), preS_ap, if_pos ⟨rfl, by omega, by omega⟩]
      unfold moreV
      split
      · rfl
      · exact h
    · exact h
  intro d
  induction d with
  | zero => exact fun μ n a q hq h => hh μ n a 0 q hq h
  | succ d ih =>
    intro μ n a q hq h
    rw [repS_succ]
    exact ih _ _ _ q hq (hh μ n a _ q hq h)
theorem repS_fe2 : ∀ (d : Nat) (μ : St) (n a : Nat), μ 22 2 ≠ -2 → repS d μ n a 22 2 = μ 22 2 := by
  have hh : ∀ (μ : St) (n a : Nat) (d : Int), μ 22 2 ≠ -2 → hitS μ n a d 22 2 = μ 22 2 := by
    intro μ n a d h
    rcases hitS_fe μ n a d with e | ⟨-, e⟩
    · rw [e]
    · rw [e, if_neg h]
  intro d
  induction d with
  | zero => exact fun μ n a h => hh μ n a 0 h
  | succ d ih =>
    intro μ n a h
    rw [repS_succ, ih _ _ _ (by rw [hh μ n a _ h]; exact h), hh μ n a _ h]
theorem repS_fe : ∀ (d : Nat) (μ : St) (n a : Nat), μ 22 2 = -2 → (repS d μ n a 22 2 = -2 ∧ ∀ q : Nat, repS d μ n a (24 + n) q = μ (24 + n) q) ∨ (repS d μ n a 22 2 = n ∧ ∃ q : Nat, q < 6 ∧ repS d μ n a (24 + n) q = 1000000) := by
  intro d
  induction d with
  | zero =>
    intro μ n a h
    show (hitS μ n a 0 22 2 = -2 ∧ ∀ q : Nat, hitS μ n a 0 (24 + n) q = μ (24 + n) q) ∨ (hitS μ n a 0 22 2 = n ∧ ∃ q : Nat, q < 6 ∧ hitS μ n a 0 (24 + n) q = 1000000)
    rcases hitS_fe μ n a 0 with e | ⟨e1, e2⟩
    · rw [e]
      exact Or.inl ⟨h, fun q => rfl⟩
    · rw [e2, if_pos h]
      exact Or.inr ⟨rfl, e1⟩
  | succ d ih =>
    intro μ n a h
    rw [repS_succ]
    rcases hitS_fe μ n a ((d + 1 : Nat) : Int) with e | ⟨⟨q, hq, e1⟩, e2⟩
    · rw [e]
      exact ih μ n _ h
    · rw [if_pos h] at e2
      refine Or.inr ⟨?_, q, hq, repS_W d _ n _ q hq e1⟩
      rw [repS_fe2 d _ n _ (by rw [e2]; omega), e2]
theorem fireV_b {μ : St} {P T n u t : Nat} (hN : NI μ P T) (hT : TI μ T n) (hu : u < n) (ht : t < T) (he : enP μ (24 + u) t) : ∀ q : Nat, q < 6 → (0 ≤ fireV μ (24 + u) t q ∧ fireV μ (24 + u) t q ≤ 9 + 4 * (u + 1)) ∨ fireV μ (24 + u) t q = 1000000 := by
  intro q hq
  have h1 := hT.2.2.2.2.1 u hu q hq
  have h2 := hN.2.2.2.2.2 t q (by have := hN.2.1; omega) hq
  have h3 := he q hq
  unfold fireV
  split
  · exact Or.inr (by assumption)
  · refine Or.inl ?_
    omega
theorem fireV_r {μ : St} {P T n u t : Nat} (hN : NI μ P T) (hT : TI μ T n) (hu : u < n) (ht : t < T) (he : enP μ (24 + u) t) : ∀ q : Nat, q < 6 → InR (fireV μ (24 + u) t q) := by
  intro q hq
  have hn := hT.2.1
  rcases fireV_b hN hT hu ht he q hq with h | h
  · exact ⟨by omega, by omega⟩
  · rw [h]
    exact ⟨by decide, by decide⟩
theorem ch4_row (μ : St) {n : Nat} (hn : n < 100) (u t q : Nat) (hq : q < 6) : ch4 μ n u t (24 + n) q = fireV μ (24 + u) t q := by
  unfold ch4
  rw [updS_ne _ _ _ _ (by omega), updS_ne _ _ _ _ (by omega), updS_ne _ _ _ _ (by omega), preS_ap, if_pos ⟨rfl, by omega, by omega⟩]
theorem ch4_22 (μ : St) {n : Nat} (u t : Nat) (k : Int) : ch4 μ n u t 22 k = μ 22 k := by
  unfold ch4
  rw [updS_ne _ _ _ _ (by omega), updS_ne _ _ _ _ (by omega), updS_ne _ _ _ _ (by omega), preS_ne _ _ _ _ (by omega)]
theorem NI_ne {μ σ : St} {P T : Nat} (h : NI μ P T) (e : ∀ x k, x < 22 → σ x k = μ x k) : NI σ P T := by
  obtain ⟨h1, h2, h3, h4, h5, h6⟩ := h
  refine ⟨h1, h2, by rw [e _ _ (by omega)]; exact h3, by rw [e _ _ (by omega)]; exact h4, fun q hq => by rw [e _ _ (by omega)]; exact h5 q hq, fun t q ht hq => ?_⟩
  rw [e _ _ (by omega), e _ _ (by omega)]
  exact h6 t q ht hq
theorem NI_ch {μ : St} {P T n : Nat} (h : NI μ P T) (hn : n < 100) (u t : Nat) : NI (chS μ n u t) P T :=
  NI_ne h (fun x k hx => chS_out μ hn u t (by omega) (by omega) k)
theorem TI_ch {μ : St} {P T n u t : Nat} (hN : NI μ P T) (hT : TI μ T n) (hn : n < 100) (hu : u < n) (ht : t < T) (he : enP μ (24 + u) t) : TI (chS μ n u t) T (n + 1) := by
  have hfb := fireV_b hN hT hu ht he
  obtain ⟨h1, h2, h3, h4, h5, h6, h7, h8, h9, h10⟩ := id hT
  refine ⟨by omega, by omega, chS_22 μ hn u t, ?_, ?_, ?_, ?_, ?_, ?_, ?_⟩
  · intro i hi
    by_cases e : i = n
    · subst e
      obtain ⟨d, hd1, hd2⟩ := chP_le h4 u hu
      refine Or.inr ⟨u, d, hu, ?_, ?_, ?_⟩
      · rw [chS_124 _ hn, if_pos rfl]
      · rw [chS_126 _ hn, if_neg (by omega), hd1]
      · rw [chS_126 _ hn, if_pos rfl, hd1]
        omega
    · rcases h4 i (by omega) with z | ⟨j, d, hj, z1, z2, z3⟩
      · refine Or.inl ⟨z.1, ?_⟩
        rw [chS_126 _ hn, if_neg (by omega)]
        exact z.2
      · refine Or.inr ⟨j, d, hj, ?_, ?_, ?_⟩
        · rw [chS_124 _ hn, if_neg (by omega)]; exact z1
        · rw [chS_126 _ hn, if_neg (by omega)]; exact z2
        · rw [chS_126 _ hn, if_neg (by omega)]; exact z3
  · intro i hi
    by_cases e : i = n
    · subst e
      intro q hq
      rw [chS_mkn _ hn]
      unfold ch5
      refine repS_row (R := fun v => (0 ≤ v ∧ v ≤ 9 + 4 * (i : Int)) ∨ v = 1000000) (Or.inr rfl) _ _ _ _ (fun q hq => ?_) q hq
      rw [ch4_row _ hn _ _ _ hq]
      rcases hfb q hq with z | z
      · exact Or.inl ⟨z.1, by omega⟩
      · exact Or.inr z
    · intro q hq
      rw [chS_mk _ hn _ _ (by omega)]
      exact h5 i (by omega) q hq
  · intro i hi0 hi
    rw [chS_125 _ hn]
    by_cases e : i = n
    · subst e
      rw [if_pos rfl]
      exact ⟨t, rfl, ht⟩
    · rw [if_neg (by omega)]
      exact h6 i hi0 (by omega)
  · intro i hi
    rw [chS_127 _ hn]
    by_cases e : i = n
    · rw [if_pos (by omega)]
      exact amo_01 _ _
    · rw [if_neg (by omega)]
      exact h7 i (by omega)
  · have e22 : chS μ n u t 22 2 = repS (μ 126 u).toNat (ch4 μ n u t) n u 22 2 := by
      rw [chS_22' _ hn _ _ (by decide)]
      rfl
    have erow : ∀ q : Nat, chS μ n u t (24 + n) q = repS (μ 126 u).toNat (ch4 μ n u t) n u (24 + n) q := fun q => by
      rw [chS_mkn _ hn]
      rfl
    rcases h8 with ⟨z1, z2⟩ | ⟨f, hf, z1, i, q, hi, hq, z2⟩
    · rcases repS_fe (μ 126 u).toNat (ch4 μ n u t) n u (by rw [ch4_22]; exact z1) with ⟨y1, y2⟩ | ⟨y1, q, hq, y2⟩
      · refine Or.inl ⟨by rw [e22]; exact y1, fun i q hi hq => ?_⟩
        by_cases e : i = n
        · subst e
          rw [erow, y2, ch4_row _ hn _ _ _ hq]
          unfold fireV
          rw [if_neg (z2 u q hu hq)]
          have := h5 u hu q hq
          have := z2 u q hu hq
          have := hN.2.2.2.2.2 t q (by have := hN.2.1; omega) hq
          have := he q hq
          omega
        · rw [chS_mk _ hn _ _ (by omega)]
          exact z2 i q (by omega) hq
      · exact Or.inr ⟨n, by omega, by rw [e22]; exact y1, n, q, by omega, hq, by rw [erow]; exact y2⟩
    · refine Or.inr ⟨f, by omega, ?_, i, q, by omega, hq, ?_⟩
      · rw [e22, repS_fe2 _ _ _ _ (by rw [ch4_22, z1]; omega), ch4_22, z1]
      · rw [chS_mk _ hn _ _ hi]
        exact z2
  · rw [chS_124 _ hn, if_neg (by omega)]
    exact h9
  · rw [chS_125 _ hn, if_neg (by omega)]
    exact h10
theorem NI_root {μ : St} {P T : Nat} (h : NI μ P T) : NI (rootS μ) P T := by
  refine NI_ne h (fun x k hx => ?_)
  unfold rootS
  rw [updS_ne _ _ _ _ (by omega), updS_ne _ _ _ _ (by omega), updS_ne _ _ _ _ (by omega), updS_ne _ _ _ _ (by omega), updS_ne _ _ _ _ (by omega), updS_ne _ _ _ _ (by omega), cpS_ap, if_neg (by omega)]
theorem rootS_24 (μ : St) {q : Nat} (hq : q < 6) : rootS μ 24 q = μ 2 q := by
  unfold rootS
  rw [updS_ne _ _ _ _ (by omega), updS_ne _ _ _ _ (by omega), updS_ne _ _ _ _ (by omega), updS_ne _ _ _ _ (by omega), updS_ne _ _ _ _ (by omega), updS_ne _ _ _ _ (by omega), cpS_ap, if_pos ⟨rfl, by omega, by omega⟩]
theorem TI_root {μ : St} {P T : Nat} (h : NI μ P T) : TI (rootS μ) T 1 := by
  have hf := h.2.2.2.2.1
  have e126 : rootS μ 126 0 = 0 := by simp [rootS, updS_ap]
  refine ⟨Nat.le_refl _, by decide, by simp [rootS, updS_ap], ?_, ?_, ?_, ?_, ?_, by simp [rootS, updS_ap], by simp [rootS, updS_ap]⟩
  · intro i hi
    have : i = 0 := by omega
    subst this
    exact Or.inl ⟨rfl, e126⟩
  · intro i hi q hq
    have : i = 0 := by omega
    subst this
    have := hf q hq
    rw [rootS_24 μ hq]
    exact Or.inl ⟨by omega, by omega⟩
  · intro i h0 hi
    omega
  · intro i hi
    have : i = 0 := by omega
    subst this
    exact Or.inl (by simp [rootS, updS_ap])
  · refine Or.inl ⟨by simp [rootS, updS_ap], fun i q hi hq => ?_⟩
    have : i = 0 := by omega
    subst this
    have := hf q hq
    rw [rootS_24 μ hq]
    omega
end
section
theorem fiX2_grow_X1 : ∀ w ∈ u_ws RX1 TX1 5, w ∈ wsX2_grow := by decide +kernel
theorem fiX2_grow_X2 : ∀ w ∈ u_ws RX2 TX2 9, w ∈ wsX2_grow := by decide +kernel
theorem flX2_grow_30 : Cond.fieldLink RX2 30 RX2 (TX2 0).2.1 (TX2 0).2.2.1 ∈ wsX2_grow := by decide +kernel
theorem flX2_grow_47 : Cond.fieldLink RX2 47 RX2 (TX2 1).2.1 (TX2 1).2.2.1 ∈ wsX2_grow := by decide +kernel
theorem flX2_grow_11 : Cond.fieldLink RX2 11 RX2 (TX2 4).2.1 (TX2 4).2.2.1 ∈ wsX2_grow := by decide +kernel
theorem flX2_grow_16 : Cond.fieldLink RX2 16 RX2 (TX2 5).2.1 (TX2 5).2.2.1 ∈ wsX2_grow := by decide +kernel
theorem flX2_grow_20 : Cond.fieldLink RX2 20 RX2 (TX2 6).2.1 (TX2 6).2.2.1 ∈ wsX2_grow := by decide +kernel
theorem flX2_grow_26 : Cond.fieldLink RX2 26 RX2 (TX2 8).2.1 (TX2 8).2.2.1 ∈ wsX2_grow := by decide +kernel
def pot (μ : St) : Nat → Nat → Nat → Nat
  | 0, _, t => 9 - t
  | d + 1, u, t => (9 - t) + pot μ d (μ 124 u).toNat ((μ 125 u).toNat + 1)
theorem pot_t (μ : St) (d u t : Nat) (ht : t < 9) : pot μ d u t = pot μ d u (t + 1) + 1 := by
  cases d with
  | zero => unfold pot; omega
  | succ d => unfold pot; omega
theorem pot_pos (μ : St) (d u t : Nat) (ht : t < 9) : 1 ≤ pot μ d u t := by
  cases d with
  | zero => unfold pot; omega
  | succ d => unfold pot; omega
theorem pot_congr {μ σ : St} {n : Nat} (hch : chP μ n) (e : ∀ i : Nat, i < n → σ 124 i = μ 124 i ∧ σ 125 i = μ 125 i) : ∀ (d u t : Nat), u < n → μ 126 u = d → pot σ d u t = pot μ d u t := by
  intro d
  induction d with
  | zero => exact fun u t hu hd => rfl
  | succ d ih =>
    intro u t hu hd
    rcases hch u hu with ⟨-, z⟩ | ⟨j, f, hj, z1, z2, z3⟩
    · rw [z] at hd; omega
    · unfold pot
      rw [(e u hu).1, (e u hu).2, z1, ih _ _ (by simpa using (by omega : j < n)) (by rw [Int.toNat_natCast, z2]; rw [z3] at hd; omega)]
def runT : Nat → St → Nat → Nat → Nat → (St × Nat × Nat)
  | 0, σ, n, _, _ => (σ, n, 0)
  | k + 1, σ, n, u, t =>
    if σ 127 u = 1 ∨ (t : Int) = σ 1 1 then (if u = 0 then (σ, n, 1) else runT k σ n (σ 124 u).toNat ((σ 125 u).toNat + 1))
    else if enP σ (24 + u) t then (if n = 100 then (σ, n, 2) else runT k (chS σ n u t) (n + 1) n 0)
    else runT k σ n u (t + 1)
def growQ (μ : St) (P T : Nat) : Option Value → St → Prop := fun r μ2 => ∃ (σ : St) (n k : Nat), k ≤ 900 ∧ NI σ P T ∧ TI σ T n ∧ (∀ x k, x ≠ 22 → (x < 24 ∨ 128 ≤ x) → σ x k = μ x k) ∧
  ((runT 900 (rootS μ) 1 0 0 = (σ, n, 1) ∧ r = some (iN 1) ∧ μ2 = σ) ∨ (runT 900 (rootS μ) 1 0 0 = (σ, n, 2) ∧ r = some (iN 0) ∧ μ2 = updS σ 22 1 0))
theorem rootS_out (μ : St) {x : Nat} (h1 : x ≠ 22) (h2 : x < 24 ∨ 128 ≤ x) (k : Int) : rootS μ x k = μ x k := by
  unfold rootS
  rw [updS_ne _ _ _ _ (by omega), updS_ne _ _ _ _ (by omega), updS_ne _ _ _ _ (by omega), updS_ne _ _ _ _ (by omega), updS_ne _ _ _ _ (by omega), updS_ne _ _ _ _ (by omega), cpS_ap, if_neg (by omega)]
set_option maxHeartbeats 4000000 in
set_option maxRecDepth 100000 in
theorem c_grow {l : Launch} (hlf : l.stackTraces = false) (D : va_G) (cy : Nat → ClassId) (B : Nat) {μ : St} {P T : Nat} (hN : NI μ P T) : PC l D cy B yX2_grow wsX2_grow (r0 3) [.ref (B + 22)] μ (growQ μ P T) noX := by
  refine PC.pre (fun hR => ?_)
  refine q_start (cc := cX2_grow) (maxL := 4) (ret := (some .boolean)) hlf (by decide +kernel) rfl (by simp [Value.category]) (Nat.le_of_ble_eq_true rfl) ?_
  intro p e s m args below meth c C hret hno
  show PW p l e (r0 3) s m args below meth c D cy B 4 0 0 _ 0 [some (.ref (B + 22)), none, none, none] [] μ
  have L : ∀ (k : Nat) (σ : St) (n u t : Nat), k ≤ 900 → NI σ P T → TI σ T n → u < n → t ≤ T → 9 * (100 - n) + pot σ (σ 126 u).toNat u t ≤ k → runT k σ n u t = runT 900 (rootS μ) 1 0 0 → (∀ x k, x ≠ 22 → (x < 24 ∨ 128 ≤ x) → σ x k = μ x k) → PW p l e (r0 3) s m args below meth c D cy B 4 0 0 (vx_MQ below (Qp D cy B (growQ μ P T)) (Xp D cy B noX) args s (r0 3).cells (r0 3).slots (fun q => B ≤ q)) 10 [some (.ref (B + 22)), some (iN u), some (iN t), some (iN (900 - k))] [] σ := by
    intro k
    induction k with
    | zero =>
      intro σ n u t _ hN _ _ ht hp
      exact absurd (pot_pos σ (σ 126 u).toNat u t (by have := hN.2.1; omega)) (by omega)
    | succ k ih =>
      intro σ n u t hk hN hT hu ht hp hrun hout
      have h8 := hN.2.1
      have hT1 := hN.2.2.2.1
      obtain ⟨g1, g2, g3, g4, g5, g6, g7, g8, g9, g10⟩ := id hT
      obtain ⟨d, hd1, hd2⟩ := chP_le g4 u hu
      have hu100 : u < 100 := by omega
      have hdn : (σ 126 u).toNat = d := by omega
      rw [hdn] at hp
      have eK : (900 - ((k + 1 : Nat) : Int)) + 1 = 900 - (k : Int) := by omega
      have h7 := g7 u hu
      have UP : (σ 127 u = 1 ∨ (t : Int) = σ 1 1) → PW p l e (r0 3) s m args below meth c D cy B 4 0 0 (vx_MQ below (Qp D cy B (growQ μ P T)) (Xp D cy B noX) args s (r0 3).cells (r0 3).slots (fun q => B ≤ q)) 43 [some (.ref (B + 22)), some (iN u), some (iN t), some (iN (900 - ((k + 1 : Nat) : Int)))] [] σ := by
        intro hup
        by_cases h0 : u = 0
        · subst h0
          refine q_aload_n (pc := 43) C dX2_grow_43 rfl rfl ?_
          refine q_getR (pc := 44) (ci := 2) (k := 6) (r := 125) C rfl fiX2_grow_X2 (by decide) k22 (by decide) rfl (by decide) flX2_grow_20 rfl rfl dX2_grow_44 ?_
          refine q_iload_n (pc := 47) C dX2_grow_47 rfl rfl ?_
          refine q_iaload (pc := 48) C k125 n125 (by decide) (by decide) (by omega) (by omega) dX2_grow_48 ?_
          rw [show ((0 : Nat) : Int) = 0 from rfl, g10]
          refine q_iconst (pc := 49) C dX2_grow_49 ?_
          refine q_iadd (pc := 50) C dX2_grow_50 ?_
          refine q_istore_n (pc := 51) (lv2 := [_, _, _, _]) C dX2_grow_51 rfl (by decide) rfl ?_
          refine q_aload_n (pc := 52) C dX2_grow_52 rfl rfl ?_
          refine q_getR (pc := 53) (ci := 2) (k := 5) (r := 124) C rfl fiX2_grow_X2 (by decide) k22 (by decide) rfl (by decide) flX2_grow_16 rfl rfl dX2_grow_53 ?_
          refine q_iload_n (pc := 56) C dX2_grow_56 rfl rfl ?_
          refine q_iaload (pc := 57) C k124 n124 (by decide) (by decide) (by omega) (by omega) dX2_grow_57 ?_
          rw [g9]
          refine q_istore_n (pc := 58) (lv2 := [_, _, _, _]) C dX2_grow_58 rfl (by decide) rfl ?_
          refine q_goto (pc := 59) (tgt := 110) C dX2_grow_59 (by decide) ?_
          refine q_iinc (pc := 110) (lv2 := [_, _, _, _]) C dX2_grow_110 (by decide) rfl rfl ?_
          refine q_goto (pc := 113) (tgt := 10) C dX2_grow_113 (by decide) ?_
          rw [eK]
          have hend : PW p l e (r0 3) s m args below meth c D cy B 4 0 0 (vx_MQ below (Qp D cy B (growQ μ P T)) (Xp D cy B noX) args s (r0 3).cells (r0 3).slots (fun q => B ≤ q)) 116 [some (.ref (B + 22)), some (iN (-2)), some (iN (-2 + 1)), some (iN (900 - (k : Int)))] [] σ := by
            refine q_iconst (pc := 116) C dX2_grow_116 ?_
            exact q_zret (pc := 117) C hret (by first | exact Or.inl rfl | exact Or.inr rfl | assumption) ⟨σ, n, k, by omega, hN, hT, hout, Or.inl ⟨by rw [← hrun]; unfold runT; rw [if_pos hup, if_pos rfl], rfl, rfl⟩⟩ (by decide) (by decide) dX2_grow_117
          refine q_iload_n (pc := 10) C dX2_grow_10 rfl rfl ?_
          refine q_sipush (pc := 11) C (by decide +kernel) dX2_grow_11 ?_
          refine q_icmp_ge (pc := 14) (tgt := 116) C (by first | exact hR _ _ | exact hRo _ _ | assumption | exact ⟨by omega, by omega⟩) (by first | exact hR _ _ | exact hRo _ _ | assumption | exact ⟨by omega, by omega⟩) dX2_grow_14 (by decide) (fun hq => ?_) (fun hq => ?_)
          · exact hend
          · refine q_iload_n (pc := 17) C dX2_grow_17 rfl rfl ?_
            refine q_bipush (pc := 18) C (by decide +kernel) dX2_grow_18 ?_
            refine q_icmp_eq (pc := 20) (tgt := 116) C (by first | exact hR _ _ | exact hRo _ _ | assumption | exact ⟨by omega, by omega⟩) (by first | exact hR _ _ | exact hRo _ _ | assumption | exact ⟨by omega, by omega⟩) dX2_grow_20 (by decide) (fun hq2 => ?_) (fun hq2 => ?_)
            · exact hend
            · exact absurd rfl hq2
        · rcases g4 u hu with ⟨z, -⟩ | ⟨j, f, hj, z1, z2, z3⟩
          · exact absurd z h0
          · obtain ⟨b, hb1, hb2⟩ := g6 u (by omega) hu
            refine q_aload_n (pc := 43) C dX2_grow_43 rfl rfl ?_
            refine q_getR (pc := 44) (ci := 2) (k := 6) (r := 125) C rfl fiX2_grow_X2 (by decide) k22 (by decide) rfl (by decide) flX2_grow_20 rfl rfl dX2_grow_44 ?_
            refine q_iload_n (pc := 47) C dX2_grow_47 rfl rfl ?_
            refine q_iaload (pc := 48) C k125 n125 (by decide) (by decide) (by omega) (by omega) dX2_grow_48 ?_
            rw [hb1]
            refine q_iconst (pc := 49) C dX2_grow_49 ?_
            refine q_iadd (pc := 50) C dX2_grow_50 ?_
            refine q_istore_n (pc := 51) (lv2 := [_, _, _, _]) C dX2_grow_51 rfl (by decide) rfl ?_
            refine q_aload_n (pc := 52) C dX2_grow_52 rfl rfl ?_
            refine q_getR (pc := 53) (ci := 2) (k := 5) (r := 124) C rfl fiX2_grow_X2 (by decide) k22 (by decide) rfl (by decide) flX2_grow_16 rfl rfl dX2_grow_53 ?_
            refine q_iload_n (pc := 56) C dX2_grow_56 rfl rfl ?_
            refine q_iaload (pc := 57) C k124 n124 (by decide) (by decide) (by omega) (by omega) dX2_grow_57 ?_
            rw [z1]
            refine q_istore_n (pc := 58) (lv2 := [_, _, _, _]) C dX2_grow_58 rfl (by decide) rfl ?_
            refine q_goto (pc := 59) (tgt := 110) C dX2_grow_59 (by decide) ?_
            refine q_iinc (pc := 110) (lv2 := [_, _, _, _]) C dX2_grow_110 (by decide) rfl rfl ?_
            refine q_goto (pc := 113) (tgt := 10) C dX2_grow_113 (by decide) ?_
            rw [eK]
            have hdf : d = f + 1 := by rw [z3] at hd1; omega
            subst hdf
            refine ih σ n j (b + 1) (by omega) hN hT (by omega) (by omega) ?_ ?_ hout
            · rw [show (σ 126 (j : Int)).toNat = f by rw [z2]; rfl]
              unfold pot at hp
              rw [z1, hb1] at hp
              simp only [Int.toNat_natCast] at hp
              omega
            · rw [← hrun, runT, if_pos hup, if_neg h0, z1, hb1]
              rfl
      have EX : ¬ (σ 127 u = 1 ∨ (t : Int) = σ 1 1) → t < T → PW p l e (r0 3) s m args below meth c D cy B 4 0 0 (vx_MQ below (Qp D cy B (growQ μ P T)) (Xp D cy B noX) args s (r0 3).cells (r0 3).slots (fun q => B ≤ q)) 62 [some (.ref (B + 22)), some (iN u), some (iN t), some (iN (900 - ((k + 1 : Nat) : Int)))] [] σ := by
        intro hup htT
        refine q_rng (fun hR => ?_)
        refine q_aload_n (pc := 62) C dX2_grow_62 rfl rfl ?_
        refine q_getR (pc := 63) (ci := 2) (k := 0) (r := 1) C rfl fiX2_grow_X2 (by decide) k22 (by decide) rfl (by decide) flX2_grow_30 rfl rfl dX2_grow_63 ?_
        refine q_aload_n (pc := 66) C dX2_grow_66 rfl rfl ?_
        refine q_getR (pc := 67) (ci := 2) (k := 4) (r := 23) C rfl fiX2_grow_X2 (by decide) k22 (by decide) rfl (by decide) flX2_grow_11 rfl rfl dX2_grow_67 ?_
        refine q_iload_n (pc := 70) C dX2_grow_70 rfl rfl ?_
        first | refine q_aaloadN (pc := 71) C k23 n23 (by decide) (by decide) (by omega) rfl dX2_grow_71 ?_ | refine q_aaload (pc := 71) C k23 n23 (by decide) (by decide) (by omega) (by omega) rfl dX2_grow_71 ?_
        refine q_iload_n (pc := 72) C dX2_grow_72 rfl rfl ?_
        refine q_callV (pc := 73) (As := [_, _]) (rest := []) C (c_enables hlf D cy B (a := 24 + u) (t := t) (k_r23 (by omega)) (n_r23 (by omega)) (l_r23 (by omega)) (by omega)) (cwV 2 C.2.2.2.2.1 gX2_grow_X1_enables rfl rfl rfl (by decide +kernel) ⟨Nat.le_of_ble_eq_true rfl, Nat.le_of_ble_eq_true rfl⟩) (ci := 1) rfl k1 (by decide) (by decide) rfl rfl (by first | decide | simp [Value.category]) dX2_grow_73 (by decide) (fun _ _ h => h.elim) (fun v σ9 hv => ?_)
        obtain ⟨rfl, rfl⟩ := hv
        have hz := bI_01 (∀ q : Nat, q < 6 → σ9 (4 + t) q ≤ σ9 (24 + u) q)
        refine q_if_ne (pc := 76) (tgt := 85) C (by first | exact hR _ _ | exact hRo _ _ | assumption | exact ⟨by omega, by omega⟩) dX2_grow_76 (by decide) (fun hq => ?_) (fun hq => ?_)
        · have hen := bI_1.mp (show bI (∀ q : Nat, q < 6 → σ9 (4 + t) q ≤ σ9 (24 + u) q) = 1 by omega)
          refine q_aload_n (pc := 85) C dX2_grow_85 rfl rfl ?_
          refine q_getI (pc := 86) (ci := 2) (k := 1) (ki := 1) C rfl rfl fiX2_grow_X2 (by decide) k22 (by decide) rfl (by decide) flX2_grow_47 rfl rfl dX2_grow_86 ?_
          rw [g3]
          refine q_bipush (pc := 89) C (by decide +kernel) dX2_grow_89 ?_
          refine q_icmp_ne (pc := 91) (tgt := 101) C (by first | exact hR _ _ | exact hRo _ _ | assumption | exact ⟨by omega, by omega⟩) (by first | exact hR _ _ | exact hRo _ _ | assumption | exact ⟨by omega, by omega⟩) dX2_grow_91 (by decide) (fun hq2 => ?_) (fun hq2 => ?_)
          · have hn : n < 100 := by omega
            refine q_aload_n (pc := 101) C dX2_grow_101 rfl rfl ?_
            refine q_iload_n (pc := 102) C dX2_grow_102 rfl rfl ?_
            refine q_iload_n (pc := 103) C dX2_grow_103 rfl rfl ?_
            refine q_callV (pc := 104) (As := [_, _]) (rest := []) C (c_addChild hlf D cy B (n := n) (u := u) (t := t) hn g3 hu (by omega) g4 (fireV_r hN hT hu htT hen)) (cwV 2 C.2.2.2.2.1 gX2_grow_X2_addChild rfl rfl rfl (by decide +kernel) ⟨Nat.le_of_ble_eq_true rfl, Nat.le_of_ble_eq_true rfl⟩) (ci := 2) rfl k22 (by decide) (by decide) rfl rfl (by first | decide | simp [Value.category]) dX2_grow_104 (by decide) (fun _ _ h => h.elim) (fun v σ8 hv => ?_)
            obtain ⟨rfl, rfl⟩ := hv
            dsimp only [Option.toList, List.cons_append, List.nil_append]
            refine q_istore_n (pc := 107) (lv2 := [_, _, _, _]) C dX2_grow_107 rfl (by decide) rfl ?_
            refine q_iconst (pc := 108) C dX2_grow_108 ?_
            refine q_istore_n (pc := 109) (lv2 := [_, _, _, _]) C dX2_grow_109 rfl (by decide) rfl ?_
            refine q_iinc (pc := 110) (lv2 := [_, _, _, _]) C dX2_grow_110 (by decide) rfl rfl ?_
            refine q_goto (pc := 113) (tgt := 10) C dX2_grow_113 (by decide) ?_
            rw [eK]
            refine ih (chS σ9 n u t) (n + 1) n 0 (by omega) (NI_ch hN hn u t) (TI_ch hN hT hn hu htT hen) (by omega) (by omega) ?_ ?_ (fun x k h1 h2 => by rw [chS_out _ hn _ _ h1 h2]; exact hout x k h1 h2)
            · rw [chS_126 _ hn, if_pos rfl, hd1, show (((d : Nat) : Int) + 1).toNat = d + 1 by omega]
              unfold pot
              rw [chS_124 _ hn, if_pos rfl, chS_125 _ hn, if_pos rfl]
              simp only [Int.toNat_natCast]
              rw [pot_congr g4 (fun i hi => by rw [chS_124 _ hn, if_neg (by omega), chS_125 _ hn, if_neg (by omega)]; exact ⟨rfl, rfl⟩) d u (t + 1) hu hd1]
              have := pot_t σ9 d u t (by omega)
              omega
            · rw [← hrun, runT, if_neg hup, if_pos hen, if_neg (by omega)]
          · refine q_aload_n (pc := 94) C dX2_grow_94 rfl rfl ?_
            refine q_iconst (pc := 95) C dX2_grow_95 ?_
            refine q_put (pc := 96) (ci := 2) (k := 1) (ki := 1) (ty0 := tyX2) C rfl rfl fiX2_grow_X2 (by decide) k22 (by decide) rfl (by decide) flX2_grow_47 rfl tyX2_ok nmX2 rfl rfl rfl (by first | exact hR _ _ | exact hRo _ _ | assumption | exact ⟨by omega, by omega⟩) dX2_grow_96 ?_
            refine q_iconst (pc := 99) C dX2_grow_99 ?_
            exact q_zret (pc := 100) C hret (by first | exact Or.inl rfl | exact Or.inr rfl | assumption) ⟨σ9, n, k, by omega, hN, hT, hout, Or.inr ⟨by rw [← hrun]; unfold runT; rw [if_neg hup, if_pos hen, if_pos (by omega)], rfl, rfl⟩⟩ (by decide) (by decide) dX2_grow_100
        · have hen := bI_0.mp hq
          refine q_iinc (pc := 79) (lv2 := [_, _, _, _]) C dX2_grow_79 (by decide) rfl rfl ?_
          refine q_goto (pc := 82) (tgt := 110) C dX2_grow_82 (by decide) ?_
          refine q_iinc (pc := 110) (lv2 := [_, _, _, _]) C dX2_grow_110 (by decide) rfl rfl ?_
          refine q_goto (pc := 113) (tgt := 10) C dX2_grow_113 (by decide) ?_
          rw [eK]
          refine ih σ9 n u (t + 1) (by omega) hN hT hu (by omega) ?_ ?_ hout
          · rw [hdn]
            have := pot_t σ9 d u t (by omega)
            omega
          · rw [← hrun, runT, if_neg hup, if_neg hen]
      refine q_iload_n (pc := 10) C dX2_grow_10 rfl rfl ?_
      refine q_sipush (pc := 11) C (by decide +kernel) dX2_grow_11 ?_
      refine q_icmp_ge (pc := 14) (tgt := 116) C (by first | exact hR _ _ | exact hRo _ _ | assumption | exact ⟨by omega, by omega⟩) (by first | exact hR _ _ | exact hRo _ _ | assumption | exact ⟨by omega, by omega⟩) dX2_grow_14 (by decide) (fun hq => ?_) (fun hq => ?_)
      · exact absurd hq (by omega)
      · refine q_iload_n (pc := 17) C dX2_grow_17 rfl rfl ?_
        refine q_bipush (pc := 18) C (by decide +kernel) dX2_grow_18 ?_
        refine q_icmp_eq (pc := 20) (tgt := 116) C (by first | exact hR _ _ | exact hRo _ _ | assumption | exact ⟨by omega, by omega⟩) (by first | exact hR _ _ | exact hRo _ _ | assumption | exact ⟨by omega, by omega⟩) dX2_grow_20 (by decide) (fun hq2 => ?_) (fun hq2 => ?_)
        · exact absurd hq2 (by omega)
        · refine q_rng (fun hR => ?_)
          refine q_aload_n (pc := 23) C dX2_grow_23 rfl rfl ?_
          refine q_getR (pc := 24) (ci := 2) (k := 8) (r := 127) C rfl fiX2_grow_X2 (by decide) k22 (by decide) rfl (by decide) flX2_grow_26 rfl rfl dX2_grow_24 ?_
          refine q_iload_n (pc := 27) C dX2_grow_27 rfl rfl ?_
          refine q_baload (pc := 28) C k127 n127 (by decide) (by decide) (by omega) (by omega) dX2_grow_28 ?_
          refine q_if_ne (pc := 29) (tgt := 43) C (by first | exact hR _ _ | exact hRo _ _ | assumption | exact ⟨by omega, by omega⟩) dX2_grow_29 (by decide) (fun hq3 => ?_) (fun hq3 => ?_)
          · exact UP (Or.inl (by omega))
          · refine q_iload_n (pc := 32) C dX2_grow_32 rfl rfl ?_
            refine q_aload_n (pc := 33) C dX2_grow_33 rfl rfl ?_
            refine q_getR (pc := 34) (ci := 2) (k := 0) (r := 1) C rfl fiX2_grow_X2 (by decide) k22 (by decide) rfl (by decide) flX2_grow_30 rfl rfl dX2_grow_34 ?_
            refine q_getIN (pc := 37) (ci := 1) (k := 1) (ki := 1) C rfl rfl fiX2_grow_X1 (by decide) k1 (by decide) rfl (by decide) (by decide +kernel) rfl rfl dX2_grow_37 ?_
            refine q_icmp_ne (pc := 40) (tgt := 62) C (by first | exact hR _ _ | exact hRo _ _ | assumption | exact ⟨by omega, by omega⟩) (by first | exact hR _ _ | exact hRo _ _ | assumption | exact ⟨by omega, by omega⟩) dX2_grow_40 (by decide) (fun hq4 => ?_) (fun hq4 => ?_)
            · exact EX (by rintro (z | z) <;> omega) (by omega)
            · exact UP (Or.inr hq4)
  refine q_aload_n (pc := 0) C dX2_grow_0 rfl rfl ?_
  refine q_callV (pc := 1) (As := []) (rest := []) C (c_addRoot hlf D cy B) (cwV 0 C.2.2.2.2.1 gX2_grow_X2_addRoot rfl rfl rfl (by decide +kernel) ⟨Nat.le_of_ble_eq_true rfl, Nat.le_of_ble_eq_true rfl⟩) (ci := 2) rfl k22 (by decide) (by decide) rfl rfl (by first | decide | simp [Value.category]) dX2_grow_1 (by decide) (fun _ _ h => h.elim) (fun v μ9 hv => ?_)
  have e8 := hv.1
  have e9 := hv.2.symm
  clear hv
  subst e8
  subst e9
  dsimp only [Option.toList, List.cons_append, List.nil_append]
  refine q_iconst (pc := 4) C dX2_grow_4 ?_
  refine q_istore_n (pc := 5) (lv2 := [_, _, _, _]) C dX2_grow_5 rfl (by decide) rfl ?_
  refine q_iconst (pc := 6) C dX2_grow_6 ?_
  refine q_istore_n (pc := 7) (lv2 := [_, _, _, _]) C dX2_grow_7 rfl (by decide) rfl ?_
  refine q_iconst (pc := 8) C dX2_grow_8 ?_
  refine q_istore_n (pc := 9) (lv2 := [_, _, _, _]) C dX2_grow_9 rfl (by decide) rfl ?_
  have e126 : rootS μ 126 0 = 0 := by simp [rootS, updS_ap]
  refine L 900 (rootS μ) 1 0 0 (by omega) (NI_root hN) (TI_root hN) (by omega) (by omega) ?_ rfl (fun x k h1 h2 => rootS_out μ h1 h2 k)
  rw [show ((0 : Nat) : Int) = 0 from rfl, e126]
  show 9 * (100 - 1) + pot (rootS μ) 0 0 0 ≤ 900
  unfold pot
  omega
end
section
theorem fiX2_greatestCount_X2 : ∀ w ∈ u_ws RX2 TX2 9, w ∈ wsX2_greatestCount := by decide +kernel
theorem fiX2_hasNodeCovering_X2 : ∀ w ∈ u_ws RX2 TX2 9, w ∈ wsX2_hasNodeCovering := by decide +kernel
theorem fiX2_hasNodeEnabling_X1 : ∀ w ∈ u_ws RX1 TX1 5, w ∈ wsX2_hasNodeEnabling := by decide +kernel
theorem fiX2_hasNodeEnabling_X2 : ∀ w ∈ u_ws RX2 TX2 9, w ∈ wsX2_hasNodeEnabling := by decide +kernel
theorem fiX2_stepToFirstEndless_X2 : ∀ w ∈ u_ws RX2 TX2 9, w ∈ wsX2_stepToFirstEndless := by decide +kernel
theorem flX2_greatestCount_47 : Cond.fieldLink RX2 47 RX2 (TX2 1).2.1 (TX2 1).2.2.1 ∈ wsX2_greatestCount := by decide +kernel
theorem flX2_greatestCount_11 : Cond.fieldLink RX2 11 RX2 (TX2 4).2.1 (TX2 4).2.2.1 ∈ wsX2_greatestCount := by decide +kernel
theorem flX2_hasNodeCovering_47 : Cond.fieldLink RX2 47 RX2 (TX2 1).2.1 (TX2 1).2.2.1 ∈ wsX2_hasNodeCovering := by decide +kernel
theorem flX2_hasNodeCovering_11 : Cond.fieldLink RX2 11 RX2 (TX2 4).2.1 (TX2 4).2.2.1 ∈ wsX2_hasNodeCovering := by decide +kernel
theorem flX2_hasNodeEnabling_30 : Cond.fieldLink RX2 30 RX2 (TX2 0).2.1 (TX2 0).2.2.1 ∈ wsX2_hasNodeEnabling := by decide +kernel
theorem flX2_stepToFirstEndless_61 : Cond.fieldLink RX2 61 RX2 (TX2 2).2.1 (TX2 2).2.2.1 ∈ wsX2_stepToFirstEndless := by decide +kernel
theorem flX2_stepToFirstEndless_16 : Cond.fieldLink RX2 16 RX2 (TX2 5).2.1 (TX2 5).2.2.1 ∈ wsX2_stepToFirstEndless := by decide +kernel
theorem flX2_stepToFirstEndless_20 : Cond.fieldLink RX2 20 RX2 (TX2 6).2.1 (TX2 6).2.2.1 ∈ wsX2_stepToFirstEndless := by decide +kernel
theorem flX2_stepToFirstEndless_23 : Cond.fieldLink RX2 23 RX2 (TX2 7).2.1 (TX2 7).2.2.1 ∈ wsX2_stepToFirstEndless := by decide +kernel
def gmax (f : Nat → Int) : Nat → Int
  | 0 => 0
  | i + 1 => if gmax f i < f i then f i else gmax f i
theorem gmax_r {f : Nat → Int} (h : ∀ i, InR (f i)) : ∀ i, InR (gmax f i)
  | 0 => r_0
  | i + 1 => by
    unfold gmax
    split
    · exact h i
    · exact gmax_r h i
set_option maxHeartbeats 4000000 in
set_option maxRecDepth 100000 in
theorem c_greatest {l : Launch} (hlf : l.stackTraces = false) (D : va_G) (cy : Nat → ClassId) (B : Nat) {μ : St} {n : Nat} {p0 : Int} (hn : n ≤ 100) (hs : μ 22 1 = n) (h0 : 0 ≤ p0) (h6 : p0 < 6) : PC l D cy B yX2_greatestCount wsX2_greatestCount (r0 1) [.ref (B + 22), iN p0] μ (ret1 (gmax (fun i => μ (24 + i) p0) n) μ) noX := by
  refine PC.pre (fun hR => ?_)
  refine q_start (cc := cX2_greatestCount) (maxL := 4) (ret := (some .int)) hlf (by decide +kernel) rfl (by simp [Value.category]) (Nat.le_of_ble_eq_true rfl) ?_
  intro p e s m args below meth c C hret hno
  show PW p l e (r0 1) s m args below meth c D cy B 4 0 0 _ 0 [some (.ref (B + 22)), some (iN p0), none, none] [] μ
  have L : ∀ i : Nat, i ≤ n → PW p l e (r0 1) s m args below meth c D cy B 4 0 0 (vx_MQ below (Qp D cy B (ret1 (gmax (fun i => μ (24 + i) p0) n) μ)) (Xp D cy B noX) args s (r0 1).cells (r0 1).slots (fun q => B ≤ q)) 4 [some (.ref (B + 22)), some (iN p0), some (iN (gmax (fun i => μ (24 + i) p0) i)), some (iN i)] [] μ := by
    refine up_to n _ (fun i hi ih => ?_)
    have hg : InR (gmax (fun i => μ (24 + i) p0) i) := gmax_r (fun j => hR _ _) i
    refine q_iload_n (pc := 4) C dX2_greatestCount_4 rfl rfl ?_
    refine q_aload_n (pc := 5) C dX2_greatestCount_5 rfl rfl ?_
    refine q_getI (pc := 6) (ci := 2) (k := 1) (ki := 1) C rfl rfl fiX2_greatestCount_X2 (by decide) k22 (by decide) rfl (by decide) flX2_greatestCount_47 rfl rfl dX2_greatestCount_6 ?_
    refine q_icmp_ge (pc := 9) (tgt := 31) C (by first | exact hR _ _ | exact hRo _ _ | assumption | exact ⟨by omega, by omega⟩) (by first | exact hR _ _ | exact hRo _ _ | assumption | exact ⟨by omega, by omega⟩) dX2_greatestCount_9 (by decide) (fun hc => ?_) (fun hc => ?_)
    · have e : i = n := by omega
      subst e
      refine q_iload_n (pc := 31) C dX2_greatestCount_31 rfl rfl ?_
      exact q_iret (pc := 32) C hret ⟨rfl, rfl⟩ (by decide) (by decide) dX2_greatestCount_32
    · refine q_iload_n (pc := 12) C dX2_greatestCount_12 rfl rfl ?_
      refine q_aload_n (pc := 13) C dX2_greatestCount_13 rfl rfl ?_
      refine q_getR (pc := 14) (ci := 2) (k := 4) (r := 23) C rfl fiX2_greatestCount_X2 (by decide) k22 (by decide) rfl (by decide) flX2_greatestCount_11 rfl rfl dX2_greatestCount_14 ?_
      refine q_iload_n (pc := 17) C dX2_greatestCount_17 rfl rfl ?_
      first | refine q_aaloadN (pc := 18) C k23 n23 (by decide) (by decide) (by omega) rfl dX2_greatestCount_18 ?_ | refine q_aaload (pc := 18) C k23 n23 (by decide) (by decide) (by omega) (by omega) rfl dX2_greatestCount_18 ?_
      refine q_iload_n (pc := 19) C dX2_greatestCount_19 rfl rfl ?_
      refine q_iaload (pc := 20) C (k_r23 (by omega)) (n_r23 (by omega)) (by decide) (l_r23 (by omega)) (by omega) (by omega) dX2_greatestCount_20 ?_
      refine q_mmax (pc := 21) C (by first | exact hR _ _ | exact hRo _ _ | assumption | exact ⟨by omega, by omega⟩) (by first | exact hR _ _ | exact hRo _ _ | assumption | exact ⟨by omega, by omega⟩) (by decide +kernel) (by decide +kernel) (by decide +kernel) (by decide +kernel) (Nat.le_of_ble_eq_true rfl) (Nat.le_of_ble_eq_true rfl) (by decide) (by decide) dX2_greatestCount_21 ?_
      refine q_istore_n (pc := 24) (lv2 := [_, _, _, _]) C dX2_greatestCount_24 rfl (by decide) rfl ?_
      refine q_iinc (pc := 25) (lv2 := [_, _, _, _]) C dX2_greatestCount_25 (by decide) rfl rfl ?_
      refine q_goto (pc := 28) (tgt := 4) C dX2_greatestCount_28 (by decide) ?_
      exact ih (by omega)
  refine q_iconst (pc := 0) C dX2_greatestCount_0 ?_
  refine q_istore_n (pc := 1) (lv2 := [_, _, _, _]) C dX2_greatestCount_1 rfl (by decide) rfl ?_
  refine q_iconst (pc := 2) C dX2_greatestCount_2 ?_
  refine q_istore_n (pc := 3) (lv2 := [_, _, _, _]) C dX2_greatestCount_3 rfl (by decide) rfl ?_
  exact L 0 (by omega)
set_option maxHeartbeats 4000000 in
set_option maxRecDepth 100000 in
theorem c_covering {l : Launch} (hlf : l.stackTraces = false) (D : va_G) (cy : Nat → ClassId) (B : Nat) {μ : St} {n a : Nat} (hn : n ≤ 100) (hs : μ 22 1 = n) (ka : kd a = 5) (na : ln a = 6) (la : a < 233) : PC l D cy B yX2_hasNodeCovering wsX2_hasNodeCovering (r0 1) [.ref (B + 22), .ref (B + a)] μ (ret1 (bI (∃ i : Nat, i < n ∧ ∀ q : Nat, q < 6 → μ a q ≤ μ (24 + i) q)) μ) noX := by
  refine PC.pre (fun hR => ?_)
  refine q_start (cc := cX2_hasNodeCovering) (maxL := 3) (ret := (some .boolean)) hlf (by decide +kernel) rfl (by simp [Value.category]) (Nat.le_of_ble_eq_true rfl) ?_
  intro p e s m args below meth c C hret hno
  show PW p l e (r0 1) s m args below meth c D cy B 3 0 0 _ 0 [some (.ref (B + 22)), some (.ref (B + a)), none] [] μ
  have L : ∀ i : Nat, i ≤ n → (∀ j : Nat, j < i → ¬ ∀ q : Nat, q < 6 → μ a q ≤ μ (24 + j) q) → PW p l e (r0 1) s m args below meth c D cy B 3 0 0 (vx_MQ below (Qp D cy B (ret1 (bI (∃ i : Nat, i < n ∧ ∀ q : Nat, q < 6 → μ a q ≤ μ (24 + i) q)) μ)) (Xp D cy B noX) args s (r0 1).cells (r0 1).slots (fun q => B ≤ q)) 2 [some (.ref (B + 22)), some (.ref (B + a)), some (iN i)] [] μ := by
    refine up_to n _ (fun i hi ih hI => ?_)
    refine q_iload_n (pc := 2) C dX2_hasNodeCovering_2 rfl rfl ?_
    refine q_aload_n (pc := 3) C dX2_hasNodeCovering_3 rfl rfl ?_
    refine q_getI (pc := 4) (ci := 2) (k := 1) (ki := 1) C rfl rfl fiX2_hasNodeCovering_X2 (by decide) k22 (by decide) rfl (by decide) flX2_hasNodeCovering_47 rfl rfl dX2_hasNodeCovering_4 ?_
    refine q_icmp_ge (pc := 7) (tgt := 31) C (by first | exact hR _ _ | exact hRo _ _ | assumption | exact ⟨by omega, by omega⟩) (by first | exact hR _ _ | exact hRo _ _ | assumption | exact ⟨by omega, by omega⟩) dX2_hasNodeCovering_7 (by decide) (fun hc => ?_) (fun hc => ?_)
    · refine q_iconst (pc := 31) C dX2_hasNodeCovering_31 ?_
      exact q_zret (pc := 32) C hret (by first | exact Or.inl rfl | exact Or.inr rfl | assumption) ⟨by rw [bI_f (fun z => by obtain ⟨j, hj, z⟩ := z; exact hI j (by omega) z)], rfl⟩ (by decide) (by decide) dX2_hasNodeCovering_32
    · refine q_aload_n (pc := 10) C dX2_hasNodeCovering_10 rfl rfl ?_
      refine q_getR (pc := 11) (ci := 2) (k := 4) (r := 23) C rfl fiX2_hasNodeCovering_X2 (by decide) k22 (by decide) rfl (by decide) flX2_hasNodeCovering_11 rfl rfl dX2_hasNodeCovering_11 ?_
      refine q_iload_n (pc := 14) C dX2_hasNodeCovering_14 rfl rfl ?_
      first | refine q_aaloadN (pc := 15) C k23 n23 (by decide) (by decide) (by omega) rfl dX2_hasNodeCovering_15 ?_ | refine q_aaload (pc := 15) C k23 n23 (by decide) (by decide) (by omega) (by omega) rfl dX2_hasNodeCovering_15 ?_
      refine q_aload_n (pc := 16) C dX2_hasNodeCovering_16 rfl rfl ?_
      refine q_callSN (pc := 17) (As := [_, _]) (rest := []) C (c_covers hlf D cy B (a := 24 + i) (b := a) (k_r23 (by omega)) (n_r23 (by omega)) (l_r23 (by omega)) ka na la) ⟨va_cnB (host := "CoverTrees") (index := 76) 2 C.2.2.2.2.1 gX2_hasNodeCovering_X3_covers_n76 rfl rfl rfl (C.2.2.2.2.2.1.2.2.1 (RX2, 76, yX3_covers) (by decide +kernel)) (C.2.2.2.2.1 _ (by decide +kernel)) (by decide +kernel) ⟨Nat.le_of_ble_eq_true rfl, Nat.le_of_ble_eq_true rfl⟩, C.2.2.2.2.1 _ (by decide +kernel), trivial⟩ rfl rfl (by first | decide | simp [Value.category]) dX2_hasNodeCovering_17 (by decide) (fun _ _ h => h.elim) (fun v μ9 hv => ?_)
      have e8 := hv.1
      have e9 := hv.2.symm
      clear hv
      subst e8
      subst e9
      dsimp only [Option.toList, List.cons_append, List.nil_append]
      have hz := bI_01 (∀ q : Nat, q < 6 → μ a q ≤ μ (24 + i) q)
      refine q_if_eq (pc := 20) (tgt := 25) C (by first | exact hR _ _ | exact hRo _ _ | assumption | exact ⟨by omega, by omega⟩) dX2_hasNodeCovering_20 (by decide) (fun hd => ?_) (fun hd => ?_)
      · refine q_iinc (pc := 25) (lv2 := [_, _, _]) C dX2_hasNodeCovering_25 (by decide) rfl rfl ?_
        refine q_goto (pc := 28) (tgt := 2) C dX2_hasNodeCovering_28 (by decide) ?_
        refine ih (by omega) (fun j hj => ?_)
        by_cases e : j = i
        · rw [e]; exact bI_0.mp hd
        · exact hI j (by omega)
      · refine q_iconst (pc := 23) C dX2_hasNodeCovering_23 ?_
        exact q_zret (pc := 24) C hret (by first | exact Or.inl rfl | exact Or.inr rfl | assumption) ⟨by rw [bI_t ⟨i, by omega, bI_1.mp (by omega)⟩], rfl⟩ (by decide) (by decide) dX2_hasNodeCovering_24
  refine q_iconst (pc := 0) C dX2_hasNodeCovering_0 ?_
  refine q_istore_n (pc := 1) (lv2 := [_, _, _]) C dX2_hasNodeCovering_1 rfl (by decide) rfl ?_
  exact L 0 (by omega) (fun j hj => absurd hj (by omega))
set_option maxHeartbeats 4000000 in
set_option maxRecDepth 100000 in
theorem c_enabling {l : Launch} (hlf : l.stackTraces = false) (D : va_G) (cy : Nat → ClassId) (B : Nat) {μ : St} {n t : Nat} (hn : n ≤ 100) (hs : μ 22 1 = n) (ht : t < 8) : PC l D cy B yX2_hasNodeEnabling wsX2_hasNodeEnabling (r0 2) [.ref (B + 22), iN t] μ (ret1 (bI (∃ i : Nat, i < n ∧ ∀ q : Nat, q < 6 → μ (4 + t) q ≤ μ (24 + i) q)) μ) noX := by
  refine PC.pre (fun hR => ?_)
  refine q_start (cc := cX2_hasNodeEnabling) (maxL := 2) (ret := (some .boolean)) hlf (by decide +kernel) rfl (by simp [Value.category]) (Nat.le_of_ble_eq_true rfl) ?_
  intro p e s m args below meth c C hret hno
  show PW p l e (r0 2) s m args below meth c D cy B 2 0 0 _ 0 [some (.ref (B + 22)), some (iN t)] [] μ
  refine q_aload_n (pc := 0) C dX2_hasNodeEnabling_0 rfl rfl ?_
  refine q_aload_n (pc := 1) C dX2_hasNodeEnabling_1 rfl rfl ?_
  refine q_getR (pc := 2) (ci := 2) (k := 0) (r := 1) C rfl fiX2_hasNodeEnabling_X2 (by decide) k22 (by decide) rfl (by decide) flX2_hasNodeEnabling_30 rfl rfl dX2_hasNodeEnabling_2 ?_
  refine q_getRN (pc := 5) (ci := 1) (k := 3) (r := 3) C rfl fiX2_hasNodeEnabling_X1 (by decide) k1 (by decide) rfl (by decide) (by decide +kernel) rfl rfl dX2_hasNodeEnabling_5 ?_
  refine q_iload_n (pc := 8) C dX2_hasNodeEnabling_8 rfl rfl ?_
  first | refine q_aaloadN (pc := 9) C k3 n3 (by decide) (by decide) (by omega) rfl dX2_hasNodeEnabling_9 ?_ | refine q_aaload (pc := 9) C k3 n3 (by decide) (by decide) (by omega) (by omega) rfl dX2_hasNodeEnabling_9 ?_
  refine q_callV (pc := 10) (As := [_]) (rest := []) C (c_covering hlf D cy B (n := n) (a := 4 + t) hn hs (k_r3 ht) (n_r3 ht) (l_r3 ht)) (cwV 1 C.2.2.2.2.1 gX2_hasNodeEnabling_X2_hasNodeCovering rfl rfl rfl (by decide +kernel) ⟨Nat.le_of_ble_eq_true rfl, Nat.le_of_ble_eq_true rfl⟩) (ci := 2) rfl k22 (by decide) (by decide) rfl rfl (by first | decide | simp [Value.category]) dX2_hasNodeEnabling_10 (by decide) (fun _ _ h => h.elim) (fun v μ9 hv => ?_)
  have e8 := hv.1
  have e9 := hv.2.symm
  clear hv
  subst e8
  subst e9
  dsimp only [Option.toList, List.cons_append, List.nil_append]
  have hz := bI_01 (∃ i : Nat, i < n ∧ ∀ q : Nat, q < 6 → μ (4 + t) q ≤ μ (24 + i) q)
  exact q_zret (pc := 13) C hret (by first | exact Or.inl rfl | exact Or.inr rfl | assumption) ⟨rfl, rfl⟩ (by decide) (by decide) dX2_hasNodeEnabling_13
def upN (μ : St) : Nat → Nat → Nat
  | 0, u => u
  | k + 1, u => upN μ k (μ 124 u).toNat
theorem upN_succ (μ : St) (k u : Nat) : upN μ (k + 1) u = upN μ k (μ 124 u).toNat := rfl
set_option maxHeartbeats 4000000 in
set_option maxRecDepth 100000 in
theorem c_step {l : Launch} (hlf : l.stackTraces = false) (D : va_G) (cy : Nat → ClassId) (B : Nat) {μ : St} {n f d k : Nat} (hn : n ≤ 100) (hf : f < n) (hfe : μ 22 2 = f) (hch : chP μ n) (hd : μ 126 f = d) (hk : k < 2147483648) : PC l D cy B yX2_stepToFirstEndless wsX2_stepToFirstEndless (r0 0) [.ref (B + 22), iN k] μ (ret1 (if d ≤ k then -1 else μ 125 (upN μ (d - (k + 1)) f)) μ) noX := by
  refine PC.pre (fun hR => ?_)
  refine q_start (cc := cX2_stepToFirstEndless) (maxL := 4) (ret := (some .int)) hlf (by decide +kernel) rfl (by simp [Value.category]) (Nat.le_of_ble_eq_true rfl) ?_
  intro p e s m args below meth c C hret hno
  show PW p l e (r0 0) s m args below meth c D cy B 4 0 0 _ 0 [some (.ref (B + 22)), some (iN k), none, none] [] μ
  obtain ⟨d9, hd1, hd2⟩ := chP_le hch f hf
  have hd100 : d < 100 := by omega
  have L : ∀ (j u : Nat), u < n → μ 126 u = ((k + 1 + j : Nat) : Int) → upN μ j u = upN μ (d - (k + 1)) f → k + 1 + j ≤ 100 → ¬ d ≤ k → PW p l e (r0 0) s m args below meth c D cy B 4 0 0 (vx_MQ below (Qp D cy B (ret1 (if d ≤ k then -1 else μ 125 (upN μ (d - (k + 1)) f)) μ)) (Xp D cy B noX) args s (r0 0).cells (r0 0).slots (fun q => B ≤ q)) 24 [some (.ref (B + 22)), some (iN k), some (iN u), some (iN ((k + 1 + j : Nat) : Int))] [] μ := by
    intro j
    induction j with
    | zero =>
      intro u hu hdu hup hkj hdk
      refine q_iload_n (pc := 24) C dX2_stepToFirstEndless_24 rfl rfl ?_
      refine q_iload_n (pc := 25) C dX2_stepToFirstEndless_25 rfl rfl ?_
      refine q_iconst (pc := 26) C dX2_stepToFirstEndless_26 ?_
      refine q_iadd (pc := 27) C dX2_stepToFirstEndless_27 ?_
      refine q_icmp_le (pc := 28) (tgt := 44) C (by first | exact hR _ _ | exact hRo _ _ | assumption | exact ⟨by omega, by omega⟩) (by first | exact hR _ _ | exact hRo _ _ | assumption | exact ⟨by omega, by omega⟩) dX2_stepToFirstEndless_28 (by decide) (fun hc => ?_) (fun hc => ?_)
      · refine q_aload_n (pc := 44) C dX2_stepToFirstEndless_44 rfl rfl ?_
        refine q_getR (pc := 45) (ci := 2) (k := 6) (r := 125) C rfl fiX2_stepToFirstEndless_X2 (by decide) k22 (by decide) rfl (by decide) flX2_stepToFirstEndless_20 rfl rfl dX2_stepToFirstEndless_45 ?_
        refine q_iload_n (pc := 48) C dX2_stepToFirstEndless_48 rfl rfl ?_
        refine q_iaload (pc := 49) C k125 n125 (by decide) (by decide) (by omega) (by omega) dX2_stepToFirstEndless_49 ?_
        exact q_iret (pc := 50) C hret ⟨by rw [if_neg hdk, ← hup]; rfl, rfl⟩ (by decide) (by decide) dX2_stepToFirstEndless_50
      · exact absurd hc (by omega)
    | succ j ih =>
      intro u hu hdu hup hkj hdk
      rcases hch u hu with ⟨-, z⟩ | ⟨i, e1, hi, z1, z2, z3⟩
      · rw [z] at hdu; omega
      refine q_iload_n (pc := 24) C dX2_stepToFirstEndless_24 rfl rfl ?_
      refine q_iload_n (pc := 25) C dX2_stepToFirstEndless_25 rfl rfl ?_
      refine q_iconst (pc := 26) C dX2_stepToFirstEndless_26 ?_
      refine q_iadd (pc := 27) C dX2_stepToFirstEndless_27 ?_
      refine q_icmp_le (pc := 28) (tgt := 44) C (by first | exact hR _ _ | exact hRo _ _ | assumption | exact ⟨by omega, by omega⟩) (by first | exact hR _ _ | exact hRo _ _ | assumption | exact ⟨by omega, by omega⟩) dX2_stepToFirstEndless_28 (by decide) (fun hc => ?_) (fun hc => ?_)
      · exact absurd hc (by omega)
      · refine q_aload_n (pc := 31) C dX2_stepToFirstEndless_31 rfl rfl ?_
        refine q_getR (pc := 32) (ci := 2) (k := 5) (r := 124) C rfl fiX2_stepToFirstEndless_X2 (by decide) k22 (by decide) rfl (by decide) flX2_stepToFirstEndless_16 rfl rfl dX2_stepToFirstEndless_32 ?_
        refine q_iload_n (pc := 35) C dX2_stepToFirstEndless_35 rfl rfl ?_
        refine q_iaload (pc := 36) C k124 n124 (by decide) (by decide) (by omega) (by omega) dX2_stepToFirstEndless_36 ?_
        rw [z1]
        refine q_istore_n (pc := 37) (lv2 := [_, _, _, _]) C dX2_stepToFirstEndless_37 rfl (by decide) rfl ?_
        refine q_iinc (pc := 38) (lv2 := [_, _, _, _]) C dX2_stepToFirstEndless_38 (by decide) rfl rfl ?_
        refine q_goto (pc := 41) (tgt := 24) C dX2_stepToFirstEndless_41 (by decide) ?_
        rw [show ((k + 1 + (j + 1) : Nat) : Int) + -1 = ((k + 1 + j : Nat) : Int) by omega]
        refine ih i (by omega) (by rw [z2]; rw [z3] at hdu; omega) ?_ (by omega) hdk
        rw [← hup, upN_succ, z1]
        rfl
  refine q_aload_n (pc := 0) C dX2_stepToFirstEndless_0 rfl rfl ?_
  refine q_getI (pc := 1) (ci := 2) (k := 2) (ki := 2) C rfl rfl fiX2_stepToFirstEndless_X2 (by decide) k22 (by decide) rfl (by decide) flX2_stepToFirstEndless_61 rfl rfl dX2_stepToFirstEndless_1 ?_
  rw [hfe]
  refine q_istore_n (pc := 4) (lv2 := [_, _, _, _]) C dX2_stepToFirstEndless_4 rfl (by decide) rfl ?_
  refine q_iload_n (pc := 5) C dX2_stepToFirstEndless_5 rfl rfl ?_
  refine q_aload_n (pc := 6) C dX2_stepToFirstEndless_6 rfl rfl ?_
  refine q_getR (pc := 7) (ci := 2) (k := 7) (r := 126) C rfl fiX2_stepToFirstEndless_X2 (by decide) k22 (by decide) rfl (by decide) flX2_stepToFirstEndless_23 rfl rfl dX2_stepToFirstEndless_7 ?_
  refine q_iload_n (pc := 10) C dX2_stepToFirstEndless_10 rfl rfl ?_
  refine q_iaload (pc := 11) C k126 n126 (by decide) (by decide) (by omega) (by omega) dX2_stepToFirstEndless_11 ?_
  rw [hd]
  refine q_icmp_lt (pc := 12) (tgt := 17) C (by first | exact hR _ _ | exact hRo _ _ | assumption | exact ⟨by omega, by omega⟩) (by first | exact hR _ _ | exact hRo _ _ | assumption | exact ⟨by omega, by omega⟩) dX2_stepToFirstEndless_12 (by decide) (fun hc => ?_) (fun hc => ?_)
  · have hdk : k + 1 + (d - (k + 1)) = d := by omega
    refine q_aload_n (pc := 17) C dX2_stepToFirstEndless_17 rfl rfl ?_
    refine q_getR (pc := 18) (ci := 2) (k := 7) (r := 126) C rfl fiX2_stepToFirstEndless_X2 (by decide) k22 (by decide) rfl (by decide) flX2_stepToFirstEndless_23 rfl rfl dX2_stepToFirstEndless_18 ?_
    refine q_iload_n (pc := 21) C dX2_stepToFirstEndless_21 rfl rfl ?_
    refine q_iaload (pc := 22) C k126 n126 (by decide) (by decide) (by omega) (by omega) dX2_stepToFirstEndless_22 ?_
    rw [hd]
    refine q_istore_n (pc := 23) (lv2 := [_, _, _, _]) C dX2_stepToFirstEndless_23 rfl (by decide) rfl ?_
    rw [show (d : Int) = ((k + 1 + (d - (k + 1)) : Nat) : Int) by omega]
    exact L (d - (k + 1)) f hf (by rw [hd]; omega) rfl (by omega) (by omega)
  · refine q_iconst (pc := 15) C dX2_stepToFirstEndless_15 ?_
    exact q_iret (pc := 16) C hret ⟨by rw [if_pos (by omega)], rfl⟩ (by decide) (by decide) dX2_stepToFirstEndless_16
end
section
theorem fiX0_addState_X0 : ∀ w ∈ u_ws RX0 TX0 9, w ∈ wsX0_addState := by decide +kernel
theorem fiX0_aheadOfNext_X0 : ∀ w ∈ u_ws RX0 TX0 9, w ∈ wsX0_aheadOfNext := by decide +kernel
theorem fiX0_aheadOfNext_X1 : ∀ w ∈ u_ws RX1 TX1 5, w ∈ wsX0_aheadOfNext := by decide +kernel
theorem fiX0_countStops_X0 : ∀ w ∈ u_ws RX0 TX0 9, w ∈ wsX0_countStops := by decide +kernel
theorem fiX0_enabledIn_X0 : ∀ w ∈ u_ws RX0 TX0 9, w ∈ wsX0_enabledIn := by decide +kernel
theorem fiX0_enabledIn_X1 : ∀ w ∈ u_ws RX1 TX1 5, w ∈ wsX0_enabledIn := by decide +kernel
theorem fiX0_stateOf_X0 : ∀ w ∈ u_ws RX0 TX0 9, w ∈ wsX0_stateOf := by decide +kernel
theorem fiX0_staysPossible_X0 : ∀ w ∈ u_ws RX0 TX0 9, w ∈ wsX0_staysPossible := by decide +kernel
theorem flX0_addState_48 : Cond.fieldLink RX0 48 RX0 (TX0 1).2.1 (TX0 1).2.2.1 ∈ wsX0_addState := by decide +kernel
theorem flX0_addState_11 : Cond.fieldLink RX0 11 RX0 (TX0 2).2.1 (TX0 2).2.2.1 ∈ wsX0_addState := by decide +kernel
theorem flX0_addState_19 : Cond.fieldLink RX0 19 RX0 (TX0 4).2.1 (TX0 4).2.2.1 ∈ wsX0_addState := by decide +kernel
theorem flX0_addState_23 : Cond.fieldLink RX0 23 RX0 (TX0 5).2.1 (TX0 5).2.2.1 ∈ wsX0_addState := by decide +kernel
theorem flX0_addState_26 : Cond.fieldLink RX0 26 RX0 (TX0 6).2.1 (TX0 6).2.2.1 ∈ wsX0_addState := by decide +kernel
theorem flX0_addState_32 : Cond.fieldLink RX0 32 RX0 (TX0 8).2.1 (TX0 8).2.2.1 ∈ wsX0_addState := by decide +kernel
theorem flX0_aheadOfNext_35 : Cond.fieldLink RX0 35 RX0 (TX0 0).2.1 (TX0 0).2.2.1 ∈ wsX0_aheadOfNext := by decide +kernel
theorem flX0_aheadOfNext_16 : Cond.fieldLink RX0 16 RX0 (TX0 3).2.1 (TX0 3).2.2.1 ∈ wsX0_aheadOfNext := by decide +kernel
theorem flX0_aheadOfNext_29 : Cond.fieldLink RX0 29 RX0 (TX0 7).2.1 (TX0 7).2.2.1 ∈ wsX0_aheadOfNext := by decide +kernel
theorem flX0_countStops_48 : Cond.fieldLink RX0 48 RX0 (TX0 1).2.1 (TX0 1).2.2.1 ∈ wsX0_countStops := by decide +kernel
theorem flX0_enabledIn_35 : Cond.fieldLink RX0 35 RX0 (TX0 0).2.1 (TX0 0).2.2.1 ∈ wsX0_enabledIn := by decide +kernel
theorem flX0_enabledIn_16 : Cond.fieldLink RX0 16 RX0 (TX0 3).2.1 (TX0 3).2.2.1 ∈ wsX0_enabledIn := by decide +kernel
theorem flX0_stateOf_48 : Cond.fieldLink RX0 48 RX0 (TX0 1).2.1 (TX0 1).2.2.1 ∈ wsX0_stateOf := by decide +kernel
theorem flX0_stateOf_11 : Cond.fieldLink RX0 11 RX0 (TX0 2).2.1 (TX0 2).2.2.1 ∈ wsX0_stateOf := by decide +kernel
theorem flX0_staysPossible_48 : Cond.fieldLink RX0 48 RX0 (TX0 1).2.1 (TX0 1).2.2.1 ∈ wsX0_staysPossible := by decide +kernel
theorem flX0_staysPossible_29 : Cond.fieldLink RX0 29 RX0 (TX0 7).2.1 (TX0 7).2.2.1 ∈ wsX0_staysPossible := by decide +kernel
def fnd (Pf : Nat → Prop) [DecidablePred Pf] : Nat → Nat → Int
  | 0, _ => -2
  | k + 1, i => if Pf i then i else fnd Pf k (i + 1)
theorem fnd_spec (Pf : Nat → Prop) [DecidablePred Pf] : ∀ (k i : Nat), (fnd Pf k i = -2 ∧ ∀ j, i ≤ j → j < i + k → ¬ Pf j) ∨ ∃ j, i ≤ j ∧ j < i + k ∧ fnd Pf k i = j ∧ Pf j ∧ ∀ z, i ≤ z → z < j → ¬ Pf z
  | 0, i => Or.inl ⟨rfl, fun j h1 h2 => absurd h2 (by omega)⟩
  | k + 1, i => by
    unfold fnd
    split
    · exact Or.inr ⟨i, by omega, by omega, rfl, by assumption, fun z h1 h2 => absurd h2 (by omega)⟩
    · rename_i hn
      rcases fnd_spec Pf k (i + 1) with ⟨h1, h2⟩ | ⟨j, h1, h2, h3, h4, h5⟩
      · refine Or.inl ⟨h1, fun j h3 h4 => ?_⟩
        by_cases h : j = i
        · rw [h]; exact hn
        · exact h2 j (by omega) (by omega)
      · refine Or.inr ⟨j, by omega, by omega, h3, h4, fun z h6 h7 => ?_⟩
        by_cases h : z = i
        · rw [h]; exact hn
        · exact h5 z (by omega) h7
def fndS (μ : St) (g a : Nat) : Int := fnd (fun i => ∀ q : Nat, q < 6 → μ (130 + i) q = μ a q) g 0
set_option maxHeartbeats 4000000 in
set_option maxRecDepth 100000 in
theorem c_stateOf {l : Launch} (hlf : l.stackTraces = false) (D : va_G) (cy : Nat → ClassId) (B : Nat) {μ : St} {g a : Nat} (hg : g ≤ 40) (hs : μ 128 1 = g) (ka : kd a = 5) (na : ln a = 6) (la : a < 233) : PC l D cy B yX0_stateOf wsX0_stateOf (r0 1) [.ref (B + 128), .ref (B + a)] μ (ret1 (fndS μ g a) μ) noX := by
  refine PC.pre (fun hR => ?_)
  refine q_start (cc := cX0_stateOf) (maxL := 3) (ret := (some .int)) hlf (by decide +kernel) rfl (by simp [Value.category]) (Nat.le_of_ble_eq_true rfl) ?_
  intro p e s m args below meth c C hret hno
  show PW p l e (r0 1) s m args below meth c D cy B 3 0 0 _ 0 [some (.ref (B + 128)), some (.ref (B + a)), none] [] μ
  have L : ∀ i : Nat, i ≤ g → fnd (fun i => ∀ q : Nat, q < 6 → μ (130 + i) q = μ a q) (g - i) i = fndS μ g a → PW p l e (r0 1) s m args below meth c D cy B 3 0 0 (vx_MQ below (Qp D cy B (ret1 (fndS μ g a) μ)) (Xp D cy B noX) args s (r0 1).cells (r0 1).slots (fun q => B ≤ q)) 2 [some (.ref (B + 128)), some (.ref (B + a)), some (iN i)] [] μ := by
    refine up_to g _ (fun i hi ih hI => ?_)
    refine q_iload_n (pc := 2) C dX0_stateOf_2 rfl rfl ?_
    refine q_aload_n (pc := 3) C dX0_stateOf_3 rfl rfl ?_
    refine q_getI (pc := 4) (ci := 0) (k := 1) (ki := 1) C rfl rfl fiX0_stateOf_X0 (by decide) k128 (by decide) rfl (by decide) flX0_stateOf_48 rfl rfl dX0_stateOf_4 ?_
    refine q_icmp_ge (pc := 7) (tgt := 31) C (by first | exact hR _ _ | exact hRo _ _ | assumption | exact ⟨by omega, by omega⟩) (by first | exact hR _ _ | exact hRo _ _ | assumption | exact ⟨by omega, by omega⟩) dX0_stateOf_7 (by decide) (fun hc => ?_) (fun hc => ?_)
    · have hgi : g - i = 0 := by omega
      rw [hgi] at hI
      refine q_bipush (pc := 31) C (by decide +kernel) dX0_stateOf_31 ?_
      exact q_iret (pc := 33) C hret ⟨by rw [← hI]; rfl, rfl⟩ (by decide) (by decide) dX0_stateOf_33
    · have hgi : g - i = (g - (i + 1)) + 1 := by omega
      rw [hgi] at hI
      unfold fnd at hI
      refine q_aload_n (pc := 10) C dX0_stateOf_10 rfl rfl ?_
      refine q_getR (pc := 11) (ci := 0) (k := 2) (r := 129) C rfl fiX0_stateOf_X0 (by decide) k128 (by decide) rfl (by decide) flX0_stateOf_11 rfl rfl dX0_stateOf_11 ?_
      refine q_iload_n (pc := 14) C dX0_stateOf_14 rfl rfl ?_
      first | refine q_aaloadN (pc := 15) C k129 n129 (by decide) (by decide) (by omega) rfl dX0_stateOf_15 ?_ | refine q_aaload (pc := 15) C k129 n129 (by decide) (by decide) (by omega) (by omega) rfl dX0_stateOf_15 ?_
      refine q_aload_n (pc := 16) C dX0_stateOf_16 rfl rfl ?_
      refine q_callSN (pc := 17) (As := [_, _]) (rest := []) C (c_same hlf D cy B (a := 130 + i) (b := a) (k_r129 (by omega)) (n_r129 (by omega)) (l_r129 (by omega)) ka na la) ⟨va_cnB (host := "CoverTrees") (index := 85) 2 C.2.2.2.2.1 gX0_stateOf_X3_same_n85 rfl rfl rfl (C.2.2.2.2.2.1.2.2.1 (RX0, 85, yX3_same) (by decide +kernel)) (C.2.2.2.2.1 _ (by decide +kernel)) (by decide +kernel) ⟨Nat.le_of_ble_eq_true rfl, Nat.le_of_ble_eq_true rfl⟩, C.2.2.2.2.1 _ (by decide +kernel), trivial⟩ rfl rfl (by first | decide | simp [Value.category]) dX0_stateOf_17 (by decide) (fun _ _ h => h.elim) (fun v μ9 hv => ?_)
      have e8 := hv.1
      have e9 := hv.2.symm
      clear hv
      subst e8
      subst e9
      dsimp only [Option.toList, List.cons_append, List.nil_append]
      have hz := bI_01 (∀ q : Nat, q < 6 → μ (130 + i) q = μ a q)
      refine q_if_eq (pc := 20) (tgt := 25) C (by first | exact hR _ _ | exact hRo _ _ | assumption | exact ⟨by omega, by omega⟩) dX0_stateOf_20 (by decide) (fun hd => ?_) (fun hd => ?_)
      · rw [if_neg (bI_0.mp hd)] at hI
        refine q_iinc (pc := 25) (lv2 := [_, _, _]) C dX0_stateOf_25 (by decide) rfl rfl ?_
        refine q_goto (pc := 28) (tgt := 2) C dX0_stateOf_28 (by decide) ?_
        exact ih (by omega) hI
      · rw [if_pos (bI_1.mp (by omega))] at hI
        refine q_iload_n (pc := 23) C dX0_stateOf_23 rfl rfl ?_
        exact q_iret (pc := 24) C hret ⟨by rw [← hI], rfl⟩ (by decide) (by decide) dX0_stateOf_24
  refine q_iconst (pc := 0) C dX0_stateOf_0 ?_
  refine q_istore_n (pc := 1) (lv2 := [_, _, _]) C dX0_stateOf_1 rfl (by decide) rfl ?_
  exact L 0 (by omega) rfl
def asS (μ : St) (g : Nat) (f b d : Int) : St := updS (updS (updS (updS (cpS μ (130 + g) 215) 211 g f) 212 g b) 213 g d) 128 1 ((g : Int) + 1)
set_option maxHeartbeats 4000000 in
set_option maxRecDepth 100000 in
theorem c_addState {l : Launch} (hlf : l.stackTraces = false) (D : va_G) (cy : Nat → ClassId) (B : Nat) {μ : St} {g : Nat} {f b d : Int} (hg : g < 40) (hs : μ 128 1 = g) (hf : InR f) (hb : InR b) (hd : InR d) : PC l D cy B yX0_addState wsX0_addState (r0 2) [.ref (B + 128), iN f, iN b, iN d] μ (fun r μ2 => r = some (iN g) ∧ μ2 = asS μ g f b d) noX := by
  refine PC.pre (fun hR => ?_)
  refine q_start (cc := cX0_addState) (maxL := 5) (ret := (some .int)) hlf (by decide +kernel) rfl (by simp [Value.category]) (Nat.le_of_ble_eq_true rfl) ?_
  intro p e s m args below meth c C hret hno
  show PW p l e (r0 2) s m args below meth c D cy B 5 0 0 _ 0 [some (.ref (B + 128)), some (iN f), some (iN b), some (iN d), none] [] μ
  refine q_aload_n (pc := 0) C dX0_addState_0 rfl rfl ?_
  refine q_getI (pc := 1) (ci := 0) (k := 1) (ki := 1) C rfl rfl fiX0_addState_X0 (by decide) k128 (by decide) rfl (by decide) flX0_addState_48 rfl rfl dX0_addState_1 ?_
  rw [hs]
  refine q_istore (pc := 4) (lv2 := [_, _, _, _, _]) C dX0_addState_4 (by decide) rfl ?_
  refine q_aload_n (pc := 6) C dX0_addState_6 rfl rfl ?_
  refine q_getR (pc := 7) (ci := 0) (k := 2) (r := 129) C rfl fiX0_addState_X0 (by decide) k128 (by decide) rfl (by decide) flX0_addState_11 rfl rfl dX0_addState_7 ?_
  refine q_iload (pc := 10) C dX0_addState_10 rfl ?_
  first | refine q_aaloadN (pc := 12) C k129 n129 (by decide) (by decide) (by omega) rfl dX0_addState_12 ?_ | refine q_aaload (pc := 12) C k129 n129 (by decide) (by decide) (by omega) (by omega) rfl dX0_addState_12 ?_
  refine q_aload_n (pc := 13) C dX0_addState_13 rfl rfl ?_
  refine q_getR (pc := 14) (ci := 0) (k := 8) (r := 215) C rfl fiX0_addState_X0 (by decide) k128 (by decide) rfl (by decide) flX0_addState_32 rfl rfl dX0_addState_14 ?_
  refine q_callSN (pc := 17) (As := [_, _]) (rest := []) C (c_copyInto hlf D cy B (a := 130 + g) (b := 215) (k_r129 hg) (n_r129 hg) (l_r129 hg) k215 n215 (by decide)) ⟨va_cnB (host := "CoverTrees") (index := 44) 2 C.2.2.2.2.1 gX0_addState_X3_copyInto_n44 rfl rfl rfl (C.2.2.2.2.2.1.2.2.1 (RX0, 44, yX3_copyInto) (by decide +kernel)) (C.2.2.2.2.1 _ (by decide +kernel)) (by decide +kernel) ⟨Nat.le_of_ble_eq_true rfl, Nat.le_of_ble_eq_true rfl⟩, C.2.2.2.2.1 _ (by decide +kernel), trivial⟩ rfl rfl (by first | decide | simp [Value.category]) dX0_addState_17 (by decide) (fun _ _ h => h.elim) (fun v μ9 hv => ?_)
  have e8 := hv.1
  have e9 := hv.2.symm
  clear hv
  subst e8
  subst e9
  dsimp only [Option.toList, List.cons_append, List.nil_append]
  have e22 : cpS μ (130 + g) 215 128 1 = g := by rw [cpS_ap, if_neg (by omega), hs]
  refine q_aload_n (pc := 20) C dX0_addState_20 rfl rfl ?_
  refine q_getR (pc := 21) (ci := 0) (k := 4) (r := 211) C rfl fiX0_addState_X0 (by decide) k128 (by decide) rfl (by decide) flX0_addState_19 rfl rfl dX0_addState_21 ?_
  refine q_iload (pc := 24) C dX0_addState_24 rfl ?_
  refine q_iload_n (pc := 26) C dX0_addState_26 rfl rfl ?_
  refine q_iastore (pc := 27) C k211 n211 (by decide) (by decide) (by omega) (by omega) (by first | exact hR _ _ | exact hRo _ _ | assumption | exact ⟨by omega, by omega⟩) dX0_addState_27 ?_
  refine q_aload_n (pc := 28) C dX0_addState_28 rfl rfl ?_
  refine q_getR (pc := 29) (ci := 0) (k := 5) (r := 212) C rfl fiX0_addState_X0 (by decide) k128 (by decide) rfl (by decide) flX0_addState_23 rfl rfl dX0_addState_29 ?_
  refine q_iload (pc := 32) C dX0_addState_32 rfl ?_
  refine q_iload_n (pc := 34) C dX0_addState_34 rfl rfl ?_
  refine q_iastore (pc := 35) C k212 n212 (by decide) (by decide) (by omega) (by omega) (by first | exact hR _ _ | exact hRo _ _ | assumption | exact ⟨by omega, by omega⟩) dX0_addState_35 ?_
  refine q_aload_n (pc := 36) C dX0_addState_36 rfl rfl ?_
  refine q_getR (pc := 37) (ci := 0) (k := 6) (r := 213) C rfl fiX0_addState_X0 (by decide) k128 (by decide) rfl (by decide) flX0_addState_26 rfl rfl dX0_addState_37 ?_
  refine q_iload (pc := 40) C dX0_addState_40 rfl ?_
  refine q_iload_n (pc := 42) C dX0_addState_42 rfl rfl ?_
  refine q_iastore (pc := 43) C k213 n213 (by decide) (by decide) (by omega) (by omega) (by first | exact hR _ _ | exact hRo _ _ | assumption | exact ⟨by omega, by omega⟩) dX0_addState_43 ?_
  refine q_aload_n (pc := 44) C dX0_addState_44 rfl rfl ?_
  refine q_dup (pc := 45) C rfl dX0_addState_45 ?_
  refine q_getI (pc := 46) (ci := 0) (k := 1) (ki := 1) C rfl rfl fiX0_addState_X0 (by decide) k128 (by decide) rfl (by decide) flX0_addState_48 rfl rfl dX0_addState_46 ?_
  simp only [updS_ap, Nat.reduceEqDiff, Int.reduceEq, Int.toNat_natCast, false_and, true_and, and_false, and_true, and_self, if_false, if_true, ↓reduceIte]
  rw [e22]
  refine q_iconst (pc := 49) C dX0_addState_49 ?_
  refine q_iadd (pc := 50) C dX0_addState_50 ?_
  refine q_put (pc := 51) (ci := 0) (k := 1) (ki := 1) (ty0 := tyX0) C rfl rfl fiX0_addState_X0 (by decide) k128 (by decide) rfl (by decide) flX0_addState_48 rfl tyX0_ok nmX0 rfl rfl rfl (by first | exact hR _ _ | exact hRo _ _ | assumption | exact ⟨by omega, by omega⟩) dX0_addState_51 ?_
  refine q_iload (pc := 54) C dX0_addState_54 rfl ?_
  exact q_iret (pc := 56) C hret ⟨rfl, rfl⟩ (by decide) (by decide) dX0_addState_56
/- bits -/
theorem b_or (x y : Nat) : Int32.ofInt (x : Int) ||| Int32.ofInt (y : Int) = Int32.ofInt ((x ||| y : Nat) : Int) := by
  rw [Int32.ofInt_eq_ofNat, Int32.ofInt_eq_ofNat, Int32.ofInt_eq_ofNat]
  apply Int32.toBitVec_inj.mp
  rw [Int32.toBitVec_or]
  show BitVec.ofNat 32 x ||| BitVec.ofNat 32 y = BitVec.ofNat 32 (x ||| y)
  apply BitVec.eq_of_toNat_eq
  simp [Nat.or_mod_two_pow]
theorem b_and (x y : Nat) : Int32.ofInt (x : Int) &&& Int32.ofInt (y : Int) = Int32.ofInt ((x &&& y : Nat) : Int) := by
  rw [Int32.ofInt_eq_ofNat, Int32.ofInt_eq_ofNat, Int32.ofInt_eq_ofNat]
  apply Int32.toBitVec_inj.mp
  rw [Int32.toBitVec_and]
  show BitVec.ofNat 32 x &&& BitVec.ofNat 32 y = BitVec.ofNat 32 (x &&& y)
  apply BitVec.eq_of_toNat_eq
  simp [Nat.and_mod_two_pow]
theorem b_shl {t : Nat} (h : t < 8) : Int32.ofInt 1 <<< (Int32.ofInt (t : Int) &&& 31) = Int32.ofInt ((2 ^ t : Nat) : Int) := by
  have : t = 0 ∨ t = 1 ∨ t = 2 ∨ t = 3 ∨ t = 4 ∨ t = 5 ∨ t = 6 ∨ t = 7 := by omega
  rcases this with e | e | e | e | e | e | e | e <;> subst e <;> decide +kernel
theorem b_lt {x y : Nat} (hx : x < 256) (hy : y < 256) : x ||| y < 256 := Nat.or_lt_two_pow (n := 8) hx hy
theorem b_p {t : Nat} (h : t < 8) : 2 ^ t < 256 := Nat.pow_lt_pow_right (a := 2) (by decide) (show t < 8 from h)
theorem b_bit (w t : Nat) : (w &&& 2 ^ t = 0) ↔ ¬ w.testBit t = true := by
  constructor
  · intro h hb
    have h1 : (w &&& 2 ^ t).testBit t = true := by
      rw [Nat.testBit_and, hb, Nat.testBit_two_pow]
      simp
    rw [h] at h1
    simp at h1
  · intro h
    apply Nat.eq_of_testBit_eq
    intro i
    rw [Nat.testBit_and, Nat.testBit_two_pow, Nat.zero_testBit]
    by_cases e1 : t = i
    · subst e1
      simp [h]
    · simp [e1]
def enB (μ : St) (k : Nat) : Nat → Nat
  | 0 => 0
  | t + 1 => if μ (171 + k) t = -2 then enB μ k t else enB μ k t ||| 2 ^ t
theorem enB_lt (μ : St) (k : Nat) : ∀ t : Nat, t ≤ 8 → enB μ k t < 256
  | 0, _ => by show 0 < 256; decide
  | t + 1, h => by
    unfold enB
    split
    · exact enB_lt μ k t (by omega)
    · exact b_lt (enB_lt μ k t (by omega)) (b_p (by omega))
theorem enB_bit (μ : St) (k : Nat) : ∀ (t u : Nat), (enB μ k t).testBit u = true ↔ u < t ∧ ¬ μ (171 + k) u = -2
  | 0, u => by simp [enB]
  | t + 1, u => by
    unfold enB
    split
    · rename_i h
      rw [enB_bit μ k t u]
      constructor
      · exact fun z => ⟨by omega, z.2⟩
      · rintro ⟨h1, h2⟩
        refine ⟨?_, h2⟩
        by_cases e1 : u = t
        · subst e1; exact absurd h h2
        · omega
    · rename_i h
      rw [Nat.testBit_or, Bool.or_eq_true, enB_bit μ k t u, Nat.testBit_two_pow]
      constructor
      · rintro (⟨h1, h2⟩ | h1)
        · exact ⟨by omega, h2⟩
        · have h1 : t = u := by simpa using h1
          subst h1
          exact ⟨by omega, h⟩
      · rintro ⟨h1, h2⟩
        by_cases e1 : t = u
        · exact Or.inr (by simpa using e1)
        · exact Or.inl ⟨by omega, h2⟩
set_option maxHeartbeats 4000000 in
set_option maxRecDepth 100000 in
theorem c_enabledIn {l : Launch} (hlf : l.stackTraces = false) (D : va_G) (cy : Nat → ClassId) (B : Nat) {μ : St} {k T : Nat} (hk : k < 40) (hT : T ≤ 8) (hs : μ 1 1 = T) : PC l D cy B yX0_enabledIn wsX0_enabledIn (r0 0) [.ref (B + 128), iN k] μ (ret1 (enB μ k T) μ) noX := by
  refine PC.pre (fun hR => ?_)
  refine q_start (cc := cX0_enabledIn) (maxL := 4) (ret := (some .int)) hlf (by decide +kernel) rfl (by simp [Value.category]) (Nat.le_of_ble_eq_true rfl) ?_
  intro p e s m args below meth c C hret hno
  show PW p l e (r0 0) s m args below meth c D cy B 4 0 0 _ 0 [some (.ref (B + 128)), some (iN k), none, none] [] μ
  have L : ∀ i : Nat, i ≤ T → PW p l e (r0 0) s m args below meth c D cy B 4 0 0 (vx_MQ below (Qp D cy B (ret1 (enB μ k T) μ)) (Xp D cy B noX) args s (r0 0).cells (r0 0).slots (fun q => B ≤ q)) 4 [some (.ref (B + 128)), some (iN k), some (iN (enB μ k i)), some (iN i)] [] μ := by
    refine up_to T _ (fun i hi ih => ?_)
    refine q_iload_n (pc := 4) C dX0_enabledIn_4 rfl rfl ?_
    refine q_aload_n (pc := 5) C dX0_enabledIn_5 rfl rfl ?_
    refine q_getR (pc := 6) (ci := 0) (k := 0) (r := 1) C rfl fiX0_enabledIn_X0 (by decide) k128 (by decide) rfl (by decide) flX0_enabledIn_35 rfl rfl dX0_enabledIn_6 ?_
    refine q_getIN (pc := 9) (ci := 1) (k := 1) (ki := 1) C rfl rfl fiX0_enabledIn_X1 (by decide) k1 (by decide) rfl (by decide) (by decide +kernel) rfl rfl dX0_enabledIn_9 ?_
    refine q_icmp_ge (pc := 12) (tgt := 40) C (by first | exact hR _ _ | exact hRo _ _ | assumption | exact ⟨by omega, by omega⟩) (by first | exact hR _ _ | exact hRo _ _ | assumption | exact ⟨by omega, by omega⟩) dX0_enabledIn_12 (by decide) (fun hc => ?_) (fun hc => ?_)
    · have e1 : i = T := by omega
      subst e1
      refine q_iload_n (pc := 40) C dX0_enabledIn_40 rfl rfl ?_
      exact q_iret (pc := 41) C hret ⟨rfl, rfl⟩ (by decide) (by decide) dX0_enabledIn_41
    · refine q_aload_n (pc := 15) C dX0_enabledIn_15 rfl rfl ?_
      refine q_getR (pc := 16) (ci := 0) (k := 3) (r := 170) C rfl fiX0_enabledIn_X0 (by decide) k128 (by decide) rfl (by decide) flX0_enabledIn_16 rfl rfl dX0_enabledIn_16 ?_
      refine q_iload_n (pc := 19) C dX0_enabledIn_19 rfl rfl ?_
      first | refine q_aaloadN (pc := 20) C k170 n170 (by decide) (by decide) (by omega) rfl dX0_enabledIn_20 ?_ | refine q_aaload (pc := 20) C k170 n170 (by decide) (by decide) (by omega) (by omega) rfl dX0_enabledIn_20 ?_
      refine q_iload_n (pc := 21) C dX0_enabledIn_21 rfl rfl ?_
      refine q_iaload (pc := 22) C (k_r170 (by omega)) (n_r170 (by omega)) (by decide) (l_r170 (by omega)) (by omega) (by omega) dX0_enabledIn_22 ?_
      refine q_bipush (pc := 23) C (by decide +kernel) dX0_enabledIn_23 ?_
      refine q_icmp_eq (pc := 25) (tgt := 34) C (by first | exact hR _ _ | exact hRo _ _ | assumption | exact ⟨by omega, by omega⟩) (by first | exact hR _ _ | exact hRo _ _ | assumption | exact ⟨by omega, by omega⟩) dX0_enabledIn_25 (by decide) (fun hd => ?_) (fun hd => ?_)
      · refine q_iinc (pc := 34) (lv2 := [_, _, _, _]) C dX0_enabledIn_34 (by decide) rfl rfl ?_
        refine q_goto (pc := 37) (tgt := 4) C dX0_enabledIn_37 (by decide) ?_
        have e1 : enB μ k (i + 1) = enB μ k i := by
          show (if μ (171 + k) i = -2 then enB μ k i else enB μ k i ||| 2 ^ i) = _
          rw [if_pos hd]
        rw [← e1]
        exact ih (by omega)
      · refine q_iload_n (pc := 28) C dX0_enabledIn_28 rfl rfl ?_
        refine q_iconst (pc := 29) C dX0_enabledIn_29 ?_
        refine q_iload_n (pc := 30) C dX0_enabledIn_30 rfl rfl ?_
        refine q_ishl (pc := 31) C (b_shl (t := i) (by omega)) dX0_enabledIn_31 ?_
        refine q_ior (pc := 32) C (b_or (enB μ k i) (2 ^ i)) dX0_enabledIn_32 ?_
        refine q_istore_n (pc := 33) (lv2 := [_, _, _, _]) C dX0_enabledIn_33 rfl (by decide) rfl ?_
        refine q_iinc (pc := 34) (lv2 := [_, _, _, _]) C dX0_enabledIn_34 (by decide) rfl rfl ?_
        refine q_goto (pc := 37) (tgt := 4) C dX0_enabledIn_37 (by decide) ?_
        have e1 : enB μ k (i + 1) = enB μ k i ||| 2 ^ i := by
          show (if μ (171 + k) i = -2 then enB μ k i else enB μ k i ||| 2 ^ i) = _
          rw [if_neg hd]
        rw [← e1]
        exact ih (by omega)
  refine q_iconst (pc := 0) C dX0_enabledIn_0 ?_
  refine q_istore_n (pc := 1) (lv2 := [_, _, _, _]) C dX0_enabledIn_1 rfl (by decide) rfl ?_
  refine q_iconst (pc := 2) C dX0_enabledIn_2 ?_
  refine q_istore_n (pc := 3) (lv2 := [_, _, _, _]) C dX0_enabledIn_3 rfl (by decide) rfl ?_
  exact L 0 (by omega)
def anB (μ : St) (k : Nat) : Nat → Nat
  | 0 => 0
  | t + 1 => if μ (171 + k) t = -2 then anB μ k t else anB μ k t ||| (μ 214 (μ (171 + k) t)).toNat
/- the links of the states below k stay among g states -/
def nxP (μ : St) (g k T : Nat) : Prop := ∀ t : Nat, t < T → μ (171 + k) t = -2 ∨ ∃ j : Nat, j < g ∧ μ (171 + k) t = j
def ahP (μ : St) (g : Nat) : Prop := ∀ i : Nat, i < g → ∃ w : Nat, w < 256 ∧ μ 214 i = w
theorem anB_lt {μ : St} {g k T : Nat} (h1 : nxP μ g k T) (h2 : ahP μ g) : ∀ t : Nat, t ≤ T → anB μ k t < 256
  | 0, _ => by show 0 < 256; decide
  | t + 1, h => by
    unfold anB
    split
    · exact anB_lt h1 h2 t (by omega)
    · rename_i hn
      rcases h1 t (by omega) with z | ⟨j, hj, z⟩
      · exact absurd z hn
      · obtain ⟨w, hw, e1⟩ := h2 j hj
        rw [z, e1]
        exact b_lt (anB_lt h1 h2 t (by omega)) (by simpa using hw)
theorem anB_bit {μ : St} {k : Nat} : ∀ (t u : Nat), (anB μ k t).testBit u = true ↔ ∃ v : Nat, v < t ∧ ¬ μ (171 + k) v = -2 ∧ (μ 214 (μ (171 + k) v)).toNat.testBit u = true
  | 0, u => by simp [anB]
  | t + 1, u => by
    unfold anB
    split
    · rename_i h
      rw [anB_bit t u]
      constructor
      · rintro ⟨v, h1, h2⟩
        exact ⟨v, by omega, h2⟩
      · rintro ⟨v, h1, h2, h3⟩
        by_cases e1 : v = t
        · subst e1; exact absurd h h2
        · exact ⟨v, by omega, h2, h3⟩
    · rename_i h
      rw [Nat.testBit_or, Bool.or_eq_true, anB_bit t u]
      constructor
      · rintro (⟨v, h1, h2⟩ | h1)
        · exact ⟨v, by omega, h2⟩
        · exact ⟨t, by omega, h, h1⟩
      · rintro ⟨v, h1, h2, h3⟩
        by_cases e1 : v = t
        · subst e1; exact Or.inr h3
        · exact Or.inl ⟨v, by omega, h2, h3⟩
set_option maxHeartbeats 4000000 in
set_option maxRecDepth 100000 in
theorem c_aheadOfNext {l : Launch} (hlf : l.stackTraces = false) (D : va_G) (cy : Nat → ClassId) (B : Nat) {μ : St} {g k T : Nat} (hk : k < 40) (hg : g ≤ 40) (hT : T ≤ 8) (hs : μ 1 1 = T) (hnx : nxP μ g k T) (hah : ahP μ g) : PC l D cy B yX0_aheadOfNext wsX0_aheadOfNext (r0 0) [.ref (B + 128), iN k] μ (ret1 (anB μ k T) μ) noX := by
  refine PC.pre (fun hR => ?_)
  refine q_start (cc := cX0_aheadOfNext) (maxL := 5) (ret := (some .int)) hlf (by decide +kernel) rfl (by simp [Value.category]) (Nat.le_of_ble_eq_true rfl) ?_
  intro p e s m args below meth c C hret hno
  show PW p l e (r0 0) s m args below meth c D cy B 5 0 0 _ 0 [some (.ref (B + 128)), some (iN k), none, none, none] [] μ
  have L : ∀ i : Nat, i ≤ T → PW p l e (r0 0) s m args below meth c D cy B 5 0 0 (vx_MQ below (Qp D cy B (ret1 (anB μ k T) μ)) (Xp D cy B noX) args s (r0 0).cells (r0 0).slots (fun q => B ≤ q)) 4 [some (.ref (B + 128)), some (iN k), some (iN (anB μ k i)), some (iN i), none] [] μ := by
    refine up_to T _ (fun i hi ih => ?_)
    refine q_iload_n (pc := 4) C dX0_aheadOfNext_4 rfl rfl ?_
    refine q_aload_n (pc := 5) C dX0_aheadOfNext_5 rfl rfl ?_
    refine q_getR (pc := 6) (ci := 0) (k := 0) (r := 1) C rfl fiX0_aheadOfNext_X0 (by decide) k128 (by decide) rfl (by decide) flX0_aheadOfNext_35 rfl rfl dX0_aheadOfNext_6 ?_
    refine q_getIN (pc := 9) (ci := 1) (k := 1) (ki := 1) C rfl rfl fiX0_aheadOfNext_X1 (by decide) k1 (by decide) rfl (by decide) (by decide +kernel) rfl rfl dX0_aheadOfNext_9 ?_
    refine q_icmp_ge (pc := 12) (tgt := 48) C (by first | exact hR _ _ | exact hRo _ _ | assumption | exact ⟨by omega, by omega⟩) (by first | exact hR _ _ | exact hRo _ _ | assumption | exact ⟨by omega, by omega⟩) dX0_aheadOfNext_12 (by decide) (fun hc => ?_) (fun hc => ?_)
    · have e1 : i = T := by omega
      subst e1
      refine q_iload_n (pc := 48) C dX0_aheadOfNext_48 rfl rfl ?_
      exact q_iret (pc := 49) C hret ⟨rfl, rfl⟩ (by decide) (by decide) dX0_aheadOfNext_49
    · refine q_aload_n (pc := 15) C dX0_aheadOfNext_15 rfl rfl ?_
      refine q_getR (pc := 16) (ci := 0) (k := 3) (r := 170) C rfl fiX0_aheadOfNext_X0 (by decide) k128 (by decide) rfl (by decide) flX0_aheadOfNext_16 rfl rfl dX0_aheadOfNext_16 ?_
      refine q_iload_n (pc := 19) C dX0_aheadOfNext_19 rfl rfl ?_
      first | refine q_aaloadN (pc := 20) C k170 n170 (by decide) (by decide) (by omega) rfl dX0_aheadOfNext_20 ?_ | refine q_aaload (pc := 20) C k170 n170 (by decide) (by decide) (by omega) (by omega) rfl dX0_aheadOfNext_20 ?_
      refine q_iload_n (pc := 21) C dX0_aheadOfNext_21 rfl rfl ?_
      refine q_iaload (pc := 22) C (k_r170 (by omega)) (n_r170 (by omega)) (by decide) (l_r170 (by omega)) (by omega) (by omega) dX0_aheadOfNext_22 ?_
      refine q_istore (pc := 23) (lv2 := [_, _, _, _, _]) C dX0_aheadOfNext_23 (by decide) rfl ?_
      refine q_iload (pc := 25) C dX0_aheadOfNext_25 rfl ?_
      refine q_bipush (pc := 27) C (by decide +kernel) dX0_aheadOfNext_27 ?_
      refine q_icmp_eq (pc := 29) (tgt := 42) C (by first | exact hR _ _ | exact hRo _ _ | assumption | exact ⟨by omega, by omega⟩) (by first | exact hR _ _ | exact hRo _ _ | assumption | exact ⟨by omega, by omega⟩) dX0_aheadOfNext_29 (by decide) (fun hd => ?_) (fun hd => ?_)
      · refine q_drop 4 (lv2 := [_, _, _, _, none]) rfl ?_
        refine q_iinc (pc := 42) (lv2 := [_, _, _, _, _]) C dX0_aheadOfNext_42 (by decide) rfl rfl ?_
        refine q_goto (pc := 45) (tgt := 4) C dX0_aheadOfNext_45 (by decide) ?_
        have e1 : anB μ k (i + 1) = anB μ k i := by
          show (if μ (171 + k) i = -2 then anB μ k i else anB μ k i ||| (μ 214 (μ (171 + k) i)).toNat) = _
          rw [if_pos hd]
        rw [← e1]
        exact ih (by omega)
      · have e1 : anB μ k (i + 1) = anB μ k i ||| (μ 214 (μ (171 + k) i)).toNat := by
          show (if μ (171 + k) i = -2 then anB μ k i else anB μ k i ||| (μ 214 (μ (171 + k) i)).toNat) = _
          rw [if_neg hd]
        rcases hnx i (by omega) with z | ⟨j, hj, z⟩
        · exact absurd z hd
        · obtain ⟨w, hw, z2⟩ := hah j hj
          rw [z, z2] at e1
          rw [show Int.toNat (w : Int) = w from rfl] at e1
          rw [z]
          refine q_iload_n (pc := 32) C dX0_aheadOfNext_32 rfl rfl ?_
          refine q_aload_n (pc := 33) C dX0_aheadOfNext_33 rfl rfl ?_
          refine q_getR (pc := 34) (ci := 0) (k := 7) (r := 214) C rfl fiX0_aheadOfNext_X0 (by decide) k128 (by decide) rfl (by decide) flX0_aheadOfNext_29 rfl rfl dX0_aheadOfNext_34 ?_
          refine q_iload (pc := 37) C dX0_aheadOfNext_37 rfl ?_
          refine q_iaload (pc := 39) C k214 n214 (by decide) (by decide) (by omega) (by omega) dX0_aheadOfNext_39 ?_
          rw [z2]
          refine q_ior (pc := 40) C (b_or (anB μ k i) w) dX0_aheadOfNext_40 ?_
          refine q_istore_n (pc := 41) (lv2 := [_, _, _, _, _]) C dX0_aheadOfNext_41 rfl (by decide) rfl ?_
          refine q_drop 4 (lv2 := [_, _, _, _, none]) rfl ?_
          refine q_iinc (pc := 42) (lv2 := [_, _, _, _, _]) C dX0_aheadOfNext_42 (by decide) rfl rfl ?_
          refine q_goto (pc := 45) (tgt := 4) C dX0_aheadOfNext_45 (by decide) ?_
          rw [← e1]
          exact ih (by omega)
  refine q_iconst (pc := 0) C dX0_aheadOfNext_0 ?_
  refine q_istore_n (pc := 1) (lv2 := [_, _, _, _, _]) C dX0_aheadOfNext_1 rfl (by decide) rfl ?_
  refine q_iconst (pc := 2) C dX0_aheadOfNext_2 ?_
  refine q_istore_n (pc := 3) (lv2 := [_, _, _, _, _]) C dX0_aheadOfNext_3 rfl (by decide) rfl ?_
  exact L 0 (by omega)
def cntS (μ : St) (T : Nat) : Nat → Nat
  | 0 => 0
  | i + 1 => if enB μ i T = 0 then cntS μ T i + 1 else cntS μ T i
theorem cntS_le (μ : St) (T : Nat) : ∀ i, cntS μ T i ≤ i
  | 0 => Nat.le_refl _
  | i + 1 => by
    unfold cntS
    have := cntS_le μ T i
    split <;> omega
set_option maxHeartbeats 4000000 in
set_option maxRecDepth 100000 in
theorem c_countStops {l : Launch} (hlf : l.stackTraces = false) (D : va_G) (cy : Nat → ClassId) (B : Nat) {μ : St} {g T : Nat} (hg : g ≤ 40) (hsg : μ 128 1 = g) (hT : T ≤ 8) (hs : μ 1 1 = T) : PC l D cy B yX0_countStops wsX0_countStops (r0 1) [.ref (B + 128)] μ (ret1 (cntS μ T g) μ) noX := by
  refine PC.pre (fun hR => ?_)
  refine q_start (cc := cX0_countStops) (maxL := 3) (ret := (some .int)) hlf (by decide +kernel) rfl (by simp [Value.category]) (Nat.le_of_ble_eq_true rfl) ?_
  intro p e s m args below meth c C hret hno
  show PW p l e (r0 1) s m args below meth c D cy B 3 0 0 _ 0 [some (.ref (B + 128)), none, none] [] μ
  have L : ∀ i : Nat, i ≤ g → PW p l e (r0 1) s m args below meth c D cy B 3 0 0 (vx_MQ below (Qp D cy B (ret1 (cntS μ T g) μ)) (Xp D cy B noX) args s (r0 1).cells (r0 1).slots (fun q => B ≤ q)) 4 [some (.ref (B + 128)), some (iN (cntS μ T i)), some (iN i)] [] μ := by
    refine up_to g _ (fun i hi ih => ?_)
    have hc9 := cntS_le μ T i
    have hlt := enB_lt μ i T hT
    refine q_iload_n (pc := 4) C dX0_countStops_4 rfl rfl ?_
    refine q_aload_n (pc := 5) C dX0_countStops_5 rfl rfl ?_
    refine q_getI (pc := 6) (ci := 0) (k := 1) (ki := 1) C rfl rfl fiX0_countStops_X0 (by decide) k128 (by decide) rfl (by decide) flX0_countStops_48 rfl rfl dX0_countStops_6 ?_
    refine q_icmp_ge (pc := 9) (tgt := 29) C (by first | exact hR _ _ | exact hRo _ _ | assumption | exact ⟨by omega, by omega⟩) (by first | exact hR _ _ | exact hRo _ _ | assumption | exact ⟨by omega, by omega⟩) dX0_countStops_9 (by decide) (fun hc => ?_) (fun hc => ?_)
    · have e1 : i = g := by omega
      subst e1
      refine q_iload_n (pc := 29) C dX0_countStops_29 rfl rfl ?_
      exact q_iret (pc := 30) C hret ⟨rfl, rfl⟩ (by decide) (by decide) dX0_countStops_30
    · refine q_aload_n (pc := 12) C dX0_countStops_12 rfl rfl ?_
      refine q_iload_n (pc := 13) C dX0_countStops_13 rfl rfl ?_
      refine q_callV (pc := 14) (As := [_]) (rest := []) C (c_enabledIn hlf D cy B (k := i) (T := T) (by omega) hT hs) (cwV 1 C.2.2.2.2.1 gX0_countStops_X0_enabledIn rfl rfl rfl (by decide +kernel) ⟨Nat.le_of_ble_eq_true rfl, Nat.le_of_ble_eq_true rfl⟩) (ci := 0) rfl k128 (by decide) (by decide) rfl rfl (by first | decide | simp [Value.category]) dX0_countStops_14 (by decide) (fun _ _ h => h.elim) (fun v μ9 hv => ?_)
      have e8 := hv.1
      have e9 := hv.2.symm
      clear hv
      subst e8
      subst e9
      dsimp only [Option.toList, List.cons_append, List.nil_append]
      refine q_if_ne (pc := 17) (tgt := 23) C (by first | exact hR _ _ | exact hRo _ _ | assumption | exact ⟨by omega, by omega⟩) dX0_countStops_17 (by decide) (fun hd => ?_) (fun hd => ?_)
      · refine q_iinc (pc := 23) (lv2 := [_, _, _]) C dX0_countStops_23 (by decide) rfl rfl ?_
        refine q_goto (pc := 26) (tgt := 4) C dX0_countStops_26 (by decide) ?_
        have e1 : cntS μ T (i + 1) = cntS μ T i := by
          show (if enB μ i T = 0 then cntS μ T i + 1 else cntS μ T i) = _
          rw [if_neg (by omega)]
        rw [← e1]
        exact ih (by omega)
      · have e1 : cntS μ T (i + 1) = cntS μ T i + 1 := by
          show (if enB μ i T = 0 then cntS μ T i + 1 else cntS μ T i) = _
          rw [if_pos (by omega)]
        refine q_iinc (pc := 20) (lv2 := [_, _, _]) C dX0_countStops_20 (by decide) rfl rfl ?_
        rw [show (cntS μ T i : Int) + 1 = ((cntS μ T i + 1 : Nat) : Int) by omega, ← e1]
        refine q_iinc (pc := 23) (lv2 := [_, _, _]) C dX0_countStops_23 (by decide) rfl rfl ?_
        refine q_goto (pc := 26) (tgt := 4) C dX0_countStops_26 (by decide) ?_
        exact ih (by omega)
  refine q_iconst (pc := 0) C dX0_countStops_0 ?_
  refine q_istore_n (pc := 1) (lv2 := [_, _, _]) C dX0_countStops_1 rfl (by decide) rfl ?_
  refine q_iconst (pc := 2) C dX0_countStops_2 ?_
  refine q_istore_n (pc := 3) (lv2 := [_, _, _]) C dX0_countStops_3 rfl (by decide) rfl ?_
  exact L 0 (by omega)
set_option maxHeartbeats 4000000 in
set_option maxRecDepth 100000 in
theorem c_staysPossible {l : Launch} (hlf : l.stackTraces = false) (D : va_G) (cy : Nat → ClassId) (B : Nat) {μ : St} {g t : Nat} (hg : g ≤ 40) (hsg : μ 128 1 = g) (ht : t < 8) (hah : ahP μ g) : PC l D cy B yX0_staysPossible wsX0_staysPossible (r0 0) [.ref (B + 128), iN t] μ (ret1 (bI (∀ i : Nat, i < g → (μ 214 i).toNat.testBit t = true)) μ) noX := by
  refine PC.pre (fun hR => ?_)
  refine q_start (cc := cX0_staysPossible) (maxL := 3) (ret := (some .boolean)) hlf (by decide +kernel) rfl (by simp [Value.category]) (Nat.le_of_ble_eq_true rfl) ?_
  intro p e s m args below meth c C hret hno
  show PW p l e (r0 0) s m args below meth c D cy B 3 0 0 _ 0 [some (.ref (B + 128)), some (iN t), none] [] μ
  have L : ∀ i : Nat, i ≤ g → (∀ j : Nat, j < i → (μ 214 j).toNat.testBit t = true) → PW p l e (r0 0) s m args below meth c D cy B 3 0 0 (vx_MQ below (Qp D cy B (ret1 (bI (∀ i : Nat, i < g → (μ 214 i).toNat.testBit t = true)) μ)) (Xp D cy B noX) args s (r0 0).cells (r0 0).slots (fun q => B ≤ q)) 2 [some (.ref (B + 128)), some (iN t), some (iN i)] [] μ := by
    refine up_to g _ (fun i hi ih hI => ?_)
    refine q_iload_n (pc := 2) C dX0_staysPossible_2 rfl rfl ?_
    refine q_aload_n (pc := 3) C dX0_staysPossible_3 rfl rfl ?_
    refine q_getI (pc := 4) (ci := 0) (k := 1) (ki := 1) C rfl rfl fiX0_staysPossible_X0 (by decide) k128 (by decide) rfl (by decide) flX0_staysPossible_48 rfl rfl dX0_staysPossible_4 ?_
    refine q_icmp_ge (pc := 7) (tgt := 31) C (by first | exact hR _ _ | exact hRo _ _ | assumption | exact ⟨by omega, by omega⟩) (by first | exact hR _ _ | exact hRo _ _ | assumption | exact ⟨by omega, by omega⟩) dX0_staysPossible_7 (by decide) (fun hc => ?_) (fun hc => ?_)
    · refine q_iconst (pc := 31) C dX0_staysPossible_31 ?_
      exact q_zret (pc := 32) C hret (by first | exact Or.inl rfl | exact Or.inr rfl | assumption) ⟨by rw [bI_t (fun q hq => hI q (by omega))], rfl⟩ (by decide) (by decide) dX0_staysPossible_32
    · obtain ⟨w, hw, z2⟩ := hah i (by omega)
      refine q_aload_n (pc := 10) C dX0_staysPossible_10 rfl rfl ?_
      refine q_getR (pc := 11) (ci := 0) (k := 7) (r := 214) C rfl fiX0_staysPossible_X0 (by decide) k128 (by decide) rfl (by decide) flX0_staysPossible_29 rfl rfl dX0_staysPossible_11 ?_
      refine q_iload_n (pc := 14) C dX0_staysPossible_14 rfl rfl ?_
      refine q_iaload (pc := 15) C k214 n214 (by decide) (by decide) (by omega) (by omega) dX0_staysPossible_15 ?_
      refine q_iconst (pc := 16) C dX0_staysPossible_16 ?_
      refine q_iload_n (pc := 17) C dX0_staysPossible_17 rfl rfl ?_
      refine q_ishl (pc := 18) C (b_shl (t := t) ht) dX0_staysPossible_18 ?_
      rw [z2]
      refine q_iand (pc := 19) C (b_and w (2 ^ t)) dX0_staysPossible_19 ?_
      have hle : w &&& 2 ^ t ≤ w := Nat.and_le_left
      have hbit : (w &&& 2 ^ t = 0) ↔ ¬ w.testBit t = true := by
        exact b_bit w t
      have hw2 : (μ 214 i).toNat = w := by rw [z2]; rfl
      refine q_if_ne (pc := 20) (tgt := 25) C (by first | exact hR _ _ | exact hRo _ _ | assumption | exact ⟨by omega, by omega⟩) dX0_staysPossible_20 (by decide) (fun hd => ?_) (fun hd => ?_)
      · refine q_iinc (pc := 25) (lv2 := [_, _, _]) C dX0_staysPossible_25 (by decide) rfl rfl ?_
        refine q_goto (pc := 28) (tgt := 2) C dX0_staysPossible_28 (by decide) ?_
        refine ih (by omega) (fun q hq => ?_)
        by_cases e1 : q = i
        · rw [e1, hw2]
          cases hb : w.testBit t
          · exact absurd (hbit.mpr (by rw [hb]; decide)) (by omega)
          · rfl
        · exact hI q (by omega)
      · refine q_iconst (pc := 23) C dX0_staysPossible_23 ?_
        exact q_zret (pc := 24) C hret (by first | exact Or.inl rfl | exact Or.inr rfl | assumption) ⟨by rw [bI_f (fun z => by have := z i (by omega); rw [hw2] at this; exact (hbit.mp (by omega)) this)], rfl⟩ (by decide) (by decide) dX0_staysPossible_24
  refine q_iconst (pc := 0) C dX0_staysPossible_0 ?_
  refine q_istore_n (pc := 1) (lv2 := [_, _, _]) C dX0_staysPossible_1 rfl (by decide) rfl ?_
  exact L 0 (by omega) (fun q hq => absurd hq (by omega))
end
