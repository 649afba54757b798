section
-- ===== PART A: goes FIRST, ahead of the names: the tables' words, and 'selects' of the private methods out of them =====
/-- a private method of a class that the tables say can be made, by its rows of tables_1 -/
def lw_okq (q : MethodName × Nat) : Prop := (q.1.cls ≠ "java/lang/invoke/MethodHandle" ∧ q.1.cls ≠ "java/lang/invoke/VarHandle") ∧ Cond.instantiable q.1.cls q.2 ∈ tables_1 ∧ Cond.privateMethod q.1 ∈ tables_1 ∧ Cond.instanceMethod q.1 ∈ tables_1
theorem lw_p0 : lw_okq (⟨"JoinedLists$Program", "reset", "()V"⟩, 11) := ⟨⟨by decide +kernel, by decide +kernel⟩, List.mem_of_getElem? (i := 22) (by decide +kernel), List.mem_of_getElem? (i := 30) (by decide +kernel), List.mem_of_getElem? (i := 31) (by decide +kernel)⟩
theorem lw_p1 : lw_okq (⟨"JoinedLists", "programChanged", "()V"⟩, 3) := ⟨⟨by decide +kernel, by decide +kernel⟩, List.mem_of_getElem? (i := 14) (by decide +kernel), List.mem_of_getElem? (i := 167) (by decide +kernel), List.mem_of_getElem? (i := 168) (by decide +kernel)⟩
theorem lw_p2 : lw_okq (⟨"JoinedLists", "addStep", "(IIIII)I"⟩, 3) := ⟨⟨by decide +kernel, by decide +kernel⟩, List.mem_of_getElem? (i := 14) (by decide +kernel), List.mem_of_getElem? (i := 192) (by decide +kernel), List.mem_of_getElem? (i := 193) (by decide +kernel)⟩
theorem lw_p3 : lw_okq (⟨"JoinedLists$Program", "countKind", "(II)V"⟩, 11) := ⟨⟨by decide +kernel, by decide +kernel⟩, List.mem_of_getElem? (i := 22) (by decide +kernel), List.mem_of_getElem? (i := 204) (by decide +kernel), List.mem_of_getElem? (i := 205) (by decide +kernel)⟩
theorem lw_p4 : lw_okq (⟨"JoinedLists", "isPlace", "(I)Z"⟩, 3) := ⟨⟨by decide +kernel, by decide +kernel⟩, List.mem_of_getElem? (i := 14) (by decide +kernel), List.mem_of_getElem? (i := 255) (by decide +kernel), List.mem_of_getElem? (i := 256) (by decide +kernel)⟩
theorem lw_p5 : lw_okq (⟨"JoinedLists$Program", "liveAtStep", "(I)I"⟩, 11) := ⟨⟨by decide +kernel, by decide +kernel⟩, List.mem_of_getElem? (i := 22) (by decide +kernel), List.mem_of_getElem? (i := 263) (by decide +kernel), List.mem_of_getElem? (i := 264) (by decide +kernel)⟩
theorem lw_p6 : lw_okq (⟨"JoinedLists$Program", "placeSkippedTo", "(I)I"⟩, 11) := ⟨⟨by decide +kernel, by decide +kernel⟩, List.mem_of_getElem? (i := 22) (by decide +kernel), List.mem_of_getElem? (i := 271) (by decide +kernel), List.mem_of_getElem? (i := 272) (by decide +kernel)⟩
theorem lw_p7 : lw_okq (⟨"JoinedLists$Program", "rowTotal", "(I)I"⟩, 11) := ⟨⟨by decide +kernel, by decide +kernel⟩, List.mem_of_getElem? (i := 22) (by decide +kernel), List.mem_of_getElem? (i := 295) (by decide +kernel), List.mem_of_getElem? (i := 296) (by decide +kernel)⟩
theorem lw_p8 : lw_okq (⟨"JoinedLists$Program", "weightOf", "(II)I"⟩, 11) := ⟨⟨by decide +kernel, by decide +kernel⟩, List.mem_of_getElem? (i := 22) (by decide +kernel), List.mem_of_getElem? (i := 299) (by decide +kernel), List.mem_of_getElem? (i := 300) (by decide +kernel)⟩
theorem lw_p9 : lw_okq (⟨"JoinedLists$Listing", "come", "(IIJ)V"⟩, 11) := ⟨⟨by decide +kernel, by decide +kernel⟩, List.mem_of_getElem? (i := 73) (by decide +kernel), List.mem_of_getElem? (i := 313) (by decide +kernel), List.mem_of_getElem? (i := 314) (by decide +kernel)⟩
theorem lw_p10 : lw_okq (⟨"JoinedLists$Listing", "seat", "(II)I"⟩, 11) := ⟨⟨by decide +kernel, by decide +kernel⟩, List.mem_of_getElem? (i := 73) (by decide +kernel), List.mem_of_getElem? (i := 317) (by decide +kernel), List.mem_of_getElem? (i := 318) (by decide +kernel)⟩
theorem lw_p11 : lw_okq (⟨"JoinedLists$Listing", "isThere", "(III)Z"⟩, 11) := ⟨⟨by decide +kernel, by decide +kernel⟩, List.mem_of_getElem? (i := 73) (by decide +kernel), List.mem_of_getElem? (i := 321) (by decide +kernel), List.mem_of_getElem? (i := 322) (by decide +kernel)⟩
theorem lw_p12 : lw_okq (⟨"JoinedLists$Listing", "insert", "(IIIJ)V"⟩, 11) := ⟨⟨by decide +kernel, by decide +kernel⟩, List.mem_of_getElem? (i := 73) (by decide +kernel), List.mem_of_getElem? (i := 325) (by decide +kernel), List.mem_of_getElem? (i := 326) (by decide +kernel)⟩
theorem lw_p13 : lw_okq (⟨"JoinedLists$Listing", "newBehind", "(II)I"⟩, 11) := ⟨⟨by decide +kernel, by decide +kernel⟩, List.mem_of_getElem? (i := 73) (by decide +kernel), List.mem_of_getElem? (i := 374) (by decide +kernel), List.mem_of_getElem? (i := 375) (by decide +kernel)⟩
theorem lw_p14 : lw_okq (⟨"JoinedLists$Listing", "moveLeast", "(I)V"⟩, 11) := ⟨⟨by decide +kernel, by decide +kernel⟩, List.mem_of_getElem? (i := 73) (by decide +kernel), List.mem_of_getElem? (i := 403) (by decide +kernel), List.mem_of_getElem? (i := 404) (by decide +kernel)⟩
theorem lw_p15 : lw_okq (⟨"JoinedLists$Survey", "empty", "()V"⟩, 5) := ⟨⟨by decide +kernel, by decide +kernel⟩, List.mem_of_getElem? (i := 122) (by decide +kernel), List.mem_of_getElem? (i := 462) (by decide +kernel), List.mem_of_getElem? (i := 463) (by decide +kernel)⟩
def lw_privs_1 : List (MethodName × Nat) := [(⟨"JoinedLists$Program", "reset", "()V"⟩, 11), (⟨"JoinedLists", "programChanged", "()V"⟩, 3), (⟨"JoinedLists", "addStep", "(IIIII)I"⟩, 3), (⟨"JoinedLists$Program", "countKind", "(II)V"⟩, 11), (⟨"JoinedLists", "isPlace", "(I)Z"⟩, 3), (⟨"JoinedLists$Program", "liveAtStep", "(I)I"⟩, 11), (⟨"JoinedLists$Program", "placeSkippedTo", "(I)I"⟩, 11), (⟨"JoinedLists$Program", "rowTotal", "(I)I"⟩, 11), (⟨"JoinedLists$Program", "weightOf", "(II)I"⟩, 11), (⟨"JoinedLists$Listing", "come", "(IIJ)V"⟩, 11), (⟨"JoinedLists$Listing", "seat", "(II)I"⟩, 11), (⟨"JoinedLists$Listing", "isThere", "(III)Z"⟩, 11), (⟨"JoinedLists$Listing", "insert", "(IIIJ)V"⟩, 11), (⟨"JoinedLists$Listing", "newBehind", "(II)I"⟩, 11), (⟨"JoinedLists$Listing", "moveLeast", "(I)V"⟩, 11), (⟨"JoinedLists$Survey", "empty", "()V"⟩, 5)]
theorem lw_r1 : ∀ q ∈ lw_privs_1, lw_okq q := List.forall_mem_cons.mpr ⟨lw_p0, List.forall_mem_cons.mpr ⟨lw_p1, List.forall_mem_cons.mpr ⟨lw_p2, List.forall_mem_cons.mpr ⟨lw_p3, List.forall_mem_cons.mpr ⟨lw_p4, List.forall_mem_cons.mpr ⟨lw_p5, List.forall_mem_cons.mpr ⟨lw_p6, List.forall_mem_cons.mpr ⟨lw_p7, List.forall_mem_cons.mpr ⟨lw_p8, List.forall_mem_cons.mpr ⟨lw_p9, List.forall_mem_cons.mpr ⟨lw_p10, List.forall_mem_cons.mpr ⟨lw_p11, List.forall_mem_cons.mpr ⟨lw_p12, List.forall_mem_cons.mpr ⟨lw_p13, List.forall_mem_cons.mpr ⟨lw_p14, List.forall_mem_cons.mpr ⟨lw_p15, fun _ h => absurd h List.not_mem_nil⟩⟩⟩⟩⟩⟩⟩⟩⟩⟩⟩⟩⟩⟩⟩⟩
theorem lw_p16 : lw_okq (⟨"JoinedLists$Survey", "follow", "(IIJI)V"⟩, 5) := ⟨⟨by decide +kernel, by decide +kernel⟩, List.mem_of_getElem? (i := 122) (by decide +kernel), List.mem_of_getElem? (i := 467) (by decide +kernel), List.mem_of_getElem? (i := 468) (by decide +kernel)⟩
theorem lw_p17 : lw_okq (⟨"JoinedLists$Survey", "branch", "(IIJI)V"⟩, 5) := ⟨⟨by decide +kernel, by decide +kernel⟩, List.mem_of_getElem? (i := 122) (by decide +kernel), List.mem_of_getElem? (i := 473) (by decide +kernel), List.mem_of_getElem? (i := 474) (by decide +kernel)⟩
theorem lw_p18 : lw_okq (⟨"JoinedLists$Survey", "addAtEnd", "(IJ)V"⟩, 5) := ⟨⟨by decide +kernel, by decide +kernel⟩, List.mem_of_getElem? (i := 122) (by decide +kernel), List.mem_of_getElem? (i := 480) (by decide +kernel), List.mem_of_getElem? (i := 481) (by decide +kernel)⟩
theorem lw_p19 : lw_okq (⟨"java/lang/Throwable", "fillInStackTrace", "(I)Ljava/lang/Throwable;"⟩, 6) := ⟨⟨by decide +kernel, by decide +kernel⟩, List.mem_of_getElem? (i := 547) (by decide +kernel), List.mem_of_getElem? (i := 545) (by decide +kernel), List.mem_of_getElem? (i := 546) (by decide +kernel)⟩
theorem lw_p20 : lw_okq (⟨"JoinedListsModel", "reset", "()V"⟩, 30) := ⟨⟨by decide +kernel, by decide +kernel⟩, List.mem_of_getElem? (i := 577) (by decide +kernel), List.mem_of_getElem? (i := 583) (by decide +kernel), List.mem_of_getElem? (i := 584) (by decide +kernel)⟩
theorem lw_p21 : lw_okq (⟨"JoinedListsModel", "added", "(IIIII)I"⟩, 30) := ⟨⟨by decide +kernel, by decide +kernel⟩, List.mem_of_getElem? (i := 577) (by decide +kernel), List.mem_of_getElem? (i := 694) (by decide +kernel), List.mem_of_getElem? (i := 695) (by decide +kernel)⟩
theorem lw_p22 : lw_okq (⟨"JoinedListsModel", "liven", "()V"⟩, 30) := ⟨⟨by decide +kernel, by decide +kernel⟩, List.mem_of_getElem? (i := 577) (by decide +kernel), List.mem_of_getElem? (i := 729) (by decide +kernel), List.mem_of_getElem? (i := 730) (by decide +kernel)⟩
theorem lw_p23 : lw_okq (⟨"JoinedListsModel", "passed", "(I)I"⟩, 30) := ⟨⟨by decide +kernel, by decide +kernel⟩, List.mem_of_getElem? (i := 577) (by decide +kernel), List.mem_of_getElem? (i := 736) (by decide +kernel), List.mem_of_getElem? (i := 737) (by decide +kernel)⟩
theorem lw_p24 : lw_okq (⟨"JoinedListsModel", "isUneven", "()Z"⟩, 30) := ⟨⟨by decide +kernel, by decide +kernel⟩, List.mem_of_getElem? (i := 577) (by decide +kernel), List.mem_of_getElem? (i := 744) (by decide +kernel), List.mem_of_getElem? (i := 745) (by decide +kernel)⟩
theorem lw_p25 : lw_okq (⟨"JoinedListsModel", "come", "(IIJ)V"⟩, 30) := ⟨⟨by decide +kernel, by decide +kernel⟩, List.mem_of_getElem? (i := 577) (by decide +kernel), List.mem_of_getElem? (i := 749) (by decide +kernel), List.mem_of_getElem? (i := 750) (by decide +kernel)⟩
theorem lw_p26 : lw_okq (⟨"JoinedListsModel", "found", "(II)I"⟩, 30) := ⟨⟨by decide +kernel, by decide +kernel⟩, List.mem_of_getElem? (i := 577) (by decide +kernel), List.mem_of_getElem? (i := 753) (by decide +kernel), List.mem_of_getElem? (i := 754) (by decide +kernel)⟩
theorem lw_p27 : lw_okq (⟨"JoinedListsModel", "isThere", "(II)Z"⟩, 30) := ⟨⟨by decide +kernel, by decide +kernel⟩, List.mem_of_getElem? (i := 577) (by decide +kernel), List.mem_of_getElem? (i := 757) (by decide +kernel), List.mem_of_getElem? (i := 758) (by decide +kernel)⟩
theorem lw_p28 : lw_okq (⟨"JoinedListsModel", "least", "()I"⟩, 30) := ⟨⟨by decide +kernel, by decide +kernel⟩, List.mem_of_getElem? (i := 577) (by decide +kernel), List.mem_of_getElem? (i := 765) (by decide +kernel), List.mem_of_getElem? (i := 766) (by decide +kernel)⟩
theorem lw_p29 : lw_okq (⟨"JoinedListsModel", "isRoom", "(I)Z"⟩, 30) := ⟨⟨by decide +kernel, by decide +kernel⟩, List.mem_of_getElem? (i := 577) (by decide +kernel), List.mem_of_getElem? (i := 769) (by decide +kernel), List.mem_of_getElem? (i := 770) (by decide +kernel)⟩
theorem lw_p30 : lw_okq (⟨"JoinedListsModel", "go", "(IIJ)V"⟩, 30) := ⟨⟨by decide +kernel, by decide +kernel⟩, List.mem_of_getElem? (i := 577) (by decide +kernel), List.mem_of_getElem? (i := 773) (by decide +kernel), List.mem_of_getElem? (i := 774) (by decide +kernel)⟩
theorem lw_p31 : lw_okq (⟨"JoinedListsModel", "make", "(IJ)V"⟩, 30) := ⟨⟨by decide +kernel, by decide +kernel⟩, List.mem_of_getElem? (i := 577) (by decide +kernel), List.mem_of_getElem? (i := 787) (by decide +kernel), List.mem_of_getElem? (i := 788) (by decide +kernel)⟩
def lw_privs_2 : List (MethodName × Nat) := [(⟨"JoinedLists$Survey", "follow", "(IIJI)V"⟩, 5), (⟨"JoinedLists$Survey", "branch", "(IIJI)V"⟩, 5), (⟨"JoinedLists$Survey", "addAtEnd", "(IJ)V"⟩, 5), (⟨"java/lang/Throwable", "fillInStackTrace", "(I)Ljava/lang/Throwable;"⟩, 6), (⟨"JoinedListsModel", "reset", "()V"⟩, 30), (⟨"JoinedListsModel", "added", "(IIIII)I"⟩, 30), (⟨"JoinedListsModel", "liven", "()V"⟩, 30), (⟨"JoinedListsModel", "passed", "(I)I"⟩, 30), (⟨"JoinedListsModel", "isUneven", "()Z"⟩, 30), (⟨"JoinedListsModel", "come", "(IIJ)V"⟩, 30), (⟨"JoinedListsModel", "found", "(II)I"⟩, 30), (⟨"JoinedListsModel", "isThere", "(II)Z"⟩, 30), (⟨"JoinedListsModel", "least", "()I"⟩, 30), (⟨"JoinedListsModel", "isRoom", "(I)Z"⟩, 30), (⟨"JoinedListsModel", "go", "(IIJ)V"⟩, 30), (⟨"JoinedListsModel", "make", "(IJ)V"⟩, 30)]
theorem lw_r2 : ∀ q ∈ lw_privs_2, lw_okq q := List.forall_mem_cons.mpr ⟨lw_p16, List.forall_mem_cons.mpr ⟨lw_p17, List.forall_mem_cons.mpr ⟨lw_p18, List.forall_mem_cons.mpr ⟨lw_p19, List.forall_mem_cons.mpr ⟨lw_p20, List.forall_mem_cons.mpr ⟨lw_p21, List.forall_mem_cons.mpr ⟨lw_p22, List.forall_mem_cons.mpr ⟨lw_p23, List.forall_mem_cons.mpr ⟨lw_p24, List.forall_mem_cons.mpr ⟨lw_p25, List.forall_mem_cons.mpr ⟨lw_p26, List.forall_mem_cons.mpr ⟨lw_p27, List.forall_mem_cons.mpr ⟨lw_p28, List.forall_mem_cons.mpr ⟨lw_p29, List.forall_mem_cons.mpr ⟨lw_p30, List.forall_mem_cons.mpr ⟨lw_p31, fun _ h => absurd h List.not_mem_nil⟩⟩⟩⟩⟩⟩⟩⟩⟩⟩⟩⟩⟩⟩⟩⟩
theorem lw_p32 : lw_okq (⟨"JoinedListsModel", "cut", "(II)I"⟩, 30) := ⟨⟨by decide +kernel, by decide +kernel⟩, List.mem_of_getElem? (i := 577) (by decide +kernel), List.mem_of_getElem? (i := 797) (by decide +kernel), List.mem_of_getElem? (i := 798) (by decide +kernel)⟩
theorem lw_p33 : lw_okq (⟨"JoinedListsModel", "sumAt", "(III)J"⟩, 30) := ⟨⟨by decide +kernel, by decide +kernel⟩, List.mem_of_getElem? (i := 577) (by decide +kernel), List.mem_of_getElem? (i := 823) (by decide +kernel), List.mem_of_getElem? (i := 824) (by decide +kernel)⟩
theorem lw_p34 : lw_okq (⟨"JoinedListsModel", "listed", "(II)I"⟩, 30) := ⟨⟨by decide +kernel, by decide +kernel⟩, List.mem_of_getElem? (i := 577) (by decide +kernel), List.mem_of_getElem? (i := 835) (by decide +kernel), List.mem_of_getElem? (i := 836) (by decide +kernel)⟩
theorem lw_p35 : lw_okq (⟨"JoinedListsModel", "lay", "(IIJ)V"⟩, 30) := ⟨⟨by decide +kernel, by decide +kernel⟩, List.mem_of_getElem? (i := 577) (by decide +kernel), List.mem_of_getElem? (i := 839) (by decide +kernel), List.mem_of_getElem? (i := 840) (by decide +kernel)⟩
def lw_privs_3 : List (MethodName × Nat) := [(⟨"JoinedListsModel", "cut", "(II)I"⟩, 30), (⟨"JoinedListsModel", "sumAt", "(III)J"⟩, 30), (⟨"JoinedListsModel", "listed", "(II)I"⟩, 30), (⟨"JoinedListsModel", "lay", "(IIJ)V"⟩, 30)]
theorem lw_r3 : ∀ q ∈ lw_privs_3, lw_okq q := List.forall_mem_cons.mpr ⟨lw_p32, List.forall_mem_cons.mpr ⟨lw_p33, List.forall_mem_cons.mpr ⟨lw_p34, List.forall_mem_cons.mpr ⟨lw_p35, fun _ h => absurd h List.not_mem_nil⟩⟩⟩⟩
def lw_privs : List (MethodName × Nat) := lw_privs_1 ++ (lw_privs_2 ++ (lw_privs_3))
def lw_tbl : List Cond := k2_sels lw_privs ++ tables_1
theorem lw_privs_ok : ∀ q ∈ lw_privs, lw_okq q := by
  show ∀ q ∈ lw_privs_1 ++ (lw_privs_2 ++ (lw_privs_3)), lw_okq q
  exact List.forall_mem_append.mpr ⟨lw_r1, List.forall_mem_append.mpr ⟨lw_r2, lw_r3⟩⟩
end
section
def va_AOA (t : FieldType) (U : State) : Prop := (Cond.arrayOver (.array t)).before #[] U = true
theorem va_AOA.of {t : FieldType} {A : Array Value} {U : State} (h : (Cond.arrayOver (.array t)).before A U = true) : va_AOA t U := h
theorem va_AOA.use {t : FieldType} {A : Array Value} {U : State} (h : va_AOA t U) : (Cond.arrayOver (.array t)).before A U = true := h
/-! ===== BEGIN words of one list among another's, by their places ===== -/
theorem goodIn_r {big : List Cond} (ws : List Cond) (ps : List Nat) (hp : ws = ps.filterMap (fun i => big[i]?)) (h : ws.all goodWord = true) : GoodIn big ws := by
  intro w hw
  have h1 := List.all_eq_true.mp h w hw
  rw [hp] at hw
  obtain ⟨i, -, hi⟩ := List.mem_filterMap.mp hw
  have hm : w ∈ big := by first | exact List.mem_of_getElem? hi | exact List.getElem?_mem hi
  exact ⟨hm, good_of_word h1⟩
theorem goodIn_app {big a b : List Cond} (ha : GoodIn big a) (hb : GoodIn big b) : GoodIn big (a ++ b) := fun w h => (List.mem_append.mp h).elim (ha w) (hb w)
theorem goodIn_ca {big a b : List Cond} {c : Cond} (ha : GoodIn big (c :: a)) (hb : GoodIn big b) : GoodIn big (c :: (a ++ b)) := fun w h => (List.mem_cons.mp h).elim (fun e => ha w (List.mem_cons.mpr (Or.inl e))) (fun h => (List.mem_append.mp h).elim (fun h => ha w (List.mem_cons.mpr (Or.inr h))) (hb w))
theorem goodIn_sub {big ws : List Cond} (hm : ∀ w ∈ ws, w ∈ big) (h : ws.all goodWord = true) : GoodIn big ws := fun w hw => ⟨hm w hw, good_of_word (List.all_eq_true.mp h w hw)⟩
/-! ===== END ===== -/

/-! ===== BEGIN new T[n][m]: the outer array a place, the inner ones among the pooled ===== -/
/-- f, but v at every address of l -/
def vr_up {α : Type} (f : Nat → α) (l : List Nat) (v : α) : Nat → α := fun a => if a ∈ l then v else f a
theorem vr_up_in {α : Type} {f : Nat → α} {l : List Nat} {v : α} {a : Nat} (h : a ∈ l) : vr_up f l v a = v := if_pos h
theorem vr_up_ne {α : Type} {f : Nat → α} {l : List Nat} {v : α} {a : Nat} (h : a ∉ l) : vr_up f l v a = f a := if_neg h
theorem vr_rows {L l : List Nat} {f : Nat → va_E} {e : va_E} (h : ∀ a, a ∈ l → a ∉ L) : va_pl L f ++ l.map (fun a => (a, e)) = va_pl (L ++ l) (vr_up f l e) := by
  unfold va_pl
  rw [List.map_append]
  congr 1
  · apply List.map_congr_left
    intro a ha
    rw [vr_up_ne (fun q => h a q ha)]
  · apply List.map_congr_left
    intro a ha
    rw [vr_up_in ha]
theorem vr_lay {X rows : va_W} {x : Nat × va_E} {pl : va_W} {D : va_G} {cl : List vw_C} {H : Heap} (hP : va_P D cl (((X ++ pl) ++ [x]) ++ rows) H) : va_P D cl ((X ++ [x]) ++ (pl ++ rows)) H := by
  rw [List.append_assoc (X ++ pl)] at hP
  have h := va_P.swap hP
  rw [← List.append_assoc X] at h
  have h2 := va_P.swap h
  rw [List.append_assoc (X ++ [x])] at h2
  exact h2
theorem vr_layD {X rows : va_W} {x : Nat × va_E} {pl : va_W} {A : Nat → Prop} (hD : va_D A (((X ++ pl) ++ [x]) ++ rows)) : va_D A ((X ++ [x]) ++ (pl ++ rows)) := by
  rw [List.append_assoc (X ++ pl)] at hD
  have h := va_D.swap hD
  rw [← List.append_assoc X] at h
  have h2 := va_D.swap h
  rw [List.append_assoc (X ++ [x])] at h2
  exact h2
theorem vr_outer (c : ClassId) (N h0 : Nat) : ∀ i : Nat, Jvm.Free.Multi.outerC c N h0 i = arrV c N (fun j => va_rf (if j < i then some (h0 + 1 + j) else none))
  | 0 => by
    show ({ cls := c, slots := Array.replicate N .null, vm := .none } : Cell) = _
    rw [arrV_new]
    refine congrArg (arrV c N) (funext fun j => ?_)
    simp [va_rf]
  | i + 1 => by
    show (Jvm.Free.Multi.outerC c N h0 i).setSlot i (.ref (h0 + 1 + i)) = _
    rw [vr_outer c N h0 i, arrV_store]
    refine congrArg (arrV c N) (funext fun j => ?_)
    by_cases e : j = i
    · subst e
      simp [updV, va_rf]
    · by_cases h : j < i
      · simp [updV, e, h, Nat.lt_succ_of_lt h]
      · simp [updV, e, h, show ¬ j < i + 1 by omega]
section VGM
variable {p : Program} {l : Launch} {e : Env} {R : Room} {s : State} {m : MethodId} {args : Array Value} {below : List Frame} {meth : Method} {c : Code} {H : Heap} {locs : List Loc} {cells slots : Nat} {Q : State → Prop}
variable {cc : ByteArray} {pc : Nat} {ls : Array Slot} {rest : List Value} {D : va_G} {cl : List vw_C} {A : Nat → Prop} {a : Nat} {tys : List (ClassId × FieldType)} {ws : va_W} {H0 : Heap}
theorem va_mna {X : va_W} {L : List Nat} {f : Nat → va_E} {cc : ByteArray} (hexec : p.tables.exec = Jvm.exec) (hb : c.code = cc) {own : String} {index : Nat} {ty : FieldType} {cy : ClassId} (hown : s.vm.findClass own = some m.cls) (hclink : (Cond.classLink own index ("[" ++ (FieldType.array ty).toString)).before args s = true) (hover : va_AOA ty s) (harr : (Cond.arrayClass ty).before args s = true) (hcy : s.vm.findClass (FieldType.array ty).toString = some cy)
    (hK : va_K D cl tys s) (hP : va_P D cl (X ++ va_pl L f) H) (hD : va_D A (X ++ va_pl L f)) (hS : va_S A H0 H locs) (hA : ∀ q, H0.size ≤ q → A q) {n k : Int32} {N' K' : Nat} {z : vp_A} (hn : ¬ n < 0) (hk : ¬ k < 0) (hN : n.toNatClampNeg = N') (hM : k.toNatClampNeg = K')
    (hb1 : N' * 4 ≤ 536870912) (hb2 : K' * componentBytes ty ≤ 536870912) (hb3 : K' ≤ 536870912) (hdf : fits ty (defaultValue ty) = true) (hdd : (defaultValue ty).isDefault = true) (hcells : cells + (1 + N') ≤ R.cells) (hslots : slots + (N' + N' * K') ≤ R.slots) (hz : ∀ c : ClassId, Jvm.Free.Multi.innerC c K' (defaultValue ty) = vp_cell c z) (hdg : decode cc pc = .ok (.multianewarray index 2, 4))
    (kk : ∀ (q : Nat) (r : Nat → Nat) (cA : ClassId) (H1 : Heap), (∀ i j : Nat, i < N' → j < N' → r i = r j → i = j) → (∀ i : Nat, i < N' → r i ∉ L) → va_K D cl (tys ++ [(cA, .array ty)]) s →
      va_P D cl ((X ++ [(q, .inl (cA, N', .inr (.inr (.inr (.inr (fun i => if i < N' then some (r i) else none))))))]) ++ va_pl (L ++ (List.range N').map r) (vr_up f ((List.range N').map r) (.inl (cy, z)))) H1 → va_D A ((X ++ [(q, .inl (cA, N', .inr (.inr (.inr (.inr (fun i => if i < N' then some (r i) else none))))))]) ++ va_pl (L ++ (List.range N').map r) (vr_up f ((List.range N').map r) (.inl (cy, z)))) → va_S A H0 H1 locs →
      W p l e R s m args below meth c H1 locs (cells + 1 + N') (slots + N' + N' * K') Q (F0 m (pc + 4) ls (.ref q :: rest))) : W p l e R s m args below meth c H locs cells slots Q (F0 m pc ls (.int k :: .int n :: rest)) := by
  subst hN
  subst hM
  intro T hT Xs
  obtain ⟨vm₁, cA, comp, -, fA, fC, hO, -, X', step⟩ := Xs.multianewarray2F hexec hown hclink (va_AOA.use hover) harr (g := F0 m pc ls (.int k :: .int n :: rest)) rfl (by rw [hb]; exact hdg) rfl hn hk hb1 hb2 hb3 hdf hdd hcells hslots
  have ec : some cy = some comp := hcy.symm.trans fC
  cases ec
  generalize hF : Jvm.Free.Multi.fill (T.setVm vm₁) cA cy n.toNatClampNeg k.toNatClampNeg (defaultValue ty) n.toNatClampNeg = F at X' step
  have hTh : (T.setVm vm₁).heap = H := hT
  obtain ⟨f1, f2, -, -⟩ := Jvm.Free.Multi.fill_facts (T.setVm vm₁) cA cy n.toNatClampNeg k.toNatClampNeg (defaultValue ty) n.toNatClampNeg
  rw [hF, hTh] at f1 f2
  have hold : ∀ x : Nat, x < H.size → F.heap[x]? = H[x]? := fun x hx => by
    have := Jvm.Free.Multi.fill_old (T.setVm vm₁) cA cy n.toNatClampNeg k.toNatClampNeg (defaultValue ty) (a := x) (by rw [hTh]; exact hx) n.toNatClampNeg
    rw [hF, hTh] at this
    exact this
  have hrow : ∀ j : Nat, j < n.toNatClampNeg → F.heap[H.size + 1 + j]? = some (vp_cell cy z) := fun j hj => by
    have := Jvm.Free.Multi.fill_inner (T.setVm vm₁) cA cy n.toNatClampNeg k.toNatClampNeg (defaultValue ty) n.toNatClampNeg j hj
    rw [hF, hTh, hz] at this
    exact this
  have hout : Jvm.Free.Multi.outerC cA n.toNatClampNeg H.size n.toNatClampNeg = vp_cell cA (n.toNatClampNeg, .inr (.inr (.inr (.inr (fun i => if i < n.toNatClampNeg then some (H.size + 1 + i) else none))))) := by
    rw [vp_cell_q]
    exact vr_outer cA n.toNatClampNeg H.size n.toNatClampNeg
  rw [hout] at f2
  have hlt : ∀ a, a ∈ L → a < H.size := fun a ha => by
    obtain ⟨k9, hk9⟩ := va_pl_get (X := X) (f := f) ha
    exact (hP k9 _ hk9).lt
  have hnl : ∀ i : Nat, i < n.toNatClampNeg → H.size + 1 + i ∉ L := fun i _ h => by
    have := hlt _ h
    omega
  have hnm : ∀ a, a ∈ (List.range n.toNatClampNeg).map (fun i => H.size + 1 + i) → a ∉ L := fun a ha h => by
    obtain ⟨i, -, rfl⟩ := List.mem_map.mp ha
    have := hlt _ h
    omega
  have hP0 : va_P D cl (X ++ va_pl L f) F.heap := hP.kept (fun k9 x hx => hold x.1 ((hP k9 x hx).lt))
  have hP1 : va_P D cl ((X ++ va_pl L f) ++ [(H.size, .inl (cA, n.toNatClampNeg, .inr (.inr (.inr (.inr (fun i => if i < n.toNatClampNeg then some (H.size + 1 + i) else none))))))]) F.heap := hP0.app (fun k9 x hx => by
    have h0 : k9 < 1 := (List.getElem?_eq_some_iff.mp hx).1
    rw [show k9 = 0 by omega] at hx
    cases hx
    exact f2)
  have hP2 : va_P D cl (((X ++ va_pl L f) ++ [(H.size, .inl (cA, n.toNatClampNeg, .inr (.inr (.inr (.inr (fun i => if i < n.toNatClampNeg then some (H.size + 1 + i) else none))))))]) ++ ((List.range n.toNatClampNeg).map (fun i => H.size + 1 + i)).map (fun a => (a, .inl (cy, z)))) F.heap := hP1.app (fun k9 x hx => by
    obtain ⟨a, ha, rfl⟩ := List.mem_map.mp (List.mem_of_getElem? hx)
    obtain ⟨i, hi, rfl⟩ := List.mem_map.mp ha
    exact hrow i (List.mem_range.mp hi))
  have hD2 : va_D A (((X ++ va_pl L f) ++ [(H.size, .inl (cA, n.toNatClampNeg, .inr (.inr (.inr (.inr (fun i => if i < n.toNatClampNeg then some (H.size + 1 + i) else none))))))]) ++ ((List.range n.toNatClampNeg).map (fun i => H.size + 1 + i)).map (fun a => (a, .inl (cy, z)))) := by
    have hD1 := hD.push (e := .inl (cA, n.toNatClampNeg, .inr (.inr (.inr (.inr (fun i => if i < n.toNatClampNeg then some (H.size + 1 + i) else none)))))) hP rfl (hA _ hS.1)
    generalize hW1 : (X ++ va_pl L f) ++ [(H.size, .inl (cA, n.toNatClampNeg, .inr (.inr (.inr (.inr (fun i => if i < n.toNatClampNeg then some (H.size + 1 + i) else none))))))] = W1 at hD1 hP1 ⊢
    have hle : ∀ (k9 : Nat) (x : Nat × va_E), W1[k9]? = some x → x.1 ≤ H.size := fun k9 x hx => by
      rw [← hW1] at hx
      by_cases hl : k9 < (X ++ va_pl L f).length
      · rw [List.getElem?_append_left hl] at hx
        exact Nat.le_of_lt ((hP k9 x hx).lt)
      · rw [List.getElem?_append_right (by omega)] at hx
        have h0 : k9 - (X ++ va_pl L f).length < 1 := (List.getElem?_eq_some_iff.mp hx).1
        rw [show k9 - (X ++ va_pl L f).length = 0 by omega] at hx
        cases hx
        exact Nat.le_refl _
    have hr : ∀ (k9 : Nat) (x : Nat × va_E), (((List.range n.toNatClampNeg).map (fun i => H.size + 1 + i)).map (fun a => ((a, .inl (cy, z)) : Nat × va_E)))[k9]? = some x → x.1 = H.size + 1 + k9 := fun k9 x hx => by
      rw [List.getElem?_map, List.getElem?_map] at hx
      by_cases h9 : k9 < n.toNatClampNeg
      · rw [List.getElem?_range h9] at hx
        cases hx
        rfl
      · have hn0 : (List.range n.toNatClampNeg)[k9]? = none := List.getElem?_eq_none (by rw [List.length_range]; omega)
        rw [hn0] at hx
        cases hx
    refine ⟨fun i j x y hi hj hxy => ?_, fun k9 x hx => ?_⟩
    · by_cases h1 : i < W1.length <;> by_cases h2 : j < W1.length
      · rw [List.getElem?_append_left h1] at hi
        rw [List.getElem?_append_left h2] at hj
        exact hD1.1 i j x y hi hj hxy
      · rw [List.getElem?_append_left h1] at hi
        rw [List.getElem?_append_right (by omega)] at hj
        have := hle _ _ hi
        have := hr _ _ hj
        omega
      · rw [List.getElem?_append_right (by omega)] at hi
        rw [List.getElem?_append_left h2] at hj
        have := hle _ _ hj
        have := hr _ _ hi
        omega
      · rw [List.getElem?_append_right (by omega)] at hi hj
        have := hr _ _ hi
        have := hr _ _ hj
        omega
    · by_cases h1 : k9 < W1.length
      · rw [List.getElem?_append_left h1] at hx
        exact hD1.2 k9 x hx
      · rw [List.getElem?_append_right (by omega)] at hx
        have := hr _ _ hx
        exact hA _ (by have := hS.1; omega)
  have hAr : ArrOfT s cA (.array ty) := fun N9 z9 => by
    obtain ⟨-, k9, hk9, cm9, hkk9⟩ := (hO 0 0 0).1
    exact ⟨(fun q hq => by cases hq), k9, hk9, cm9, hkk9⟩
  have hK2 : va_K D cl (tys ++ [(cA, .array ty)]) s := ⟨hK.1, fun k9 x hx => by
    by_cases hl : k9 < tys.length
    · rw [List.getElem?_append_left hl] at hx
      exact hK.2 k9 x hx
    · rw [List.getElem?_append_right (by omega)] at hx
      have h0 : k9 - tys.length < 1 := (List.getElem?_eq_some_iff.mp hx).1
      rw [show k9 - tys.length = 0 by omega] at hx
      cases hx
      exact ⟨hAr, fA⟩⟩
  obtain ⟨t, a1, b1⟩ := kk H.size (fun i => H.size + 1 + i) cA F.heap (fun i j _ _ h => by have h9 : H.size + 1 + i = H.size + 1 + j := h; omega) hnl hK2 (by rw [← vr_rows hnm]; exact vr_lay hP2) (by rw [← vr_rows hnm]; exact vr_layD hD2) ⟨by rw [f1]; have := hS.1; omega, fun x h1 h2 => (hold x (Nat.lt_of_lt_of_le h1 hS.1)).trans (hS.2.1 x h1 h2), hS.2.2⟩ F rfl X'
  refine ⟨t, step t ?_, b1⟩
  have e : T.heap.size = H.size := by rw [hT]
  rw [e]
  exact a1
end VGM
/-! ===== END ===== -/
end
section
/-! ===== BEGIN exceptions that leave a method, and their catching by the caller (launches without stack traces) ===== -/
section VXA
/-! The laws vx_back, vx_callV, vx_callS, vx_callSW, vx_throw0, vx_throwS follow proofs of the library, with one case more: JvmDerived/Free/Laws.lean (Back.of_free), Shelf42/LK1.lean (callV, callS), Shelf/KitTraced.lean (throwNew0V, throwNewS). -/
/-- where a method has thrown q: the class by its name, the cell, what was written, the world -/
def vx_T (XC : String → State → State → Prop) (st : State) (q : Addr) (t : State) (mc ms : Nat) (free : Addr → Prop) : Prop :=
  ∃ (E : String) (ce : Cell) (L : List Loc), XC E st t ∧ t.heap[q]? = some ce ∧ ce.vm = .none ∧ st.vm.findClass E = some ce.cls ∧ st.WarmedH t.vm ∧ st.sameButNew ({ t with vm := st.vm } : State) L mc ms ∧ ∀ z ∈ L, free z.base
def vx_Q (Qc : Array Value → State → Outcome → State → Prop) (XC : String → State → State → Prop) (mc ms : Nat) (free : Addr → Prop) : Array Value → State → Outcome → State → Prop := fun a st o t =>
  (Qc a st o t ∧ ∃ L, FrameEnd st o t L mc ms ∧ ∀ q ∈ L, free q.base) ∨ ∃ q, o = .threw q ∧ vx_T XC st q t mc ms free
/-- a callee that returns or throws -/
def vx_Met (l : Launch) (y : MethodName) (ws : List Cond) (rm : Room) (Pc : Array Value → State → Prop) (Qc : Array Value → State → Outcome → State → Prop) (XC : String → State → State → Prop) (mc ms : Nat) (free : Addr → Prop) : Prop :=
  MetFree l y (headSpec ws rm) Pc (fun _ _ _ _ _ => True) (vx_Q Qc XC mc ms free)
def vx_Post (XC : String → State → State → Prop) (mc ms : Nat) (free : Addr → Prop) : Pt → Array Value → Addr → Pt → Prop := fun A a q B =>
  ∃ (g : JFrame) (mk : MethodId) (t : State) (L : List Loc) (E : String) (ce : Cell), B.U.heap = t.heap ∧ B.U.vm = t.vm ∧ XC E (A.U.calling g mk a) t ∧ t.heap[q]? = some ce ∧ ce.vm = .none ∧ A.U.vm.findClass E = some ce.cls ∧ B.locs = A.locs ++ L ∧ (∀ z ∈ L, free z.base) ∧ B.cells = A.cells + mc ∧ B.slots = A.slots + ms
def vx_Back (l : Launch) (R : Room) (p : Program) (e : Env) (below : List Frame) (s : State) (sargs : Array Value) (y : MethodName) (len W9 : Nat)
    (Pre : Pt → Array Value → Prop) (Post : Pt → Array Value → Option Value → Pt → Prop) (PostX : Pt → Array Value → Addr → Pt → Prop) : Prop :=
  ∀ (m : MethodId) (meth : Method) (c : Code) (A : Pt) (g : JFrame) (ig : Instr) (mk : MethodId) (a : Array Value),
    Stand p l e R s m sargs below meth c A.U A.locs A.cells A.slots → g.method = m → g.locals.size = c.maxLocals → decode c.code g.pc = .ok (ig, len) →
    2 * g.monitorRoom + (g.stack.map fun v => v.category).sum ≤ W9 → A.U.methodNamed? y = some mk → Pre A a →
    (∃ (v : Option Value) (B : Pt), Stand p l e R s m sargs below meth c B.U B.locs B.cells B.slots ∧ Post A a v B ∧
      Steps p.tables e below (doInvoke e (A.U.setTop g) [] mk a).1 (B.U.setTop { g with pc := g.pc + len, stack := v.toList ++ g.stack })) ∨
    (∃ (q : Addr) (B : Pt), Stand p l e R s m sargs below meth c B.U B.locs B.cells B.slots ∧ PostX A a q B ∧
      Steps p.tables e below (doInvoke e (A.U.setTop g) [] mk a).1 ((B.U.setTop g).pushFrame (.throwing q)))
section Payer
variable {l : Launch} {R : Room} {p : Program} {e : Env} {below : List Frame} {s : State} {sargs : Array Value} {y : MethodName} {len W9 : Nat}
theorem vx_back {ws : List Cond} {rm : Room} {Pc : Array Value → State → Prop} {Qc : Array Value → State → Outcome → State → Prop} {XC : String → State → State → Prop} {mc ms : Nat} {free : Addr → Prop} {bytes : ByteArray} {maxL : Nat} {ret : Option FieldType}
    (hM : vx_Met l y ws rm Pc Qc XC mc ms free) (hblind : FrameBlind Pc) (hrc : rm.cells = mc) (hrs : rm.slots = ms)
    (hframes : rm.frames + 1 ≤ R.frames) (hlocals : W9 + (maxL + 11) + rm.locals ≤ R.locals)
    (hws : ∀ w ∈ ws, ∀ a' U, s.WarmedH U.vm → w.before a' U = true) (hcode : Cond.code y bytes maxL ret ∈ ws) (hinit : ∀ a' U, s.WarmedH U.vm → (Cond.initialized y.cls).before a' U = true) :
    vx_Back l R p e below s sargs y len W9 (PreOf R mc ms Pc) (PostOf Qc mc ms free) (vx_Post XC mc ms free) := by
  intro m meth c A g ig mk a X hg hsize hdg hW hn hp
  have h1 : (headSpec ws rm).pre.before a A.U = true := atoms_intro fun w hw => hws w hw _ _ X.warmed
  have h2 : (Cond.code y bytes maxL ret).before a A.U = true := hws _ hcode _ _ X.warmed
  have h3 : (Cond.initialized y.cls).before a A.U = true := hinit _ _ X.warmed
  have h4 : A.cells + (headSpec ws rm).room.cells ≤ R.cells := by rw [show (headSpec ws rm).room.cells = mc from hrc]; exact hp.1
  have h5 : A.slots + (headSpec ws rm).room.slots ≤ R.slots := by rw [show (headSpec ws rm).room.slots = ms from hrs]; exact hp.2.1
  have hPc : Pc a (A.U.calling g mk a) := hblind _ _ _ _ hp.2.2
  obtain ⟨U, Ls, c0, s0⟩ := A
  dsimp only [Pt.U, Pt.locs, Pt.cells, Pt.slots] at h1 h2 h3 h4 h5 X hn hPc ⊢
  obtain ⟨methY, cY, hmY, hcY, -, hlY, -, -, -, -⟩ := Cond.code_spec hn h2
  obtain ⟨kY, hkY, -⟩ := className_of_methodNamed hn
  have hinitY : kY.init = .initialized := Cond.initialized_spec (findClass_of_methodNamed hn) hkY h3
  have h : At U g.method c below := by rw [hg]; exact X.here
  have hlocals9 : W9 + (maxL + 11) + (headSpec ws rm).room.locals ≤ R.locals := hlocals
  have happ : (headSpec ws rm).appliesLoose y e.platform (U.calling g mk a) = true :=
    Spec.appliesLoose_calling (g := g) h hdg hn hkY hinitY
      (X.room_calling (g := g) (R' := (headSpec ws rm).room) hsize hmY hcY hframes (by rw [hlY]; omega) h4 h5) h1
  obtain ⟨mid, hmid⟩ := h.above
  have hfr : (U.setTop g).frames = (.java g :: mid) ++ below := by rw [State.frames_setTop' g h.top, hmid]; rfl
  obtain ⟨o, s₂, hsteps, -, hend, hq⟩ := Steps.callFree hM p X.admits X.cas X.clock (acts := []) hfr happ hPc trivial
  have hq' : vx_Q Qc XC mc ms free a (U.calling g mk a) o s₂ := hq
  rw [State.frames_setTop' g h.top] at hend
  obtain ⟨g₀, hg0⟩ := Option.isSome_iff_exists.mp h.top
  obtain ⟨r, hr⟩ := State.topJava?_eq_some.mp hg0
  have hr' : (({ U with heap := s₂.heap, slotsUsed := s₂.slotsUsed } : State).setVm s₂.vm).frames = .java g₀ :: r := hr
  rcases hq' with ⟨hqc, L, hfe, hL⟩ | ⟨q, rfl, E, ce, L, hx, hce, hcv, hcl, hW₂, hsm, hL⟩
  · obtain ⟨⟨v, rfl⟩, hW₂, e2, q2, q3, q4, q5, q6⟩ := id hfe
    have e3 : s₂ = ({ (U.calling g mk a).setFrames s₂.frames with heap := s₂.heap, slotsUsed := s₂.slotsUsed } : State).setVm s₂.vm := by
      have : s₂ = ({ s₂ with vm := (U.calling g mk a).vm } : State).setVm s₂.vm := rfl
      rw [e2] at this
      exact this
    obtain ⟨c₂, i₂, len₂, hc₂, hd₂, hf₂⟩ := hend
    have hW' : U.WarmedH s₂.vm := hW₂
    have hcc : c₂ = c := by
      have h1 : s₂.code? g.method = U.code? g.method := by
        rw [State.code?_eq, State.code?_eq, hW'.alike.method?]
      exact Option.some.inj (hc₂.symm.trans (h1.trans h.code))
    subst hcc
    have hlen : len₂ = len := by rw [hdg] at hd₂; cases hd₂; rfl
    subst hlen
    have hs₂ : s₂ = (({ U with heap := s₂.heap, slotsUsed := s₂.slotsUsed } : State).setVm s₂.vm).setTop { g with pc := g.pc + len₂, stack := v.toList ++ g.stack } := by
      refine e3.trans ?_
      rw [hf₂, State.calling_eq h.top, State.setFrames_setFrames, State.setTop_of_frames _ hr', hr]
      rfl
    have hsame : U.sameButNew ({ U with heap := s₂.heap, slotsUsed := s₂.slotsUsed } : State) L mc ms := by
      refine ⟨?_, q2, q3, q4, q5, q6⟩
      obtain ⟨t, ht, -⟩ := State.frames_cons hr
      show ({ U with heap := s₂.heap, slotsUsed := s₂.slotsUsed } : State) = { U.setFrames U.frames with heap := s₂.heap, slotsUsed := s₂.slotsUsed }
      rw [State.setFrames_self ht]
    subst hg
    refine Or.inl ⟨v, ⟨(({ U with heap := s₂.heap, slotsUsed := s₂.slotsUsed } : State).setVm s₂.vm), Ls ++ L, c0 + mc, s0 + ms⟩,
      ⟨X.admits, X.cas, X.clock, X.frames, X.room, X.hears, X.method, X.code, (X.here.setHeapUsed s₂.heap s₂.slotsUsed).setVm hW'.alike, X.tail, State.WarmedH.trans X.warmed hW', X.limits, X.bytes, X.same.trans (hsame.setVm s.vm)⟩,
      ⟨g, mk, s₂, L, rfl, rfl, hqc, rfl, hL, rfl, rfl⟩, ?_⟩
    show Steps p.tables e below _ ((({ U with heap := s₂.heap, slotsUsed := s₂.slotsUsed } : State).setVm s₂.vm).setTop { g with pc := g.pc + len₂, stack := v.toList ++ g.stack })
    rw [← hs₂]
    exact hsteps
  · obtain ⟨e2, q2, q3, q4, q5, q6⟩ := id hsm
    have e3 : s₂ = ({ (U.calling g mk a).setFrames s₂.frames with heap := s₂.heap, slotsUsed := s₂.slotsUsed } : State).setVm s₂.vm := by
      have : s₂ = ({ s₂ with vm := (U.calling g mk a).vm } : State).setVm s₂.vm := rfl
      rw [e2] at this
      exact this
    have hf₂ : s₂.frames = .throwing q :: .java g :: U.frames.tail := hend
    have hW' : U.WarmedH s₂.vm := hW₂
    have hs₂ : s₂ = ((({ U with heap := s₂.heap, slotsUsed := s₂.slotsUsed } : State).setVm s₂.vm).setTop g).pushFrame (.throwing q) := by
      refine e3.trans ?_
      rw [hf₂, State.calling_eq h.top, State.setFrames_setFrames, State.pushFrame, State.frames_setTop _ hr', State.setTop_of_frames _ hr', State.setFrames_setFrames, hr]
      rfl
    have hsame : U.sameButNew ({ U with heap := s₂.heap, slotsUsed := s₂.slotsUsed } : State) L mc ms := by
      refine ⟨?_, q2, q3, q4, q5, q6⟩
      obtain ⟨t, ht, -⟩ := State.frames_cons hr
      show ({ U with heap := s₂.heap, slotsUsed := s₂.slotsUsed } : State) = { U.setFrames U.frames with heap := s₂.heap, slotsUsed := s₂.slotsUsed }
      rw [State.setFrames_self ht]
    subst hg
    refine Or.inr ⟨q, ⟨(({ U with heap := s₂.heap, slotsUsed := s₂.slotsUsed } : State).setVm s₂.vm), Ls ++ L, c0 + mc, s0 + ms⟩,
      ⟨X.admits, X.cas, X.clock, X.frames, X.room, X.hears, X.method, X.code, (X.here.setHeapUsed s₂.heap s₂.slotsUsed).setVm hW'.alike, X.tail, State.WarmedH.trans X.warmed hW', X.limits, X.bytes, X.same.trans (hsame.setVm s.vm)⟩,
      ⟨g, mk, s₂, L, E, ce, rfl, rfl, hx, hce, hcv, hcl, rfl, hL, rfl, rfl⟩, ?_⟩
    show Steps p.tables e below _ (((({ U with heap := s₂.heap, slotsUsed := s₂.slotsUsed } : State).setVm s₂.vm).setTop g).pushFrame (.throwing q))
    rw [← hs₂]
    exact hsteps
end Payer
section Calls
variable {p : Program} {l : Launch} {e : Env} {R : Room} {s : State} {m : MethodId} {args : Array Value} {below : List Frame} {meth : Method} {c : Code} {T : State} {locs : List Loc} {cells slots : Nat}
theorem vx_callV (X : Stand p l e R s m args below meth c T locs cells slots) (hexec : p.tables.exec = Jvm.exec) {own C : String} {index : Nat} {y : MethodName} {bytes : ByteArray} {maxL : Nat} {ret : Option FieldType}
    (hown : s.vm.findClass own = some m.cls) (hlink : (Cond.methodLink own index y).before args s = true) (hinst : (Cond.instanceMethod y).before args s = true) (hsel : (Cond.selects C y y).before args s = true)
    (hcode : (Cond.code y bytes maxL ret).before args s = true) (hy : y.cls ≠ "java/lang/invoke/MethodHandle" ∧ y.cls ≠ "java/lang/invoke/VarHandle")
    {W9 : Nat} {Pre : Pt → Array Value → Prop} {Post : Pt → Array Value → Option Value → Pt → Prop} {PostX : Pt → Array Value → Addr → Pt → Prop} (hK : vx_Back l R p e below s args y 3 W9 Pre Post PostX)
    {b : Addr} {cellB : Cell} (hcell : T.heap[b]? = some cellB) (hobj : cellB.vm.isStatics = false) (hcls : s.vm.findClass C = some cellB.cls)
    {g : JFrame} (hg : g.method = m) (hsize : g.locals.size = c.maxLocals) {argsL rest : List Value} (hlen : ∀ sig, parseMethodDescriptor y.desc = some sig → argsL.length = sig.parameters.length)
    (hstack : g.stack = argsL.reverse ++ .ref b :: rest) (hW : 2 * g.monitorRoom + (rest.map fun v => v.category).sum ≤ W9) (hdg : decode c.code g.pc = .ok (.invokevirtual index, 3))
    (hpre : ∀ vm₁, s.WarmedH vm₁ → Pre ⟨T.setVm vm₁, locs, cells, slots⟩ (Value.ref b :: argsL).toArray) :
    (∃ (v : Option Value) (vm₁ : Vm) (B : Pt), s.WarmedH vm₁ ∧ Stand p l e R s m args below meth c B.U B.locs B.cells B.slots ∧ Post ⟨T.setVm vm₁, locs, cells, slots⟩ (Value.ref b :: argsL).toArray v B ∧
      ∀ target, Steps p.tables e below (B.U.setTop { g with pc := g.pc + 3, stack := v.toList ++ rest }) target → Steps p.tables e below (T.setTop g) target) ∨
    (∃ (q : Addr) (vm₁ : Vm) (B : Pt), s.WarmedH vm₁ ∧ Stand p l e R s m args below meth c B.U B.locs B.cells B.slots ∧ PostX ⟨T.setVm vm₁, locs, cells, slots⟩ (Value.ref b :: argsL).toArray q B ∧
      Steps p.tables e below (T.setTop g) ((B.U.setTop { g with stack := rest }).pushFrame (.throwing q))) := by
  obtain ⟨mk, methM, hnamed, hmethM, hstM, habM⟩ := Cond.instanceMethod_spec hinst
  obtain ⟨methM', cM, hmethM', -, -, -, -, -, -, hsigM⟩ := Cond.code_spec hnamed hcode
  cases hmethM.symm.trans hmethM'
  obtain ⟨c2, r2, m2, q1, q2, q3, q4, kP, hkP, hkPi⟩ := Cond.selects_spec hsel
  cases hcls.symm.trans q1
  cases (State.methodFound?_of_named hnamed hy).symm.trans q2
  cases hnamed.symm.trans q3
  have hselP : selectMethod e.platform s.vm cellB.cls mk = .method mk := by rw [Launch.admits_selectMethod X.admits]; exact q4
  obtain ⟨vm₁, X₁, hstep₁⟩ := X.invokevirtual hexec hown hlink hnamed hmethM hstM hkP hkPi hy (a := b) (cell := cellB) hcell
    (fun z h => by rw [h] at hobj; cases hobj) hselP hmethM habM hkP hkPi (g := g) hg (argsL := argsL) (rest := rest) (hlen _ hsigM) hstack hdg
  rcases hK m meth c ⟨T.setVm vm₁, locs, cells, slots⟩ { g with stack := rest } (.invokevirtual index) mk (Value.ref b :: argsL).toArray X₁ hg hsize hdg hW (X₁.named hnamed) (hpre vm₁ X₁.warmed) with ⟨v, B, X', hpost, hsteps⟩ | ⟨q, B, X', hpost, hsteps⟩
  · exact Or.inl ⟨v, vm₁, B, X₁.warmed, X', hpost, fun target h => hstep₁ _ fun acts => by rw [doInvoke_state]; exact hsteps.trans h⟩
  · exact Or.inr ⟨q, vm₁, B, X₁.warmed, X', hpost, hstep₁ _ fun acts => by rw [doInvoke_state]; exact hsteps⟩
theorem vx_callS (X : Stand p l e R s m args below meth c T locs cells slots) (hexec : p.tables.exec = Jvm.exec) {own : String} {index : Nat} {y : MethodName} {bytes : ByteArray} {maxL : Nat} {ret : Option FieldType}
    (hown : s.vm.findClass own = some m.cls) (hlink : (Cond.methodLink own index y).before args s = true) (hstat : (Cond.static y).before args s = true) (hinit : (Cond.initialized y.cls).before args s = true)
    (hcode : (Cond.code y bytes maxL ret).before args s = true) (hy : y.cls ≠ "java/lang/invoke/MethodHandle" ∧ y.cls ≠ "java/lang/invoke/VarHandle")
    {W9 : Nat} {Pre : Pt → Array Value → Prop} {Post : Pt → Array Value → Option Value → Pt → Prop} {PostX : Pt → Array Value → Addr → Pt → Prop} (hK : vx_Back l R p e below s args y 3 W9 Pre Post PostX)
    {g : JFrame} (hg : g.method = m) (hsize : g.locals.size = c.maxLocals) {argsL rest : List Value} (hlen : ∀ sig, parseMethodDescriptor y.desc = some sig → argsL.length = sig.parameters.length)
    (hstack : g.stack = argsL.reverse ++ rest) (hW : 2 * g.monitorRoom + (rest.map fun v => v.category).sum ≤ W9) (hdg : decode c.code g.pc = .ok (.invokestatic index, 3))
    (hpre : ∀ vm₁, s.WarmedH vm₁ → Pre ⟨T.setVm vm₁, locs, cells, slots⟩ argsL.toArray) :
    (∃ (v : Option Value) (vm₁ : Vm) (B : Pt), s.WarmedH vm₁ ∧ Stand p l e R s m args below meth c B.U B.locs B.cells B.slots ∧ Post ⟨T.setVm vm₁, locs, cells, slots⟩ argsL.toArray v B ∧
      ∀ target, Steps p.tables e below (B.U.setTop { g with pc := g.pc + 3, stack := v.toList ++ rest }) target → Steps p.tables e below (T.setTop g) target) ∨
    (∃ (q : Addr) (vm₁ : Vm) (B : Pt), s.WarmedH vm₁ ∧ Stand p l e R s m args below meth c B.U B.locs B.cells B.slots ∧ PostX ⟨T.setVm vm₁, locs, cells, slots⟩ argsL.toArray q B ∧
      Steps p.tables e below (T.setTop g) ((B.U.setTop { g with stack := rest }).pushFrame (.throwing q))) := by
  obtain ⟨mk, hnamed⟩ := Cond.code_named hcode
  obtain ⟨methM, cM, hmethM, -, -, -, -, -, -, hsigM⟩ := Cond.code_spec hnamed hcode
  have hstatic : methM.isStatic = true := Cond.static_spec hnamed hmethM hstat
  obtain ⟨kP, hkP, -⟩ := className_of_methodNamed hnamed
  have hinitP : kP.init = .initialized := Cond.initialized_spec (findClass_of_methodNamed hnamed) hkP hinit
  obtain ⟨vm₁, X₁, hstep₁⟩ := X.invokestatic hexec hown hlink hnamed hmethM hstatic hkP hinitP hy (g := g) hg (argsL := argsL) (rest := rest) (hlen _ hsigM) hstack hdg
  rcases hK m meth c ⟨T.setVm vm₁, locs, cells, slots⟩ { g with stack := rest } (.invokestatic index) mk argsL.toArray X₁ hg hsize hdg hW (X₁.named hnamed) (hpre vm₁ X₁.warmed) with ⟨v, B, X', hpost, hsteps⟩ | ⟨q, B, X', hpost, hsteps⟩
  · exact Or.inl ⟨v, vm₁, B, X₁.warmed, X', hpost, fun target h => hstep₁ _ fun acts => by rw [doInvoke_state]; exact hsteps.trans h⟩
  · exact Or.inr ⟨q, vm₁, B, X₁.warmed, X', hpost, hstep₁ _ fun acts => by rw [doInvoke_state]; exact hsteps⟩
end Calls
theorem vx_cls {s : State} {T : State} {vm₁ : Vm} {E : String} {k : ClassId} (hW : s.WarmedH vm₁) (h : (T.setVm vm₁).vm.findClass E = some k) : s.vm.findClass E = some k := by
  have h1 : vm₁.findClass E = some k := h
  rw [hW.alike.findClass] at h1
  exact h1
/-- the method's frame g, with q thrown over it -/
def vx_W (p : Program) (l : Launch) (e : Env) (R : Room) (s : State) (m : MethodId) (args : Array Value) (below : List Frame) (meth : Method) (c : Code) (H : Heap) (locs : List Loc) (cells slots : Nat) (Q : State → Prop) (g : JFrame) (q : Addr) : Prop :=
  ∀ T : State, T.heap = H → Stand p l e R s m args below meth c T locs cells slots → ∃ t, Steps p.tables e below ((T.setTop g).pushFrame (.throwing q)) t ∧ Q t
def vx_Run (p : Program) (l : Launch) (e : Env) (R : Room) (s : State) (m : MethodId) (args : Array Value) (below : List Frame) (meth : Method) (c : Code) (H : Heap) (locs : List Loc) (cells slots mc ms : Nat) (g : JFrame) (rest : List Value) (Qa : State → Outcome → State → Prop) (XC : String → State → State → Prop) (free : Addr → Prop) : Prop :=
  ∀ T : State, T.heap = H → Stand p l e R s m args below meth c T locs cells slots →
    (∃ (v : Option Value) (st₀ t T' : State) (L : List Loc), st₀.heap = H ∧ Stand p l e R s m args below meth c T' (locs ++ L) (cells + mc) (slots + ms) ∧ (∀ q ∈ L, free q.base) ∧ T'.heap = t.heap ∧ T'.vm = t.vm ∧ Qa st₀ (.returned v) t ∧
      Goes p e below T g T' { g with pc := g.pc + 3, stack := v.toList ++ rest }) ∨
    (∃ (q : Addr) (st₀ t T' : State) (L : List Loc) (E : String) (ce : Cell), st₀.heap = H ∧ Stand p l e R s m args below meth c T' (locs ++ L) (cells + mc) (slots + ms) ∧ (∀ z ∈ L, free z.base) ∧ T'.heap = t.heap ∧ T'.vm = t.vm ∧ XC E st₀ t ∧ t.heap[q]? = some ce ∧ ce.vm = .none ∧ s.vm.findClass E = some ce.cls ∧
      Steps p.tables e below (T.setTop g) ((T'.setTop { g with stack := rest }).pushFrame (.throwing q)))
def vx_X {S : Type} (px : S → Prop) (B : String → S → State → Prop) (A : Nat → Prop) : String → State → State → Prop := fun E st t => ∃ u : S, px u ∧ B E u t ∧ va_F A st t
section Runs
variable {p : Program} {l : Launch} {e : Env} {R : Room} {s : State} {m : MethodId} {args : Array Value} {below : List Frame} {meth : Method} {c : Code} {H : Heap} {locs : List Loc} {cells slots : Nat}
variable {y : MethodName} {bytes cc : ByteArray} {maxL nL mc ms n index : Nat} {ret : Option FieldType} {ws : List Cond} {rm : Room} {Pc : Array Value → State → Prop} {Qc : Array Value → State → Outcome → State → Prop} {XC : String → State → State → Prop} {free : Addr → Prop} {Ts : List Cond} {own C : String} {b : Addr} {As rest : List Value} {g : JFrame}
theorem vx_callBack (cb : CallB R s args own index y bytes maxL ret ws rm mc ms n) (hM : vx_Met l y ws rm Pc Qc XC mc ms free) (hbl : FrameBlind Pc) : vx_Back l R p e below s args y 3 8 (PreOf R mc ms Pc) (PostOf Qc mc ms free) (vx_Post XC mc ms free) := by
  obtain ⟨hrc, hrs, hfr, hlo, hws, hcw, -, hini, -⟩ := cb
  exact vx_back (bytes := bytes) (maxL := maxL) (ret := ret) hM hbl hrc hrs hfr hlo hws hcw (fun a' U hW => word_at hW (Or.inl (by first | rfl | simp [Cond.onTables, Cond.keeps, Cond.steady])) hini)
theorem vx_runV (S : CallFix p m c cc nL s args Ts own) (hM : vx_Met l y ws rm Pc Qc XC mc ms free) (cw : CallW R s args own C index y bytes maxL ret ws rm mc ms n) (hp : PreV s H C b Pc As)
    (hg : g.method = m) (hn : As.length = n) (hsize : g.locals.size = nL) (hstack : g.stack = As.reverse ++ .ref b :: rest) (hW : 2 * g.monitorRoom + (rest.map fun v => v.category).sum ≤ 8) (hdg : decode cc g.pc = .ok (.invokevirtual index, 3)) (hf : cells + mc ≤ R.cells ∧ slots + ms ≤ R.slots) :
    vx_Run p l e R s m args below meth c H locs cells slots mc ms g rest (Qc (Value.ref b :: As).toArray) XC free := by
  have hK : vx_Back l R p e below s args y 3 8 (PreOf R mc ms Pc) (PostOf Qc mc ms free) (vx_Post XC mc ms free) := vx_callBack cw.1 hM hp.1
  obtain ⟨⟨-, -, -, -, -, -, hcode, -, hy, hlen, hl⟩, hin, hse⟩ := cw
  obtain ⟨hx, hb, hml, ho, -⟩ := S
  obtain ⟨-, ⟨cellB, hcB, hoB, hclB⟩, hPc⟩ := hp
  intro T hT X
  rcases vx_callV X hx (C := C) (bytes := bytes) (maxL := maxL) (ret := ret) ho hl hin hse hcode hy hK (by rw [hT]; exact hcB) hoB hclB hg (hsize.trans hml.symm) (argsL := As) (rest := rest) (fun sig h => hn.trans (hlen sig h)) hstack hW (by rw [hb]; exact hdg)
    (fun vm₁ hW₁ => ⟨hf.1, hf.2, hPc (T.setVm vm₁) hT hW₁⟩) with ⟨v, vm₁, ⟨U', l2, c2, s2⟩, hW₁, X', ⟨g', mk, t, L, e1, e2, hq, h1, hL, h2, h3⟩, st⟩ | ⟨q, vm₁, ⟨U', l2, c2, s2⟩, hW₁, X', ⟨g', mk, t, L, E, ce, e1, e2, hq, hce, hcv, hcl, h1, hL, h2, h3⟩, st⟩
  · dsimp only [Pt.U, Pt.locs, Pt.cells, Pt.slots] at X' e1 e2 h1 h2 h3 st
    subst h1; subst h2; subst h3
    exact Or.inl ⟨v, (T.setVm vm₁).calling g' mk (Value.ref b :: As).toArray, t, U', L, hT, X', hL, e1, e2, hq, st⟩
  · dsimp only [Pt.U, Pt.locs, Pt.cells, Pt.slots] at X' e1 e2 h1 h2 h3 st hcl
    subst h1; subst h2; subst h3
    exact Or.inr ⟨q, (T.setVm vm₁).calling g' mk (Value.ref b :: As).toArray, t, U', L, E, ce, hT, X', hL, e1, e2, hq, hce, hcv, vx_cls hW₁ hcl, st⟩
theorem vx_runS (S : CallFix p m c cc nL s args Ts own) (hM : vx_Met l y ws rm Pc Qc XC mc ms free) (cw : CallB R s args own index y bytes maxL ret ws rm mc ms n ∧ (Cond.static y).before args s = true) (hp : PreS s H Pc As)
    (hg : g.method = m) (hn : As.length = n) (hsize : g.locals.size = nL) (hstack : g.stack = As.reverse ++ rest) (hW : 2 * g.monitorRoom + (rest.map fun v => v.category).sum ≤ 8) (hdg : decode cc g.pc = .ok (.invokestatic index, 3)) (hf : cells + mc ≤ R.cells ∧ slots + ms ≤ R.slots) :
    vx_Run p l e R s m args below meth c H locs cells slots mc ms g rest (Qc As.toArray) XC free := by
  have hK : vx_Back l R p e below s args y 3 8 (PreOf R mc ms Pc) (PostOf Qc mc ms free) (vx_Post XC mc ms free) := vx_callBack cw.1 hM hp.1
  obtain ⟨⟨-, -, -, -, -, -, hcode, hini, hy, hlen, hl⟩, hstt⟩ := cw
  obtain ⟨hx, hb, hml, ho, -⟩ := S
  intro T hT X
  rcases vx_callS X hx (bytes := bytes) (maxL := maxL) (ret := ret) ho hl hstt hini hcode hy hK hg (hsize.trans hml.symm) (argsL := As) (rest := rest) (fun sig h => hn.trans (hlen sig h)) hstack hW (by rw [hb]; exact hdg)
    (fun vm₁ hW₁ => ⟨hf.1, hf.2, hp.2 (T.setVm vm₁) hT hW₁⟩) with ⟨v, vm₁, ⟨U', l2, c2, s2⟩, hW₁, X', ⟨g', mk, t, L, e1, e2, hq, h1, hL, h2, h3⟩, st⟩ | ⟨q, vm₁, ⟨U', l2, c2, s2⟩, hW₁, X', ⟨g', mk, t, L, E, ce, e1, e2, hq, hce, hcv, hcl, h1, hL, h2, h3⟩, st⟩
  · dsimp only [Pt.U, Pt.locs, Pt.cells, Pt.slots] at X' e1 e2 h1 h2 h3 st
    subst h1; subst h2; subst h3
    exact Or.inl ⟨v, (T.setVm vm₁).calling g' mk As.toArray, t, U', L, hT, X', hL, e1, e2, hq, st⟩
  · dsimp only [Pt.U, Pt.locs, Pt.cells, Pt.slots] at X' e1 e2 h1 h2 h3 st hcl
    subst h1; subst h2; subst h3
    exact Or.inr ⟨q, (T.setVm vm₁).calling g' mk As.toArray, t, U', L, E, ce, hT, X', hL, e1, e2, hq, hce, hcv, vx_cls hW₁ hcl, st⟩
end Runs
section Rows
variable {p : Program} {l : Launch} {e : Env} {R : Room} {s : State} {m : MethodId} {args : Array Value} {below : List Frame} {meth : Method} {c : Code} {H : Heap} {locs : List Loc} {cells slots : Nat} {Q : State → Prop}
variable {mc ms : Nat} {free : Addr → Prop} {A0 A1 : Nat → Prop} {H0 : Heap} {a : Array Value} {pc : Nat} {ls : Array Slot} {st0 rest : List Value}
theorem vx_keep {st₀ t T' : State} {L : List Loc} (h0 : st₀.heap = H) (e1 : T'.heap = t.heap) (hS : va_S A0 H0 H locs) (hA : ∀ q, q < H.size → A1 q → A0 q) (hf : ∀ q, free q → A0 q) (hL : ∀ q ∈ L, free q.base) (hF : va_F A1 st₀ t) :
    H.size ≤ T'.heap.size ∧ (∀ q : Nat, q < H.size → ¬ A1 q → T'.heap[q]? = H[q]?) ∧ va_S A0 H0 T'.heap (locs ++ L) := by
  obtain ⟨hz, hk⟩ := hF
  rw [h0] at hz hk
  exact ⟨by rw [e1]; exact hz, fun q h1 h2 => by rw [e1]; exact hk q h1 h2,
    ⟨Nat.le_trans hS.1 (by rw [e1]; exact hz), fun q h1 h2 => by rw [e1, hk q (Nat.lt_of_lt_of_le h1 hS.1) (fun z => h2 (hA q (Nat.lt_of_lt_of_le h1 hS.1) z))]; exact hS.2.1 q h1 h2, fun q hq => by
      rcases List.mem_append.mp hq with h | h
      · exact hS.2.2 q h
      · exact hf _ (hL q h)⟩⟩
theorem vx_calli {S SX : Type} {post : Int32 → S → Prop} {px : SX → Prop} {B : S → State → Prop} {BX : String → SX → State → Prop} {AX : Nat → Prop} (hr : vx_Run p l e R s m args below meth c H locs cells slots mc ms (F0 m pc ls st0) rest (va_Qi post B A1 a) (vx_X px BX AX) free) (hS : va_S A0 H0 H locs) (hA : ∀ q, q < H.size → A1 q → A0 q) (hf : ∀ q, free q → A0 q) (hAX : ∀ q, q < H.size → AX q → A0 q)
    (kx : ∀ (E : String) (ce : Cell) (q9 : Addr) (u : SX) (t : State) (H1 : Heap) (locs1 : List Loc), t.heap = H1 → s.vm.Alike t.vm → px u → BX E u t → H.size ≤ H1.size → (∀ q : Nat, q < H.size → ¬ AX q → H1[q]? = H[q]?) → va_S A0 H0 H1 locs1 → H1[q9]? = some ce → ce.vm = .none → s.vm.findClass E = some ce.cls → vx_W p l e R s m args below meth c H1 locs1 (cells + mc) (slots + ms) Q (F0 m pc ls rest) q9)
    (kk : ∀ (r : Int32) (u : S) (t : State) (H1 : Heap) (locs1 : List Loc), t.heap = H1 → s.vm.Alike t.vm → post r u → B u t → H.size ≤ H1.size → (∀ q : Nat, q < H.size → ¬ A1 q → H1[q]? = H[q]?) → va_S A0 H0 H1 locs1 → W p l e R s m args below meth c H1 locs1 (cells + mc) (slots + ms) Q (F0 m (pc + 3) ls (.int r :: rest))) : W p l e R s m args below meth c H locs cells slots Q (F0 m pc ls st0) := by
  intro T hT X
  rcases hr T hT X with ⟨v, st₀, t, T', L, h0, X', hL, e1, e2, ⟨⟨r, u, hv, hp, hb⟩, hF⟩, st⟩ | ⟨q, st₀, t, T', L, E, ce, h0, X', hL, e1, e2, ⟨u, hp, hb, hF⟩, hce, hcv, hcl, st⟩
  · cases hv
    obtain ⟨k1, k2, k3⟩ := vx_keep h0 e1 hS hA hf hL hF
    obtain ⟨t2, a1, b1⟩ := kk r u t T'.heap (locs ++ L) e1.symm (by rw [← e2]; exact X'.warmed.alike) hp hb k1 k2 k3 T' rfl X'
    exact ⟨t2, st t2 a1, b1⟩
  · obtain ⟨k1, k2, k3⟩ := vx_keep h0 e1 hS hAX hf hL hF
    obtain ⟨t2, a1, b1⟩ := kx E ce q u t T'.heap (locs ++ L) e1.symm (by rw [← e2]; exact X'.warmed.alike) hp hb k1 k2 k3 (by rw [e1]; exact hce) hcv hcl T' rfl X'
    exact ⟨t2, st.trans a1, b1⟩
theorem vx_calll {S SX : Type} {post : Int64 → S → Prop} {px : SX → Prop} {B : S → State → Prop} {BX : String → SX → State → Prop} {AX : Nat → Prop} (hr : vx_Run p l e R s m args below meth c H locs cells slots mc ms (F0 m pc ls st0) rest (va_Ql post B A1 a) (vx_X px BX AX) free) (hS : va_S A0 H0 H locs) (hA : ∀ q, q < H.size → A1 q → A0 q) (hf : ∀ q, free q → A0 q) (hAX : ∀ q, q < H.size → AX q → A0 q)
    (kx : ∀ (E : String) (ce : Cell) (q9 : Addr) (u : SX) (t : State) (H1 : Heap) (locs1 : List Loc), t.heap = H1 → s.vm.Alike t.vm → px u → BX E u t → H.size ≤ H1.size → (∀ q : Nat, q < H.size → ¬ AX q → H1[q]? = H[q]?) → va_S A0 H0 H1 locs1 → H1[q9]? = some ce → ce.vm = .none → s.vm.findClass E = some ce.cls → vx_W p l e R s m args below meth c H1 locs1 (cells + mc) (slots + ms) Q (F0 m pc ls rest) q9)
    (kk : ∀ (r : Int64) (u : S) (t : State) (H1 : Heap) (locs1 : List Loc), t.heap = H1 → s.vm.Alike t.vm → post r u → B u t → H.size ≤ H1.size → (∀ q : Nat, q < H.size → ¬ A1 q → H1[q]? = H[q]?) → va_S A0 H0 H1 locs1 → W p l e R s m args below meth c H1 locs1 (cells + mc) (slots + ms) Q (F0 m (pc + 3) ls (.long r :: rest))) : W p l e R s m args below meth c H locs cells slots Q (F0 m pc ls st0) := by
  intro T hT X
  rcases hr T hT X with ⟨v, st₀, t, T', L, h0, X', hL, e1, e2, ⟨⟨r, u, hv, hp, hb⟩, hF⟩, st⟩ | ⟨q, st₀, t, T', L, E, ce, h0, X', hL, e1, e2, ⟨u, hp, hb, hF⟩, hce, hcv, hcl, st⟩
  · cases hv
    obtain ⟨k1, k2, k3⟩ := vx_keep h0 e1 hS hA hf hL hF
    obtain ⟨t2, a1, b1⟩ := kk r u t T'.heap (locs ++ L) e1.symm (by rw [← e2]; exact X'.warmed.alike) hp hb k1 k2 k3 T' rfl X'
    exact ⟨t2, st t2 a1, b1⟩
  · obtain ⟨k1, k2, k3⟩ := vx_keep h0 e1 hS hAX hf hL hF
    obtain ⟨t2, a1, b1⟩ := kx E ce q u t T'.heap (locs ++ L) e1.symm (by rw [← e2]; exact X'.warmed.alike) hp hb k1 k2 k3 (by rw [e1]; exact hce) hcv hcl T' rfl X'
    exact ⟨t2, st.trans a1, b1⟩
theorem vx_callf {S SX : Type} {post : UInt32 → S → Prop} {px : SX → Prop} {B : S → State → Prop} {BX : String → SX → State → Prop} {AX : Nat → Prop} (hr : vx_Run p l e R s m args below meth c H locs cells slots mc ms (F0 m pc ls st0) rest (va_Qf post B A1 a) (vx_X px BX AX) free) (hS : va_S A0 H0 H locs) (hA : ∀ q, q < H.size → A1 q → A0 q) (hf : ∀ q, free q → A0 q) (hAX : ∀ q, q < H.size → AX q → A0 q)
    (kx : ∀ (E : String) (ce : Cell) (q9 : Addr) (u : SX) (t : State) (H1 : Heap) (locs1 : List Loc), t.heap = H1 → s.vm.Alike t.vm → px u → BX E u t → H.size ≤ H1.size → (∀ q : Nat, q < H.size → ¬ AX q → H1[q]? = H[q]?) → va_S A0 H0 H1 locs1 → H1[q9]? = some ce → ce.vm = .none → s.vm.findClass E = some ce.cls → vx_W p l e R s m args below meth c H1 locs1 (cells + mc) (slots + ms) Q (F0 m pc ls rest) q9)
    (kk : ∀ (r : UInt32) (u : S) (t : State) (H1 : Heap) (locs1 : List Loc), t.heap = H1 → s.vm.Alike t.vm → post r u → B u t → H.size ≤ H1.size → (∀ q : Nat, q < H.size → ¬ A1 q → H1[q]? = H[q]?) → va_S A0 H0 H1 locs1 → W p l e R s m args below meth c H1 locs1 (cells + mc) (slots + ms) Q (F0 m (pc + 3) ls (.float r :: rest))) : W p l e R s m args below meth c H locs cells slots Q (F0 m pc ls st0) := by
  intro T hT X
  rcases hr T hT X with ⟨v, st₀, t, T', L, h0, X', hL, e1, e2, ⟨⟨r, u, hv, hp, hb⟩, hF⟩, st⟩ | ⟨q, st₀, t, T', L, E, ce, h0, X', hL, e1, e2, ⟨u, hp, hb, hF⟩, hce, hcv, hcl, st⟩
  · cases hv
    obtain ⟨k1, k2, k3⟩ := vx_keep h0 e1 hS hA hf hL hF
    obtain ⟨t2, a1, b1⟩ := kk r u t T'.heap (locs ++ L) e1.symm (by rw [← e2]; exact X'.warmed.alike) hp hb k1 k2 k3 T' rfl X'
    exact ⟨t2, st t2 a1, b1⟩
  · obtain ⟨k1, k2, k3⟩ := vx_keep h0 e1 hS hAX hf hL hF
    obtain ⟨t2, a1, b1⟩ := kx E ce q u t T'.heap (locs ++ L) e1.symm (by rw [← e2]; exact X'.warmed.alike) hp hb k1 k2 k3 (by rw [e1]; exact hce) hcv hcl T' rfl X'
    exact ⟨t2, st.trans a1, b1⟩
theorem vx_calld {S SX : Type} {post : UInt64 → S → Prop} {px : SX → Prop} {B : S → State → Prop} {BX : String → SX → State → Prop} {AX : Nat → Prop} (hr : vx_Run p l e R s m args below meth c H locs cells slots mc ms (F0 m pc ls st0) rest (va_Qd post B A1 a) (vx_X px BX AX) free) (hS : va_S A0 H0 H locs) (hA : ∀ q, q < H.size → A1 q → A0 q) (hf : ∀ q, free q → A0 q) (hAX : ∀ q, q < H.size → AX q → A0 q)
    (kx : ∀ (E : String) (ce : Cell) (q9 : Addr) (u : SX) (t : State) (H1 : Heap) (locs1 : List Loc), t.heap = H1 → s.vm.Alike t.vm → px u → BX E u t → H.size ≤ H1.size → (∀ q : Nat, q < H.size → ¬ AX q → H1[q]? = H[q]?) → va_S A0 H0 H1 locs1 → H1[q9]? = some ce → ce.vm = .none → s.vm.findClass E = some ce.cls → vx_W p l e R s m args below meth c H1 locs1 (cells + mc) (slots + ms) Q (F0 m pc ls rest) q9)
    (kk : ∀ (r : UInt64) (u : S) (t : State) (H1 : Heap) (locs1 : List Loc), t.heap = H1 → s.vm.Alike t.vm → post r u → B u t → H.size ≤ H1.size → (∀ q : Nat, q < H.size → ¬ A1 q → H1[q]? = H[q]?) → va_S A0 H0 H1 locs1 → W p l e R s m args below meth c H1 locs1 (cells + mc) (slots + ms) Q (F0 m (pc + 3) ls (.double r :: rest))) : W p l e R s m args below meth c H locs cells slots Q (F0 m pc ls st0) := by
  intro T hT X
  rcases hr T hT X with ⟨v, st₀, t, T', L, h0, X', hL, e1, e2, ⟨⟨r, u, hv, hp, hb⟩, hF⟩, st⟩ | ⟨q, st₀, t, T', L, E, ce, h0, X', hL, e1, e2, ⟨u, hp, hb, hF⟩, hce, hcv, hcl, st⟩
  · cases hv
    obtain ⟨k1, k2, k3⟩ := vx_keep h0 e1 hS hA hf hL hF
    obtain ⟨t2, a1, b1⟩ := kk r u t T'.heap (locs ++ L) e1.symm (by rw [← e2]; exact X'.warmed.alike) hp hb k1 k2 k3 T' rfl X'
    exact ⟨t2, st t2 a1, b1⟩
  · obtain ⟨k1, k2, k3⟩ := vx_keep h0 e1 hS hAX hf hL hF
    obtain ⟨t2, a1, b1⟩ := kx E ce q u t T'.heap (locs ++ L) e1.symm (by rw [← e2]; exact X'.warmed.alike) hp hb k1 k2 k3 (by rw [e1]; exact hce) hcv hcl T' rfl X'
    exact ⟨t2, st.trans a1, b1⟩
theorem vx_callv {S SX : Type} {post : S → Prop} {px : SX → Prop} {B : S → State → Prop} {BX : String → SX → State → Prop} {AX : Nat → Prop} (hr : vx_Run p l e R s m args below meth c H locs cells slots mc ms (F0 m pc ls st0) rest (va_Qv post B A1 a) (vx_X px BX AX) free) (hS : va_S A0 H0 H locs) (hA : ∀ q, q < H.size → A1 q → A0 q) (hf : ∀ q, free q → A0 q) (hAX : ∀ q, q < H.size → AX q → A0 q)
    (kx : ∀ (E : String) (ce : Cell) (q9 : Addr) (u : SX) (t : State) (H1 : Heap) (locs1 : List Loc), t.heap = H1 → s.vm.Alike t.vm → px u → BX E u t → H.size ≤ H1.size → (∀ q : Nat, q < H.size → ¬ AX q → H1[q]? = H[q]?) → va_S A0 H0 H1 locs1 → H1[q9]? = some ce → ce.vm = .none → s.vm.findClass E = some ce.cls → vx_W p l e R s m args below meth c H1 locs1 (cells + mc) (slots + ms) Q (F0 m pc ls rest) q9)
    (kk : ∀ (u : S) (t : State) (H1 : Heap) (locs1 : List Loc), t.heap = H1 → s.vm.Alike t.vm → post u → B u t → H.size ≤ H1.size → (∀ q : Nat, q < H.size → ¬ A1 q → H1[q]? = H[q]?) → va_S A0 H0 H1 locs1 → W p l e R s m args below meth c H1 locs1 (cells + mc) (slots + ms) Q (F0 m (pc + 3) ls (rest))) : W p l e R s m args below meth c H locs cells slots Q (F0 m pc ls st0) := by
  intro T hT X
  rcases hr T hT X with ⟨v, st₀, t, T', L, h0, X', hL, e1, e2, ⟨⟨u, hv, hp, hb⟩, hF⟩, st⟩ | ⟨q, st₀, t, T', L, E, ce, h0, X', hL, e1, e2, ⟨u, hp, hb, hF⟩, hce, hcv, hcl, st⟩
  · cases hv
    obtain ⟨k1, k2, k3⟩ := vx_keep h0 e1 hS hA hf hL hF
    obtain ⟨t2, a1, b1⟩ := kk u t T'.heap (locs ++ L) e1.symm (by rw [← e2]; exact X'.warmed.alike) hp hb k1 k2 k3 T' rfl X'
    exact ⟨t2, st t2 a1, b1⟩
  · obtain ⟨k1, k2, k3⟩ := vx_keep h0 e1 hS hAX hf hL hF
    obtain ⟨t2, a1, b1⟩ := kx E ce q u t T'.heap (locs ++ L) e1.symm (by rw [← e2]; exact X'.warmed.alike) hp hb k1 k2 k3 (by rw [e1]; exact hce) hcv hcl T' rfl X'
    exact ⟨t2, st.trans a1, b1⟩
/-- caught by the row x of this method's table; the rows ahead don't take it -/
theorem vx_catch {own name : String} {E : String} {ce : Cell} {q : Addr} (hown : s.vm.findClass own = some m.cls) (pre : List ExceptionTableEntry) (x : ExceptionTableEntry) (suf : List ExceptionTableEntry) (hsplit : c.exceptionTable.toList = pre ++ x :: suf)
    (hpass : ∀ z ∈ pre, covers z pc = false ∨ (z.catchType ≠ 0 ∧ ∃ nm : String, (Cond.classLink own z.catchType nm).before args s = true ∧ va_Nc E nm s)) (hx : covers x pc = true) (h0 : x.catchType ≠ 0)
    (hlink : (Cond.classLink own x.catchType name).before args s = true) (hcast : (Cond.castable E name).before args s = true) (hcell : H[q]? = some ce) (hv : ce.vm = .none) (hcl : s.vm.findClass E = some ce.cls)
    (kk : W p l e R s m args below meth c H locs cells slots Q (F0 m x.handlerPc ls [.ref q])) : vx_W p l e R s m args below meth c H locs cells slots Q (F0 m pc ls rest) q := by
  intro T hT X
  have hpl : e.platform.magicAccessors = ({} : Platform).magicAccessors := by rw [X.admits.platform]
  obtain ⟨c3, c4, hc3, hc4, hasg⟩ := Cond.castable_spec hcast
  cases Option.some.inj (hc3.symm.trans hcl)
  obtain ⟨c5, hc5, hcl5⟩ := Cond.classLink_spec hown hlink e.platform hpl
  cases Option.some.inj (hc4.symm.trans hc5)
  obtain ⟨vm', X', st⟩ := X.thenCaughtThrough q (g := F0 m pc ls rest) rfl (Steps.refl _) (by rw [hT]; exact hcell) (by rw [hv]; rfl) (by obtain ⟨k9, h9, -⟩ := Vm.findClass_spec hcl; exact ⟨k9, h9⟩) pre x suf hsplit
    (fun z hz => by
      rcases hpass z hz with h | ⟨hz0, nm, hl1, hn1⟩
      · exact Or.inl h
      · obtain ⟨c6, hc6, hcl6⟩ := Cond.classLink_spec hown hl1 e.platform hpl
        obtain ⟨a8, b8, h1, h2, h3⟩ := hn1
        cases Option.some.inj (h1.symm.trans hcl)
        cases Option.some.inj (h2.symm.trans hc6)
        exact Or.inr ⟨hz0, _, hcl6, h3⟩) hx (Or.inr ⟨h0, c4, hcl5, hasg⟩)
  obtain ⟨t, a1, b1⟩ := kk (T.setVm vm') hT X'
  exact ⟨t, st.trans a1, b1⟩
end Rows
section Ends
variable {p : Program} {l : Launch} {e : Env} {R : Room} {s : State} {m : MethodId} {args : Array Value} {below : List Frame} {meth : Method} {c : Code} {H : Heap} {locs : List Loc} {cells slots : Nat} {Q : State → Prop}
variable {mc ms : Nat} {free : Addr → Prop} {A0 A1 : Nat → Prop} {H0 : Heap} {a : Array Value} {ls : Array Slot} {st0 rest : List Value}
variable {Qc : Array Value → State → Outcome → State → Prop} {XC : String → State → State → Prop}
/-- what a body that may throw owes at its end -/
def vx_MQ (below : List Frame) (Qc : Array Value → State → Outcome → State → Prop) (XC : String → State → State → Prop) (a : Array Value) (s : State) (mc ms : Nat) (free : Addr → Prop) : State → Prop := fun t =>
  ∃ o, t.status = .running ∧ Ended t below o ∧ vx_Q Qc XC mc ms free a s o t
theorem vx_ret {g : JFrame} {mc ms : Nat} (k : W p l e R s m args below meth c H locs cells slots (MQ below Qc args s mc ms free) g) : W p l e R s m args below meth c H locs cells slots (vx_MQ below Qc XC args s mc ms free) g := by
  intro T hT X
  obtain ⟨t, a1, o, b1, b2, b3, b4⟩ := k T hT X
  exact ⟨t, a1, o, b1, b2, Or.inl ⟨b3, b4⟩⟩
/-- not caught here: it goes on to the caller -/
theorem vx_widen {g : JFrame} {q : Addr} {k n : Nat} (h1 : cells ≤ k) (h2 : slots ≤ n) (kk : vx_W p l e R s m args below meth c H locs k n Q g q) : vx_W p l e R s m args below meth c H locs cells slots Q g q := fun T hT X => kk T hT (stand_widen X h1 h2)
theorem vx_out {pc : Nat} {E : String} {ce : Cell} {q : Addr} {mc ms : Nat} (hout : ∀ x ∈ c.exceptionTable.toList, covers x pc = false) (hlocks : meth.locks = false) (hcell : H[q]? = some ce) (hv : ce.vm = .none) (hcl : s.vm.findClass E = some ce.cls)
    (hx : ∀ t : State, t.heap = H → s.vm.Alike t.vm → XC E s t) (hf : ∀ z ∈ locs, free z.base) (hc : cells ≤ mc) (hs : slots ≤ ms) :
    vx_W p l e R s m args below meth c H locs cells slots (vx_MQ below Qc XC args s mc ms free) (F0 m pc ls rest) q := by
  intro T hT X
  obtain ⟨st1, hrun, hend, hW, hsm⟩ := X.leaveThrown q (g := F0 m pc ls rest) rfl rfl rfl hout hlocks
  have hcell9 : (T.setFrames (.throwing q :: below)).heap[q]? = some ce := by
    show T.heap[q]? = some ce
    rw [hT]; exact hcell
  exact ⟨_, st1, .threw q, hrun, hend, Or.inr ⟨q, rfl, E, ce, locs, hx _ hT hW.alike, hcell9, hv, hcl, hW, hsm.mono hc hs, hf⟩⟩
theorem vx_frame {U : State} {k n : Nat} (h : s.sameButNew ({ U with vm := s.vm } : State) locs k n) : s.heap.size ≤ U.heap.size ∧ ∀ q : Nat, q < s.heap.size → (∀ z ∈ locs, z.base ≠ q) → U.heap[q]? = s.heap[q]? := by
  obtain ⟨-, h2, -, -, -, h6⟩ := h
  refine ⟨h2, fun q hq hz => ?_⟩
  obtain ⟨c9, e1, e2, e3, e4⟩ := h6 q _ (Array.getElem?_eq_getElem hq)
  have hs : c9.slots = (s.heap[q]).slots := Array.ext_getElem? fun i => e4 i fun hm => hz _ hm rfl
  have h9 : c9 = s.heap[q] := by
    rw [hs] at e2
    exact e2
  have e5 : U.heap[q]? = some c9 := e1
  rw [e5, h9, Array.getElem?_eq_getElem hq]
/-- the words of a throw but the four that speak of the heap -/
def vx_no (w : Cond) : Bool := decide (w ≠ .isRef (.static Bundle.tN "UNASSIGNED_STACK" Bundle.steD)) && decide (w ≠ .isRef (.static Bundle.tN "SUPPRESSED_SENTINEL" Bundle.listD)) && decide (w ≠ .laysStatic Bundle.tN "UNASSIGNED_STACK" Bundle.steD) && decide (w ≠ .laysStatic Bundle.tN "SUPPRESSED_SENTINEL" Bundle.listD)
def vx_at0 (own : String) (ic : Nat) (X : String) (names : List String) : List Cond := (Bundle.ownAtoms0 own ic X names).filter vx_no
def vx_atS (own : String) (ic : Nat) (X : String) (names : List String) : List Cond := (Bundle.ownAtoms own ic X names).filter vx_no
/-- a word that the tables alone decide, or a good one -/
def vx_ot (w : Cond) : Bool := w.onTables || goodWord w
theorem vx_ot_at {args a' : Array Value} {s U : State} {w : Cond} (hW : s.WarmedH U.vm) (hvm : s.vm = U.vm) (hg : vx_ot w = true) (h : w.before args s = true) : w.before a' U = true := by
  simp only [vx_ot, Bool.or_eq_true] at hg
  rcases hg with hg | hg
  · exact va_tabs hg hvm h
  · exact word_at hW (good_of_word hg) h
/-- a list's words: the good ones out of the method's own list, the others by premises of their own -/
theorem vx_hat {args : Array Value} {s : State} {L B : List Cond} (h1 : ∀ w ∈ L.filter goodWord, w.before args s = true) (h2 : ∀ w ∈ L.filter (fun w => !goodWord w), w ∈ B) (h3 : ∀ w ∈ B, w.before args s = true) : ∀ w ∈ L, w.before args s = true := by
  intro w hw
  by_cases g : goodWord w = true
  · exact h1 w (List.mem_filter.mpr ⟨hw, g⟩)
  · refine h3 w (h2 w (List.mem_filter.mpr ⟨hw, ?_⟩))
    show (!goodWord w) = true
    cases hgw : goodWord w
    · rfl
    · exact absurd hgw g
theorem vx_c {args : Array Value} {s : State} {w : Cond} {B : List Cond} (h : w.before args s = true) (t : ∀ w ∈ B, w.before args s = true) : ∀ w' ∈ w :: B, w'.before args s = true := fun w' h' => (List.mem_cons.mp h').elim (fun e => by rw [e]; exact h) (t w')
theorem vx_n {args : Array Value} {s : State} : ∀ w ∈ ([] : List Cond), w.before args s = true := fun _ h => nomatch h
theorem vx_own {args : Array Value} {s : State} {L : List Cond} (h1 : ∀ w ∈ L.filter vx_no, w.before args s = true)
    (hU : (Cond.isRef (.static Bundle.tN "UNASSIGNED_STACK" Bundle.steD)).before args s = true) (hN : (Cond.isRef (.static Bundle.tN "SUPPRESSED_SENTINEL" Bundle.listD)).before args s = true)
    (lU : (Cond.laysStatic Bundle.tN "UNASSIGNED_STACK" Bundle.steD).before args s = true) (lN : (Cond.laysStatic Bundle.tN "SUPPRESSED_SENTINEL" Bundle.listD).before args s = true) : ∀ w ∈ L, w.before args s = true := by
  intro w hw
  by_cases e1 : w = .isRef (.static Bundle.tN "UNASSIGNED_STACK" Bundle.steD)
  · rw [e1]; exact hU
  · by_cases e2 : w = .isRef (.static Bundle.tN "SUPPRESSED_SENTINEL" Bundle.listD)
    · rw [e2]; exact hN
    · by_cases e3 : w = .laysStatic Bundle.tN "UNASSIGNED_STACK" Bundle.steD
      · rw [e3]; exact lU
      · by_cases e4 : w = .laysStatic Bundle.tN "SUPPRESSED_SENTINEL" Bundle.listD
        · rw [e4]; exact lN
        · exact h1 w (List.mem_filter.mpr ⟨hw, by unfold vx_no; rw [decide_eq_true e1, decide_eq_true e2, decide_eq_true e3, decide_eq_true e4]; rfl⟩)
/-- where a static field lies, its class's statics cell in H -/
def vx_L (C n d : String) (A : Nat → Prop) (U : State) (H : Heap) : Prop := ∃ (c : ClassId) (k : Class) (i : Nat) (f : Field) (a : Nat) (cell : Cell), U.vm.findClass C = some c ∧ U.fieldFound? C n d = some (c, k, i, f) ∧ f.isStatic = true ∧ k.statics = some a ∧ H[a]? = some cell ∧ cell.vm.isStatics = true ∧ cell.cls = c ∧ f.slot < cell.slots.size ∧ k.staticTypes[f.slot]? = some f.type ∧ ¬ A a
theorem vx_L.moved {C n d : String} {A : Nat → Prop} {u U : State} {H : Heap} (hvm : u.vm.Alike U.vm) (h : vx_L C n d A u H) : vx_L C n d A U H := by
  obtain ⟨c, k, i, f, a, cell, h1, h2, h3, h4, h5, h6, h7, h8, h9, h10⟩ := h
  obtain ⟨k', hi', he⟩ := State.fieldFound?_setVm hvm h2
  exact ⟨c, k', i, f, a, cell, by rw [hvm.findClass]; exact h1, hi', h3, by rw [he]; exact h4, h5, h6, h7, h8, by rw [he]; exact h9, h10⟩
theorem vx_L.kept {C n d : String} {A : Nat → Prop} {U : State} {H H1 : Heap} (h : vx_L C n d A U H) (hq : ∀ a : Nat, a < H.size → ¬ A a → H1[a]? = H[a]?) : vx_L C n d A U H1 := by
  obtain ⟨c, k, i, f, a, cell, h1, h2, h3, h4, h5, h6, h7, h8, h9, h10⟩ := h
  exact ⟨c, k, i, f, a, cell, h1, h2, h3, h4, by rw [hq a (Array.getElem?_eq_some_iff.mp h5).1 h10]; exact h5, h6, h7, h8, h9, h10⟩
theorem vx_L.narrow {C n d : String} {A B : Nat → Prop} {U : State} {H : Heap} (h : vx_L C n d A U H) (hAB : ∀ q, B q → A q) : vx_L C n d B U H := by
  obtain ⟨c, k, i, f, a, cell, h1, h2, h3, h4, h5, h6, h7, h8, h9, h10⟩ := h
  exact ⟨c, k, i, f, a, cell, h1, h2, h3, h4, h5, h6, h7, h8, h9, fun z => h10 (hAB _ z)⟩
theorem vx_L.word {C n d : String} {A : Nat → Prop} {s : State} {args : Array Value} (h : vx_L C n d A s s.heap) : (Cond.laysStatic C n d).before args s = true := by
  obtain ⟨c, k, i, f, a, cell, h1, h2, h3, h4, h5, h6, h7, h8, h9, -⟩ := h
  show (Cond.laysStatic C n d).holds args s none s [] = true
  exact Cond.laysStatic_of h1 h2 h3 h4 h5 h6 h7 h8 h9
/-- .. and what it holds: null or some reference -/
def vx_Zq (C n d : String) (A : Nat → Prop) (U : State) (H : Heap) : Prop := va_Zq C n d A U H ∧ vx_L C n d A U H
theorem vx_Zq.moved {C n d : String} {A : Nat → Prop} {u U : State} {H : Heap} (hvm : u.vm.Alike U.vm) (h : vx_Zq C n d A u H) : vx_Zq C n d A U H := ⟨va_Zq.moved hvm h.1, vx_L.moved hvm h.2⟩
theorem vx_Zq.kept {C n d : String} {A : Nat → Prop} {U : State} {H H1 : Heap} (h : vx_Zq C n d A U H) (hq : ∀ a : Nat, a < H.size → ¬ A a → H1[a]? = H[a]?) : vx_Zq C n d A U H1 := ⟨va_Zq.kept h.1 hq, vx_L.kept h.2 hq⟩
theorem vx_Zq.narrow {C n d : String} {A B : Nat → Prop} {U : State} {H : Heap} (h : vx_Zq C n d A U H) (hAB : ∀ q, B q → A q) : vx_Zq C n d B U H := ⟨va_Zq.narrow h.1 hAB, vx_L.narrow h.2 hAB⟩
theorem vx_Zqof {args : Array Value} {s : State} {C n d : String} {A : Nat → Prop} (hl : (Cond.laysStatic C n d).before args s = true) (hini : (Cond.initialized C).before args s = true) (h : (Cond.isRef (.static C n d)).before args s = true) (hA : ∀ a : Nat, a < s.heap.size → ¬ A a) : vx_Zq C n d A s s.heap := by
  refine ⟨va_Zqof hl hini h hA, ?_⟩
  obtain ⟨c, k, i, f, a, cell, h1, h2, h3, h4, h5, h6, h7, h8, h9⟩ := Cond.laysStatic_spec hl
  exact ⟨c, k, i, f, a, cell, h1, h2, h3, h4, h5, h6, h7, h8, h9, hA a (Array.getElem?_eq_some_iff.mp h5).1⟩
theorem vx_isRef {C n d : String} {v : Value} {A : Nat → Prop} {s : State} {args : Array Value} (h : va_Z C n d v A s s.heap) (hv : v.isRef = true) : (Cond.isRef (.static C n d)).before args s = true := by
  obtain ⟨cf, kf, fi, f, a, cell, h1, h2, h3, h4, h5, h6, h7, -⟩ := h
  have he : (Term.static C n d).eval args s none [] s = some v := by
    simp [Term.eval, State.fieldNamed?, h1, h2, h4, h5, h6, h7]
  simp only [Cond.before, Cond.holds, Cond.value, he]
  cases v <;> simp_all [Value.isRef]
theorem vx_isRefq {C n d : String} {A : Nat → Prop} {s : State} {args : Array Value} (h : va_Zq C n d A s s.heap) : (Cond.isRef (.static C n d)).before args s = true := by
  rcases h with h | ⟨t, h⟩
  · exact vx_isRef h rfl
  · exact vx_isRef h rfl
/-- the same frame, seen from here: as if the method were called anew in this heap -/
theorem vx_rebase {T : State} (X : Stand p l e R s m args below meth c T locs cells slots) {R' : Room} (hf : R'.frames ≤ R.frames) (hl : R'.locals ≤ R.locals) (hc : cells + R'.cells ≤ R.cells) (hs : slots + R'.slots ≤ R.slots) :
    Stand p l e R' ((T.setVm s.vm).setFrames (.invoking m args :: below)) m args below meth c T [] 0 0 := by
  have htop : (T.setVm s.vm).topJava?.isSome := X.here.top
  have hF : ((T.setVm s.vm).setFrames (.invoking m args :: below)).frames = .invoking m args :: below := State.frames_setFrames _ (State.cur_lt_of_top htop)
  obtain ⟨g₀, hg0⟩ := Option.isSome_iff_exists.mp htop
  obtain ⟨r, hr⟩ := State.topJava?_eq_some.mp hg0
  have hl9 : e.platform.stackLimits (T.setVm s.vm).me = e.platform.stackLimits s.me := X.limits
  have hb9 : (T.setVm s.vm).me.stackBytes = s.me.stackBytes := X.bytes
  refine ⟨X.admits, X.cas, X.clock, hF, ?_, X.hears, X.method, X.code, X.here, X.tail, X.warmed, ?_, ?_, ?_⟩
  · have h := X.room
    have hU : ((T.setVm s.vm).setFrames (.invoking m args :: below)).localsInUse = s.localsInUse := by
      rw [State.localsInUse_invoking hF (meth := meth) (c := c) X.method X.code, State.localsInUse_invoking X.frames X.method X.code]
    simp only [State.hasRoom, Bool.and_eq_true, decide_eq_true_eq] at h ⊢
    obtain ⟨⟨⟨⟨h1, h2, h3, h4, h5, h6⟩, h7⟩, h8⟩, h9⟩ := h
    rw [X.frames, List.length_cons] at h2 h3
    have q1 := X.heapSize
    have q2 := X.used
    simp only [hF, hU, List.length_cons, State.stackLimits_setFrames, State.stackBytes_setFrames, hl9, hb9]
    refine ⟨⟨⟨⟨by omega, by omega, by omega, by omega, by omega, h6⟩, ?_⟩, ?_⟩, X.book⟩
    · show T.heap.size + R'.cells ≤ e.platform.maxCells
      omega
    · show T.slotsUsed + R'.slots ≤ e.platform.maxSlots
      omega
  · rw [State.stackLimits_setFrames]; rfl
  · rw [State.stackBytes_setFrames]; rfl
  · refine ⟨?_, Nat.le_refl _, Nat.le_refl _, ?_, ?_, fun a c9 h9 => ⟨c9, h9, rfl, rfl, fun _ _ => rfl⟩⟩
    · obtain ⟨t, ht, -⟩ := State.frames_cons hr
      show T.setVm s.vm = { ((T.setVm s.vm).setFrames (.invoking m args :: below)).setFrames (T.setVm s.vm).frames with heap := T.heap, slotsUsed := T.slotsUsed }
      rw [State.setFrames_setFrames, State.setFrames_self ht]
      rfl
    · show T.slotsUsed = T.slotsUsed + ((T.heap.toList.drop T.heap.size).map (·.slots.size)).sum
      rw [List.drop_eq_nil_of_le (Nat.le_of_eq Array.length_toList)]
      rfl
    · show ((T.heap.toList.drop T.heap.size).map (·.slots.size)).sum ≤ 0
      rw [List.drop_eq_nil_of_le (Nat.le_of_eq Array.length_toList)]
      exact Nat.le_refl _
/-- 'throw new E()': new; dup; invokespecial; athrow -/
theorem vx_throw0 {cc : ByteArray} {pc : Nat} (hexec : p.tables.exec = Jvm.exec) (hb : c.code = cc) (hl : l.stackTraces = false) {own cls : String} {names : List String} {ik ic mc ms : Nat} {A : Nat → Prop}
    (hown : s.vm.findClass own = some m.cls) (hcls : Bundle.fit cls = true) (hnames : ∀ n ∈ names, Bundle.fit n = true)
    (hk : (Cond.classLink own ik cls).before args s = true) (hini : (Cond.initialized cls).before args s = true) (hat : ∀ w ∈ vx_at0 own ic cls names, w.before args s = true)
    (hgood : ∀ w ∈ Cond.classLink own ik cls :: Cond.initialized cls :: vx_at0 own ic cls names, vx_ot w = true)
    (hU : vx_Zq Bundle.tN "UNASSIGNED_STACK" Bundle.steD A s s.heap) (hN : vx_Zq Bundle.tN "SUPPRESSED_SENTINEL" Bundle.listD A s s.heap) (hS : va_S A s.heap H locs) (hsize : ls.size = c.maxLocals)
    (d0 : decode cc pc = .ok (.new ik, 3)) (d3 : decode cc (pc + 3) = .ok (.dup, 1)) (d4 : decode cc (pc + 4) = .ok (.invokespecial ic, 3)) (d7 : decode cc (pc + 7) = .ok (.athrow, 1))
    (hout : ∀ x ∈ c.exceptionTable.toList, covers x (pc + 7) = false)
    (hRframes : names.length + 3 < R.frames) (hRlocals : (rest.map fun v => v.category).sum + (13 * (names.length + 1) + 42) ≤ R.locals) (hRcells : cells + 1 ≤ R.cells) (hRslots : slots + 6 ≤ R.slots) (hlocks : meth.locks = false)
    (hx : ∀ t : State, s.vm.Alike t.vm → H.size ≤ t.heap.size → (∀ q : Nat, q < H.size → t.heap[q]? = H[q]?) → XC cls s t)
    (hf : ∀ z ∈ locs, free z.base) (hc : cells + 1 ≤ mc) (hs : slots + 6 ≤ ms) :
    W p l e R s m args below meth c H locs cells slots (vx_MQ below Qc XC args s mc ms free) (F0 m pc ls rest) := by
  intro T hT X
  have htr : e.platform.stackTraces = false := (show e.platform.stackTraces = l.stackTraces by rw [X.admits.platform]).trans hl
  have Y := vx_rebase X (R' := { frames := R.frames, locals := R.locals, cells := 1, slots := 6 }) (Nat.le_refl _) (Nat.le_refl _) hRcells hRslots
  obtain ⟨s', hA⟩ : ∃ z, z = (T.setVm s.vm).setFrames (.invoking m args :: below) := ⟨_, rfl⟩
  rw [← hA] at Y
  have hvm : s'.vm = s.vm := by rw [hA]; rfl
  have hhp : s'.heap = H := by rw [hA]; exact hT
  have hW0 : s.WarmedH s'.vm := by rw [hvm]; exact State.WarmedH.refl s
  have hat' : ∀ w ∈ vx_at0 own ic cls names, w.before args s' = true := fun w hw => vx_ot_at hW0 hvm.symm (hgood w (List.mem_cons_of_mem _ (List.mem_cons_of_mem _ hw))) (hat w hw)
  have hk' : (Cond.classLink own ik cls).before args s' = true := vx_ot_at hW0 hvm.symm (hgood _ List.mem_cons_self) hk
  have hini' : (Cond.initialized cls).before args s' = true := vx_ot_at hW0 hvm.symm (hgood _ (List.mem_cons_of_mem _ List.mem_cons_self)) hini
  have hU' : vx_Zq Bundle.tN "UNASSIGNED_STACK" Bundle.steD A s' s'.heap := by rw [hhp]; exact vx_Zq.moved hW0.alike (hU.kept hS.2.1)
  have hN' : vx_Zq Bundle.tN "SUPPRESSED_SENTINEL" Bundle.listD A s' s'.heap := by rw [hhp]; exact vx_Zq.moved hW0.alike (hN.kept hS.2.1)
  have h : ∀ w ∈ Bundle.ownAtoms0 own ic cls names, w.before args s' = true := vx_own hat' (vx_isRefq hU'.1) (vx_isRefq hN'.1) hU'.2.word hN'.2.word
  have hown' : s'.vm.findClass own = some m.cls := by rw [hvm]; exact hown
  have hins : (Cond.instantiable cls 6).before args s' = true := h _ (by simp [Bundle.ownAtoms0])
  obtain ⟨vm₁, cX, kX, hfX, hkX, -, -, X₁, st1⟩ := Y.newCold hexec (own := own) (C := cls) (index := ik) (n := 6) hown' hk' hins hini'
    (g := F0 m pc ls rest) rfl (by rw [hb]; exact d0) (Nat.le_refl _) (Nat.le_refl _)
  generalize hT1 : (T.setVm vm₁).pushCell { cls := cX, slots := kX.instanceTypes.map defaultValue, vm := .none } = T1 at X₁ st1
  have hcat : (Value.ref T.heap.size).category = 1 := rfl
  have hcellA : T1.heap[T.heap.size]? = some (freshCell cX kX) := by rw [← hT1]; exact State.heap_pushCell_size _ _
  have d3' : decode c.code (pc + 3) = .ok (.dup, 1) := by rw [hb]; exact d3
  obtain ⟨U, hsteps, hrun, hend, hW, hsame, ce, hce, hO⟩ := X₁.ctorThrow0 hexec htr (own := own) (cls := cls) (names := names) (ic := ic) hown' hcls hnames h (fun x hx => nomatch hx) hfX hkX hcellA (by rw [hhp, hT]; exact Nat.le_refl _)
    (g := { method := m, pc := pc + 4, locals := ls, stack := .ref T.heap.size :: .ref T.heap.size :: rest, locked := none }) rfl hsize rfl rfl (rest := rest) rfl
    (by rw [hb]; exact d4) (by rw [hb]; exact d7) hout hRframes (by simp only [List.map_cons, List.sum_cons, hcat]; omega) hlocks
  obtain ⟨f1, f2⟩ := vx_frame hsame
  rw [hhp] at f1 f2
  have hWs : s.WarmedH U.vm := State.WarmedH.trans hW0 hW
  have hcl : s.vm.findClass cls = some ce.cls := by
    have h9 := hO.cls
    rw [hvm] at h9
    exact h9
  have hall : s.sameButNew ({ U with vm := s.vm } : State) locs mc ms := by
    subst hA
    obtain ⟨e1, e2⟩ := hsame
    rw [State.setFrames_setFrames] at e1
    have h2 : (T.setVm s.vm).sameButNew ({ U with vm := s.vm } : State) [] (0 + 1) (0 + 6) := ⟨e1, e2⟩
    have h3 := X.same.trans h2
    rw [List.append_nil] at h3
    exact h3.mono hc hs
  refine ⟨U, ?_, .threw T.heap.size, hrun, hend, Or.inr ⟨T.heap.size, rfl, cls, ce, locs, hx U hWs.alike f1 (fun q hq => f2 q hq (fun z hz => nomatch hz)), hce, hO.vm, hcl, hWs, hall, hf⟩⟩
  refine st1 _ ?_
  show Steps p.tables e below (T1.setTop { method := m, pc := pc + 3, locals := ls, stack := .ref T.heap.size :: rest, locked := none }) _
  jvm_step X₁.here [X₁.here.top, hexec, d3', Value.category]
  exact hsteps
/-- 'throw new E("text")': new; dup; ldc; invokespecial; athrow -/
theorem vx_throwS {cc : ByteArray} {pc : Nat} (hexec : p.tables.exec = Jvm.exec) (hb : c.code = cc) (hl : l.stackTraces = false) {own cls text : String} {names : List String} {ik is ic mc ms sa : Nat} {A : Nat → Prop}
    (hown : s.vm.findClass own = some m.cls) (hcls : Bundle.fit cls = true) (hnames : ∀ n ∈ names, Bundle.fit n = true)
    (hk : (Cond.classLink own ik cls).before args s = true) (hini : (Cond.initialized cls).before args s = true) (hstr : vk_R own is text sa s) (hat : ∀ w ∈ vx_atS own ic cls names, w.before args s = true)
    (hgood : ∀ w ∈ Cond.classLink own ik cls :: Cond.initialized cls :: vx_atS own ic cls names, vx_ot w = true)
    (hU : vx_Zq Bundle.tN "UNASSIGNED_STACK" Bundle.steD A s s.heap) (hN : vx_Zq Bundle.tN "SUPPRESSED_SENTINEL" Bundle.listD A s s.heap) (hS : va_S A s.heap H locs) (hsize : ls.size = c.maxLocals)
    (d0 : decode cc pc = .ok (.new ik, 3)) (d3 : decode cc (pc + 3) = .ok (.dup, 1)) (d4 : decode cc (pc + 4) = .ok (.ldc is, 2)) (d6 : decode cc (pc + 6) = .ok (.invokespecial ic, 3)) (d9 : decode cc (pc + 9) = .ok (.athrow, 1))
    (hout : ∀ x ∈ c.exceptionTable.toList, covers x (pc + 9) = false)
    (hRframes : names.length + 3 < R.frames) (hRlocals : (rest.map fun v => v.category).sum + (13 * (names.length + 1) + 43) ≤ R.locals) (hRcells : cells + 1 ≤ R.cells) (hRslots : slots + 6 ≤ R.slots) (hlocks : meth.locks = false)
    (hx : ∀ t : State, s.vm.Alike t.vm → H.size ≤ t.heap.size → (∀ q : Nat, q < H.size → t.heap[q]? = H[q]?) → XC cls s t)
    (hf : ∀ z ∈ locs, free z.base) (hc : cells + 1 ≤ mc) (hs : slots + 6 ≤ ms) :
    W p l e R s m args below meth c H locs cells slots (vx_MQ below Qc XC args s mc ms free) (F0 m pc ls rest) := by
  intro T hT X
  have htr : e.platform.stackTraces = false := (show e.platform.stackTraces = l.stackTraces by rw [X.admits.platform]).trans hl
  have Y := vx_rebase X (R' := { frames := R.frames, locals := R.locals, cells := 1, slots := 6 }) (Nat.le_refl _) (Nat.le_refl _) hRcells hRslots
  obtain ⟨s', hA⟩ : ∃ z, z = (T.setVm s.vm).setFrames (.invoking m args :: below) := ⟨_, rfl⟩
  rw [← hA] at Y
  have hvm : s'.vm = s.vm := by rw [hA]; rfl
  have hhp : s'.heap = H := by rw [hA]; exact hT
  have hW0 : s.WarmedH s'.vm := by rw [hvm]; exact State.WarmedH.refl s
  have hat' : ∀ w ∈ vx_atS own ic cls names, w.before args s' = true := fun w hw => vx_ot_at hW0 hvm.symm (hgood w (List.mem_cons_of_mem _ (List.mem_cons_of_mem _ hw))) (hat w hw)
  have hk' : (Cond.classLink own ik cls).before args s' = true := vx_ot_at hW0 hvm.symm (hgood _ List.mem_cons_self) hk
  have hini' : (Cond.initialized cls).before args s' = true := vx_ot_at hW0 hvm.symm (hgood _ (List.mem_cons_of_mem _ List.mem_cons_self)) hini
  have hU' : vx_Zq Bundle.tN "UNASSIGNED_STACK" Bundle.steD A s' s'.heap := by rw [hhp]; exact vx_Zq.moved hW0.alike (hU.kept hS.2.1)
  have hN' : vx_Zq Bundle.tN "SUPPRESSED_SENTINEL" Bundle.listD A s' s'.heap := by rw [hhp]; exact vx_Zq.moved hW0.alike (hN.kept hS.2.1)
  have h : ∀ w ∈ Bundle.ownAtoms own ic cls names, w.before args s' = true := vx_own hat' (vx_isRefq hU'.1) (vx_isRefq hN'.1) hU'.2.word hN'.2.word
  have hown' : s'.vm.findClass own = some m.cls := by rw [hvm]; exact hown
  have hins : (Cond.instantiable cls 6).before args s' = true := h _ (by simp [Bundle.ownAtoms])
  obtain ⟨vm₁, cX, kX, hfX, hkX, -, -, X₁, st1⟩ := Y.newCold hexec (own := own) (C := cls) (index := ik) (n := 6) hown' hk' hins hini'
    (g := F0 m pc ls rest) rfl (by rw [hb]; exact d0) (Nat.le_refl _) (Nat.le_refl _)
  generalize hT1 : (T.setVm vm₁).pushCell { cls := cX, slots := kX.instanceTypes.map defaultValue, vm := .none } = T1 at X₁ st1
  have hcat : (Value.ref T.heap.size).category = 1 := rfl
  have hcellA : T1.heap[T.heap.size]? = some (freshCell cX kX) := by rw [← hT1]; exact State.heap_pushCell_size _ _
  have d3' : decode c.code (pc + 3) = .ok (.dup, 1) := by rw [hb]; exact d3
  have d4' : decode c.code (pc + 4) = .ok (.ldc is, 2) := by rw [hb]; exact d4
  have hstr' : vk_R own is text sa s' := vk_R.warm hW0 hstr
  obtain ⟨U, hsteps, hrun, hend, hW, hsame, ce, hce, hO⟩ := X₁.ctorThrowS hexec htr (own := own) (cls := cls) (names := names) (ic := ic) hown' hcls hnames h (fun x hx => nomatch hx) hfX hkX hcellA (by rw [hhp, hT]; exact Nat.le_refl _) (msg := .ref sa) rfl
    (g := { method := m, pc := pc + 6, locals := ls, stack := .ref sa :: .ref T.heap.size :: .ref T.heap.size :: rest, locked := none }) rfl hsize rfl rfl (rest := rest) rfl
    (by rw [hb]; exact d6) (by rw [hb]; exact d9) hout hRframes (by simp only [List.map_cons, List.sum_cons, hcat]; omega) hlocks
  obtain ⟨f1, f2⟩ := vx_frame hsame
  rw [hhp] at f1 f2
  have hWs : s.WarmedH U.vm := State.WarmedH.trans hW0 hW
  have hcl : s.vm.findClass cls = some ce.cls := by
    have h9 := hO.cls
    rw [hvm] at h9
    exact h9
  have hall : s.sameButNew ({ U with vm := s.vm } : State) locs mc ms := by
    subst hA
    obtain ⟨e1, e2⟩ := hsame
    rw [State.setFrames_setFrames] at e1
    have h2 : (T.setVm s.vm).sameButNew ({ U with vm := s.vm } : State) [] (0 + 1) (0 + 6) := ⟨e1, e2⟩
    have h3 := X.same.trans h2
    rw [List.append_nil] at h3
    exact h3.mono hc hs
  refine ⟨U, ?_, .threw T.heap.size, hrun, hend, Or.inr ⟨T.heap.size, rfl, cls, ce, locs, hx U hWs.alike f1 (fun q hq => f2 q hq (fun z hz => nomatch hz)), hce, hO.vm, hcl, hWs, hall, hf⟩⟩
  refine st1 _ ?_
  show Steps p.tables e below (T1.setTop { method := m, pc := pc + 3, locals := ls, stack := .ref T.heap.size :: rest, locked := none }) _
  jvm_step X₁.here [X₁.here.top, hexec, d3', Value.category]
  exact X₁.ldcString hexec (own := own) (text := text) (index := is) (a := sa) hown' hstr'.1 hstr'.2
    (g := { method := m, pc := pc + 4, locals := ls, stack := .ref T.heap.size :: .ref T.heap.size :: rest, locked := none }) rfl d4' _ hsteps
/-- 'throw new E("text")', the text by a wide index -/
theorem vx_throwSW {cc : ByteArray} {pc : Nat} (hexec : p.tables.exec = Jvm.exec) (hb : c.code = cc) (hl : l.stackTraces = false) {own cls text : String} {names : List String} {ik is ic mc ms sa : Nat} {A : Nat → Prop}
    (hown : s.vm.findClass own = some m.cls) (hcls : Bundle.fit cls = true) (hnames : ∀ n ∈ names, Bundle.fit n = true)
    (hk : (Cond.classLink own ik cls).before args s = true) (hini : (Cond.initialized cls).before args s = true) (hstr : vk_R own is text sa s) (hat : ∀ w ∈ vx_atS own ic cls names, w.before args s = true)
    (hgood : ∀ w ∈ Cond.classLink own ik cls :: Cond.initialized cls :: vx_atS own ic cls names, vx_ot w = true)
    (hU : vx_Zq Bundle.tN "UNASSIGNED_STACK" Bundle.steD A s s.heap) (hN : vx_Zq Bundle.tN "SUPPRESSED_SENTINEL" Bundle.listD A s s.heap) (hS : va_S A s.heap H locs) (hsize : ls.size = c.maxLocals)
    (d0 : decode cc pc = .ok (.new ik, 3)) (d3 : decode cc (pc + 3) = .ok (.dup, 1)) (d4 : decode cc (pc + 4) = .ok (.ldc_w is, 3)) (d7 : decode cc (pc + 7) = .ok (.invokespecial ic, 3)) (d10 : decode cc (pc + 10) = .ok (.athrow, 1))
    (hout : ∀ x ∈ c.exceptionTable.toList, covers x (pc + 10) = false)
    (hRframes : names.length + 3 < R.frames) (hRlocals : (rest.map fun v => v.category).sum + (13 * (names.length + 1) + 43) ≤ R.locals) (hRcells : cells + 1 ≤ R.cells) (hRslots : slots + 6 ≤ R.slots) (hlocks : meth.locks = false)
    (hx : ∀ t : State, s.vm.Alike t.vm → H.size ≤ t.heap.size → (∀ q : Nat, q < H.size → t.heap[q]? = H[q]?) → XC cls s t)
    (hf : ∀ z ∈ locs, free z.base) (hc : cells + 1 ≤ mc) (hs : slots + 6 ≤ ms) :
    W p l e R s m args below meth c H locs cells slots (vx_MQ below Qc XC args s mc ms free) (F0 m pc ls rest) := by
  intro T hT X
  have htr : e.platform.stackTraces = false := (show e.platform.stackTraces = l.stackTraces by rw [X.admits.platform]).trans hl
  have Y := vx_rebase X (R' := { frames := R.frames, locals := R.locals, cells := 1, slots := 6 }) (Nat.le_refl _) (Nat.le_refl _) hRcells hRslots
  obtain ⟨s', hA⟩ : ∃ z, z = (T.setVm s.vm).setFrames (.invoking m args :: below) := ⟨_, rfl⟩
  rw [← hA] at Y
  have hvm : s'.vm = s.vm := by rw [hA]; rfl
  have hhp : s'.heap = H := by rw [hA]; exact hT
  have hW0 : s.WarmedH s'.vm := by rw [hvm]; exact State.WarmedH.refl s
  have hat' : ∀ w ∈ vx_atS own ic cls names, w.before args s' = true := fun w hw => vx_ot_at hW0 hvm.symm (hgood w (List.mem_cons_of_mem _ (List.mem_cons_of_mem _ hw))) (hat w hw)
  have hk' : (Cond.classLink own ik cls).before args s' = true := vx_ot_at hW0 hvm.symm (hgood _ List.mem_cons_self) hk
  have hini' : (Cond.initialized cls).before args s' = true := vx_ot_at hW0 hvm.symm (hgood _ (List.mem_cons_of_mem _ List.mem_cons_self)) hini
  have hU' : vx_Zq Bundle.tN "UNASSIGNED_STACK" Bundle.steD A s' s'.heap := by rw [hhp]; exact vx_Zq.moved hW0.alike (hU.kept hS.2.1)
  have hN' : vx_Zq Bundle.tN "SUPPRESSED_SENTINEL" Bundle.listD A s' s'.heap := by rw [hhp]; exact vx_Zq.moved hW0.alike (hN.kept hS.2.1)
  have h : ∀ w ∈ Bundle.ownAtoms own ic cls names, w.before args s' = true := vx_own hat' (vx_isRefq hU'.1) (vx_isRefq hN'.1) hU'.2.word hN'.2.word
  have hown' : s'.vm.findClass own = some m.cls := by rw [hvm]; exact hown
  have hins : (Cond.instantiable cls 6).before args s' = true := h _ (by simp [Bundle.ownAtoms])
  obtain ⟨vm₁, cX, kX, hfX, hkX, -, -, X₁, st1⟩ := Y.newCold hexec (own := own) (C := cls) (index := ik) (n := 6) hown' hk' hins hini'
    (g := F0 m pc ls rest) rfl (by rw [hb]; exact d0) (Nat.le_refl _) (Nat.le_refl _)
  generalize hT1 : (T.setVm vm₁).pushCell { cls := cX, slots := kX.instanceTypes.map defaultValue, vm := .none } = T1 at X₁ st1
  have hcat : (Value.ref T.heap.size).category = 1 := rfl
  have hcellA : T1.heap[T.heap.size]? = some (freshCell cX kX) := by rw [← hT1]; exact State.heap_pushCell_size _ _
  have d3' : decode c.code (pc + 3) = .ok (.dup, 1) := by rw [hb]; exact d3
  have d4' : decode c.code (pc + 4) = .ok (.ldc_w is, 3) := by rw [hb]; exact d4
  have hstr' : vk_R own is text sa s' := vk_R.warm hW0 hstr
  obtain ⟨U, hsteps, hrun, hend, hW, hsame, ce, hce, hO⟩ := X₁.ctorThrowS hexec htr (own := own) (cls := cls) (names := names) (ic := ic) hown' hcls hnames h (fun x hx => nomatch hx) hfX hkX hcellA (by rw [hhp, hT]; exact Nat.le_refl _) (msg := .ref sa) rfl
    (g := { method := m, pc := pc + 7, locals := ls, stack := .ref sa :: .ref T.heap.size :: .ref T.heap.size :: rest, locked := none }) rfl hsize rfl rfl (rest := rest) rfl
    (by rw [hb]; exact d7) (by rw [hb]; exact d10) hout hRframes (by simp only [List.map_cons, List.sum_cons, hcat]; omega) hlocks
  obtain ⟨f1, f2⟩ := vx_frame hsame
  rw [hhp] at f1 f2
  have hWs : s.WarmedH U.vm := State.WarmedH.trans hW0 hW
  have hcl : s.vm.findClass cls = some ce.cls := by
    have h9 := hO.cls
    rw [hvm] at h9
    exact h9
  have hall : s.sameButNew ({ U with vm := s.vm } : State) locs mc ms := by
    subst hA
    obtain ⟨e1, e2⟩ := hsame
    rw [State.setFrames_setFrames] at e1
    have h2 : (T.setVm s.vm).sameButNew ({ U with vm := s.vm } : State) [] (0 + 1) (0 + 6) := ⟨e1, e2⟩
    have h3 := X.same.trans h2
    rw [List.append_nil] at h3
    exact h3.mono hc hs
  refine ⟨U, ?_, .threw T.heap.size, hrun, hend, Or.inr ⟨T.heap.size, rfl, cls, ce, locs, hx U hWs.alike f1 (fun q hq => f2 q hq (fun z hz => nomatch hz)), hce, hO.vm, hcl, hWs, hall, hf⟩⟩
  refine st1 _ ?_
  show Steps p.tables e below (T1.setTop { method := m, pc := pc + 3, locals := ls, stack := .ref T.heap.size :: rest, locked := none }) _
  jvm_step X₁.here [X₁.here.top, hexec, d3', Value.category]
  exact X₁.ldcStringW hexec (own := own) (text := text) (index := is) (a := sa) hown' hstr'.1 hstr'.2
    (g := { method := m, pc := pc + 4, locals := ls, stack := .ref T.heap.size :: .ref T.heap.size :: rest, locked := none }) rfl d4' _ hsteps
end Ends
section Bodies
variable {l : Launch}
theorem vx_ofW {y : MethodName} {ws ws' : List Cond} {rm : Room} {Pc : Array Value → State → Prop} {Qc : Array Value → State → Outcome → State → Prop} {XC : String → State → State → Prop} {mc ms : Nat} {free : Addr → Prop} {cc : ByteArray} {maxL : Nat} {ret : Option FieldType}
    (hy : plainName y.cls = true) (hw : ws = Cond.code y cc maxL ret :: ws')
    (body : ∀ p e s m args below meth c s₁, BodyLoose p l y (headSpec ws rm) cc maxL ret e s m args below meth c s₁ → c.maxLocals = maxL → (∀ x ∈ c.exceptionTable.toList, False) → Pc args s →
      W p l e (headSpec ws rm).room s m args below meth c s.heap [] 0 0 (vx_MQ below Qc XC args s mc ms free) (entryFrame m args maxL)) : vx_Met l y ws rm Pc Qc XC mc ms free := by
  refine MetFree.of_bodyS (code := cc) (maxLocals := maxL) (ret := ret) hy ?_ ?_
  · intro args s m h hn
    obtain ⟨meth, c, h1, h2, h3, h4, h5, h6, -, -⟩ := Cond.code_spec hn (atoms_spec (ws := ws) h _ (by rw [hw]; exact List.mem_cons_self))
    exact ⟨meth, c, h1, h2, h3, h4, h5, h6⟩
  · intro p e s m args below meth c s₁ B hml hP _
    have hh0 : s₁.heap = s.heap := by rw [B.state]; rfl
    have ht : ∀ x ∈ c.exceptionTable.toList, False := by
      obtain ⟨meth9, c9, h1, h2, -, -, -, -, h7, -⟩ := Cond.code_spec B.named (atoms_spec (ws := ws) B.pre _ (by rw [hw]; exact List.mem_cons_self))
      cases Option.some.inj (h1.symm.trans B.method)
      cases Option.some.inj (h2.symm.trans (Stand.of_body B).code)
      intro x hx
      rw [Array.isEmpty_iff.mp h7] at hx
      cases hx
    obtain ⟨t, a1, o, b1, b2, b3⟩ := body p e s m args below meth c s₁ B hml ht hP s₁ hh0 (Stand.of_body B)
    exact ⟨t, o, a1, b1, b2, b3⟩
/-- the table of a body with handlers -/
theorem vx_table {p : Program} {x y : MethodName} {S : Spec} {cc bytes : ByteArray} {maxL maxL' : Nat} {ret ret' : Option FieldType} {e : Env} {s s₁ : State} {m : MethodId} {args : Array Value} {below : List Frame} {meth : Method} {c : Code} {hh : List (Nat × Nat × Nat × Nat)}
    (B : BodyLoose p l y S cc maxL ret e s m args below meth c s₁) (h : (Cond.codeWith y bytes maxL' ret' hh).before args s = true) : c.exceptionTable.toList = tableOf hh := by
  obtain ⟨m9, meth9, c9, hn9, h1, h2, -, -, h6, -⟩ := Cond.codeWith_spec h
  cases Option.some.inj (hn9.symm.trans B.named)
  cases Option.some.inj (h1.symm.trans B.method)
  cases Option.some.inj (h2.symm.trans (Stand.of_body B).code)
  rw [← h6, table_eq]
end Bodies
end VXA
/-! ===== END ===== -/
/-! ===== BEGIN a static call of a method with an exception table ===== -/
section VXS
variable {p : Program} {l : Launch} {e : Env} {R : Room} {s : State} {m : MethodId} {args : Array Value} {below : List Frame} {meth : Method} {c : Code} {T : State} {H : Heap} {locs : List Loc} {cells slots : Nat}
abbrev vx_CSW (R : Room) (s : State) (args : Array Value) (own : String) (index : Nat) (y : MethodName) (bytes : ByteArray) (maxL : Nat) (ret : Option FieldType) (hh : List (Nat × Nat × Nat × Nat)) (ws : List Cond) (rm : Room) (mc ms n : Nat) : Prop :=
  (rm.cells = mc ∧ rm.slots = ms ∧ rm.frames + 1 ≤ R.frames ∧ 8 + (maxL + 11) + rm.locals ≤ R.locals ∧ (∀ w ∈ ws, ∀ (a' : Array Value) (U : State), s.WarmedH U.vm → w.before a' U = true) ∧ Cond.codeWith y bytes maxL ret hh ∈ ws) ∧
  (Cond.codeWith y bytes maxL ret hh).before args s = true ∧ (Cond.initialized y.cls).before args s = true ∧ (y.cls ≠ "java/lang/invoke/MethodHandle" ∧ y.cls ≠ "java/lang/invoke/VarHandle") ∧
  (∀ sig, parseMethodDescriptor y.desc = some sig → n = sig.parameters.length) ∧ (Cond.methodLink own index y).before args s = true ∧ (Cond.static y).before args s = true
theorem vx_cwSW {own : String} {index maxL mc ms : Nat} {y : MethodName} {bytes : ByteArray} {ret : Option FieldType} {hh : List (Nat × Nat × Nat × Nat)} {Ts ws ws' : List Cond} {rm : Room} (n : Nat) (ht : ∀ w ∈ Ts, w.before args s = true) (hT : GoodIn Ts (va_wsS own index y ws)) (hw : ws = Cond.codeWith y bytes maxL ret hh :: ws') (hrc : rm.cells = mc) (hrs : rm.slots = ms)
    (hd : y.cls ≠ "java/lang/invoke/MethodHandle" ∧ y.cls ≠ "java/lang/invoke/VarHandle" ∧ (parseMethodDescriptor y.desc).map (fun d => d.parameters.length) = some n) (hR : rm.frames + 1 ≤ R.frames ∧ 8 + (maxL + 11) + rm.locals ≤ R.locals) :
    vx_CSW R s args own index y bytes maxL ret hh ws rm mc ms n := by
  have ok : ∀ w ∈ va_wsS own index y ws, w.before args s = true := fun w h => ht w (hT w h).1
  have hG : GoodIn Ts ws := fun w h => hT w (by unfold va_wsS; exact List.mem_append_right _ h)
  have hc : Cond.codeWith y bytes maxL ret hh ∈ ws := by rw [hw]; exact List.mem_cons_self
  refine ⟨⟨hrc, hrs, hR.1, hR.2, pay_in ht hG, hc⟩, ht _ (hG _ hc).1, ok _ (by simp [va_wsS]), ⟨hd.1, hd.2.1⟩, fun sig h => ?_, ok _ (by simp [va_wsS]), ok _ (by simp [va_wsS])⟩
  have h2 := hd.2.2
  rw [h] at h2
  exact (Option.some.inj h2).symm
theorem vx_callSW (X : Stand p l e R s m args below meth c T locs cells slots) (hexec : p.tables.exec = Jvm.exec) {own : String} {index : Nat} {y : MethodName} {bytes : ByteArray} {maxL : Nat} {ret : Option FieldType} {hh : List (Nat × Nat × Nat × Nat)}
    (hown : s.vm.findClass own = some m.cls) (hlink : (Cond.methodLink own index y).before args s = true) (hstat : (Cond.static y).before args s = true) (hinit : (Cond.initialized y.cls).before args s = true)
    (hcode : (Cond.codeWith y bytes maxL ret hh).before args s = true) (hy : y.cls ≠ "java/lang/invoke/MethodHandle" ∧ y.cls ≠ "java/lang/invoke/VarHandle")
    {W9 : Nat} {Pre : Pt → Array Value → Prop} {Post : Pt → Array Value → Option Value → Pt → Prop} (hK : Back l R p e below s args y 3 W9 Pre Post)
    {g : JFrame} (hg : g.method = m) (hsize : g.locals.size = c.maxLocals) {argsL rest : List Value} (hlen : ∀ sig, parseMethodDescriptor y.desc = some sig → argsL.length = sig.parameters.length)
    (hstack : g.stack = argsL.reverse ++ rest) (hW : 2 * g.monitorRoom + (rest.map fun v => v.category).sum ≤ W9) (hdg : decode c.code g.pc = .ok (.invokestatic index, 3))
    (hpre : ∀ vm₁, s.WarmedH vm₁ → Pre ⟨T.setVm vm₁, locs, cells, slots⟩ argsL.toArray) :
    ∃ (v : Option Value) (vm₁ : Vm) (B : Pt), s.WarmedH vm₁ ∧ Stand p l e R s m args below meth c B.U B.locs B.cells B.slots ∧ Post ⟨T.setVm vm₁, locs, cells, slots⟩ argsL.toArray v B ∧
      ∀ target, Steps p.tables e below (B.U.setTop { g with pc := g.pc + 3, stack := v.toList ++ rest }) target → Steps p.tables e below (T.setTop g) target := by
  obtain ⟨mk, methM, cM, hnamed, hmethM, -, -, -, -, -, -, hsigM⟩ := Cond.codeWith_spec hcode
  have hstatic : methM.isStatic = true := Cond.static_spec hnamed hmethM hstat
  obtain ⟨kP, hkP, -⟩ := className_of_methodNamed hnamed
  have hinitP : kP.init = .initialized := Cond.initialized_spec (findClass_of_methodNamed hnamed) hkP hinit
  obtain ⟨vm₁, X₁, hstep₁⟩ := X.invokestatic hexec hown hlink hnamed hmethM hstatic hkP hinitP hy (g := g) hg (argsL := argsL) (rest := rest) (hlen _ hsigM) hstack hdg
  obtain ⟨v, B, X', hpost, hsteps⟩ := hK m meth c ⟨T.setVm vm₁, locs, cells, slots⟩ { g with stack := rest } (.invokestatic index) mk argsL.toArray X₁ hg hsize hdg hW (X₁.named hnamed) (hpre vm₁ X₁.warmed)
  exact ⟨v, vm₁, B, X₁.warmed, X', hpost, fun target h => hstep₁ _ fun acts => by rw [doInvoke_state]; exact hsteps.trans h⟩
theorem vx_runSW {y : MethodName} {bytes cc : ByteArray} {maxL nL mc ms n index : Nat} {ret : Option FieldType} {hh : List (Nat × Nat × Nat × Nat)} {ws : List Cond} {rm : Room} {Pc : Array Value → State → Prop} {Qc : Array Value → State → Outcome → State → Prop} {free : Addr → Prop} {Ts : List Cond} {own : String} {As rest : List Value} {g : JFrame}
    (S : CallFix p m c cc nL s args Ts own) (hM : Met l y ws rm Pc Qc mc ms free) (cw : vx_CSW R s args own index y bytes maxL ret hh ws rm mc ms n) (hp : PreS s H Pc As)
    (hg : g.method = m) (hn : As.length = n) (hsize : g.locals.size = nL) (hstack : g.stack = As.reverse ++ rest) (hW : 2 * g.monitorRoom + (rest.map fun v => v.category).sum ≤ 8) (hdg : decode cc g.pc = .ok (.invokestatic index, 3)) (hf : cells + mc ≤ R.cells ∧ slots + ms ≤ R.slots) :
    va_Run p l e R s m args below meth c H locs cells slots mc ms g rest (Qc As.toArray) (free) := by
  obtain ⟨⟨hrc, hrs, hfr, hlo, hws, hcw⟩, hcode, hini, hy, hlen, hl, hstt⟩ := cw
  have hK : Back l R p e below s args y 3 8 (PreOf R mc ms Pc) (PostOf Qc mc ms free) := va_backW (hh := hh) (bytes := bytes) (maxL := maxL) (ret := ret) hM hp.1 hrc hrs hfr hlo hws hcw (fun a' U hW => word_at hW (Or.inl (by first | rfl | simp [Cond.onTables, Cond.keeps, Cond.steady])) hini)
  obtain ⟨hx, hb, hml, ho, -⟩ := S
  intro T hT X
  obtain ⟨v, vm₁, ⟨U', l2, c2, s2⟩, hW₁, X', ⟨g', mk, t, L, e1, e2, hq, h1, hL, h2, h3⟩, st⟩ := vx_callSW X hx (hh := hh) (bytes := bytes) (maxL := maxL) (ret := ret) ho hl hstt hini hcode hy hK hg (hsize.trans hml.symm) (argsL := As) (rest := rest) (fun sig h => hn.trans (hlen sig h)) hstack hW (by rw [hb]; exact hdg)
    (fun vm₁ hW₁ => ⟨hf.1, hf.2, hp.2 (T.setVm vm₁) hT hW₁⟩)
  dsimp only [Pt.U, Pt.locs, Pt.cells, Pt.slots] at X' e1 e2 h1 h2 h3 st
  subst h1; subst h2; subst h3
  exact ⟨v, (T.setVm vm₁).calling g' mk As.toArray, t, U', L, hT, X', hL, e1, e2, hq, st⟩
/-- not caught here, past rows that name other classes: it goes on to the caller -/
theorem vx_outP {p : Program} {l : Launch} {e : Env} {R : Room} {s : State} {m : MethodId} {args : Array Value} {below : List Frame} {meth : Method} {c : Code} {H : Heap} {locs : List Loc} {cells slots : Nat} {free : Addr → Prop} {ls : Array Slot} {rest : List Value} {Qc : Array Value → State → Outcome → State → Prop} {XC : String → State → State → Prop}
    {pc : Nat} {own E : String} {ce : Cell} {q : Addr} {mc ms : Nat} (hown : s.vm.findClass own = some m.cls) (hlocks : meth.locks = false)
    (hpass : ∀ z ∈ c.exceptionTable.toList, covers z pc = false ∨ (z.catchType ≠ 0 ∧ ∃ nm : String, (Cond.classLink own z.catchType nm).before args s = true ∧ va_Nc E nm s)) (hcell : H[q]? = some ce) (hv : ce.vm = .none) (hcl : s.vm.findClass E = some ce.cls)
    (hx : ∀ t : State, t.heap = H → s.vm.Alike t.vm → XC E s t) (hf : ∀ z ∈ locs, free z.base) (hc : cells ≤ mc) (hs : slots ≤ ms) :
    vx_W p l e R s m args below meth c H locs cells slots (vx_MQ below Qc XC args s mc ms free) (F0 m pc ls rest) q := by
  intro T hT X
  have hpl : e.platform.magicAccessors = ({} : Platform).magicAccessors := by rw [X.admits.platform]
  obtain ⟨vm', hW', X', st⟩ := X.outThrough hlocks q (g := F0 m pc ls rest) rfl rfl rfl (cell := ce) (by rw [hT]; exact hcell) (by rw [hv]; rfl)
    (by obtain ⟨k9, h9, -⟩ := Vm.findClass_spec hcl; exact ⟨k9, h9⟩) (fun z hz => by
      rcases hpass z hz with h | ⟨hz0, nm, hl1, hn1⟩
      · exact Or.inl h
      · obtain ⟨c6, hc6, hcl6⟩ := Cond.classLink_spec hown hl1 e.platform hpl
        obtain ⟨a8, b8, h1, h2, h3⟩ := hn1
        cases Option.some.inj (h1.symm.trans hcl)
        cases Option.some.inj (h2.symm.trans hc6)
        exact Or.inr ⟨hz0, _, hcl6, h3⟩)
  obtain ⟨g₀, hfr⟩ := X'.frames_eq
  have hcell9 : ((T.setVm vm').setFrames (.throwing q :: below)).heap[q]? = some ce := by
    show T.heap[q]? = some ce
    rw [hT]; exact hcell
  have hend : Ended ((T.setVm vm').setFrames (.throwing q :: below)) below (.threw q) := State.frames_setFrames _ (State.cur_lt_of_frames hfr)
  refine ⟨(T.setVm vm').setFrames (.throwing q :: below), ?_, .threw q, X'.here.running, hend, Or.inr ⟨q, rfl, E, ce, locs, hx _ hT (X'.ends _).1.alike, hcell9, hv, hcl, (X'.ends _).1, (X'.ends _).2.mono hc hs, hf⟩⟩
  rw [X.pushThrowing_eq]
  exact st
/-- a thing of a world lies in the heap -/
theorem vx_lt {D : va_G} {cl : List vw_C} {ws : va_W} {H1 : Heap} (h : va_P D cl ws H1) {k : Nat} {q : Nat × va_E} (hk : ws[k]? = some q) : q.1 < H1.size := (h k q hk).lt
end VXS
/-! ===== END ===== -/
/-! ===== BEGIN methods with a table of their own: called by a name, returning or throwing ===== -/
section VXH
/-! vx_backW, vx_callVX, vx_callSX, vx_callVW, vx_runVW, vx_runVX, vx_runSX, vx_ofWH follow the same proofs as their sisters above (Free/Laws.lean, Shelf42/LK1.lean); vx_outP calls Shelf42/NT130.lean (outThrough). -/
section
variable {l : Launch} {R : Room} {p : Program} {e : Env} {below : List Frame} {s : State} {sargs : Array Value} {y : MethodName} {len W9 : Nat}
theorem vx_backW {ws : List Cond} {rm : Room} {Pc : Array Value → State → Prop} {Qc : Array Value → State → Outcome → State → Prop} {XC : String → State → State → Prop} {mc ms : Nat} {free : Addr → Prop} {bytes : ByteArray} {maxL : Nat} {ret : Option FieldType} {hh : List (Nat × Nat × Nat × Nat)}
    (hM : vx_Met l y ws rm Pc Qc XC mc ms free) (hblind : FrameBlind Pc) (hrc : rm.cells = mc) (hrs : rm.slots = ms)
    (hframes : rm.frames + 1 ≤ R.frames) (hlocals : W9 + (maxL + 11) + rm.locals ≤ R.locals)
    (hws : ∀ w ∈ ws, ∀ a' U, s.WarmedH U.vm → w.before a' U = true) (hcode : Cond.codeWith y bytes maxL ret hh ∈ ws) (hinit : ∀ a' U, s.WarmedH U.vm → (Cond.initialized y.cls).before a' U = true) :
    vx_Back l R p e below s sargs y len W9 (PreOf R mc ms Pc) (PostOf Qc mc ms free) (vx_Post XC mc ms free) := by
  intro m meth c A g ig mk a X hg hsize hdg hW hn hp
  have h1 : (headSpec ws rm).pre.before a A.U = true := atoms_intro fun w hw => hws w hw _ _ X.warmed
  have h2 : (Cond.codeWith y bytes maxL ret hh).before a A.U = true := hws _ hcode _ _ X.warmed
  have h3 : (Cond.initialized y.cls).before a A.U = true := hinit _ _ X.warmed
  have h4 : A.cells + (headSpec ws rm).room.cells ≤ R.cells := by rw [show (headSpec ws rm).room.cells = mc from hrc]; exact hp.1
  have h5 : A.slots + (headSpec ws rm).room.slots ≤ R.slots := by rw [show (headSpec ws rm).room.slots = ms from hrs]; exact hp.2.1
  have hPc : Pc a (A.U.calling g mk a) := hblind _ _ _ _ hp.2.2
  obtain ⟨U, Ls, c0, s0⟩ := A
  dsimp only [Pt.U, Pt.locs, Pt.cells, Pt.slots] at h1 h2 h3 h4 h5 X hn hPc ⊢
  obtain ⟨m9, methY, cY, hn9, hmY, hcY, -, hlY, -⟩ := Cond.codeWith_spec h2
  cases Option.some.inj (hn9.symm.trans hn)
  obtain ⟨kY, hkY, -⟩ := className_of_methodNamed hn
  have hinitY : kY.init = .initialized := Cond.initialized_spec (findClass_of_methodNamed hn) hkY h3
  have h : At U g.method c below := by rw [hg]; exact X.here
  have hlocals9 : W9 + (maxL + 11) + (headSpec ws rm).room.locals ≤ R.locals := hlocals
  have happ : (headSpec ws rm).appliesLoose y e.platform (U.calling g mk a) = true :=
    Spec.appliesLoose_calling (g := g) h hdg hn hkY hinitY
      (X.room_calling (g := g) (R' := (headSpec ws rm).room) hsize hmY hcY hframes (by rw [hlY]; omega) h4 h5) h1
  obtain ⟨mid, hmid⟩ := h.above
  have hfr : (U.setTop g).frames = (.java g :: mid) ++ below := by rw [State.frames_setTop' g h.top, hmid]; rfl
  obtain ⟨o, s₂, hsteps, -, hend, hq⟩ := Steps.callFree hM p X.admits X.cas X.clock (acts := []) hfr happ hPc trivial
  have hq' : vx_Q Qc XC mc ms free a (U.calling g mk a) o s₂ := hq
  rw [State.frames_setTop' g h.top] at hend
  obtain ⟨g₀, hg0⟩ := Option.isSome_iff_exists.mp h.top
  obtain ⟨r, hr⟩ := State.topJava?_eq_some.mp hg0
  have hr' : (({ U with heap := s₂.heap, slotsUsed := s₂.slotsUsed } : State).setVm s₂.vm).frames = .java g₀ :: r := hr
  rcases hq' with ⟨hqc, L, hfe, hL⟩ | ⟨q, rfl, E, ce, L, hx, hce, hcv, hcl, hW₂, hsm, hL⟩
  · obtain ⟨⟨v, rfl⟩, hW₂, e2, q2, q3, q4, q5, q6⟩ := id hfe
    have e3 : s₂ = ({ (U.calling g mk a).setFrames s₂.frames with heap := s₂.heap, slotsUsed := s₂.slotsUsed } : State).setVm s₂.vm := by
      have : s₂ = ({ s₂ with vm := (U.calling g mk a).vm } : State).setVm s₂.vm := rfl
      rw [e2] at this
      exact this
    obtain ⟨c₂, i₂, len₂, hc₂, hd₂, hf₂⟩ := hend
    have hW' : U.WarmedH s₂.vm := hW₂
    have hcc : c₂ = c := by
      have h1 : s₂.code? g.method = U.code? g.method := by
        rw [State.code?_eq, State.code?_eq, hW'.alike.method?]
      exact Option.some.inj (hc₂.symm.trans (h1.trans h.code))
    subst hcc
    have hlen : len₂ = len := by rw [hdg] at hd₂; cases hd₂; rfl
    subst hlen
    have hs₂ : s₂ = (({ U with heap := s₂.heap, slotsUsed := s₂.slotsUsed } : State).setVm s₂.vm).setTop { g with pc := g.pc + len₂, stack := v.toList ++ g.stack } := by
      refine e3.trans ?_
      rw [hf₂, State.calling_eq h.top, State.setFrames_setFrames, State.setTop_of_frames _ hr', hr]
      rfl
    have hsame : U.sameButNew ({ U with heap := s₂.heap, slotsUsed := s₂.slotsUsed } : State) L mc ms := by
      refine ⟨?_, q2, q3, q4, q5, q6⟩
      obtain ⟨t, ht, -⟩ := State.frames_cons hr
      show ({ U with heap := s₂.heap, slotsUsed := s₂.slotsUsed } : State) = { U.setFrames U.frames with heap := s₂.heap, slotsUsed := s₂.slotsUsed }
      rw [State.setFrames_self ht]
    subst hg
    refine Or.inl ⟨v, ⟨(({ U with heap := s₂.heap, slotsUsed := s₂.slotsUsed } : State).setVm s₂.vm), Ls ++ L, c0 + mc, s0 + ms⟩,
      ⟨X.admits, X.cas, X.clock, X.frames, X.room, X.hears, X.method, X.code, (X.here.setHeapUsed s₂.heap s₂.slotsUsed).setVm hW'.alike, X.tail, State.WarmedH.trans X.warmed hW', X.limits, X.bytes, X.same.trans (hsame.setVm s.vm)⟩,
      ⟨g, mk, s₂, L, rfl, rfl, hqc, rfl, hL, rfl, rfl⟩, ?_⟩
    show Steps p.tables e below _ ((({ U with heap := s₂.heap, slotsUsed := s₂.slotsUsed } : State).setVm s₂.vm).setTop { g with pc := g.pc + len₂, stack := v.toList ++ g.stack })
    rw [← hs₂]
    exact hsteps
  · obtain ⟨e2, q2, q3, q4, q5, q6⟩ := id hsm
    have e3 : s₂ = ({ (U.calling g mk a).setFrames s₂.frames with heap := s₂.heap, slotsUsed := s₂.slotsUsed } : State).setVm s₂.vm := by
      have : s₂ = ({ s₂ with vm := (U.calling g mk a).vm } : State).setVm s₂.vm := rfl
      rw [e2] at this
      exact this
    have hf₂ : s₂.frames = .throwing q :: .java g :: U.frames.tail := hend
    have hW' : U.WarmedH s₂.vm := hW₂
    have hs₂ : s₂ = ((({ U with heap := s₂.heap, slotsUsed := s₂.slotsUsed } : State).setVm s₂.vm).setTop g).pushFrame (.throwing q) := by
      refine e3.trans ?_
      rw [hf₂, State.calling_eq h.top, State.setFrames_setFrames, State.pushFrame, State.frames_setTop _ hr', State.setTop_of_frames _ hr', State.setFrames_setFrames, hr]
      rfl
    have hsame : U.sameButNew ({ U with heap := s₂.heap, slotsUsed := s₂.slotsUsed } : State) L mc ms := by
      refine ⟨?_, q2, q3, q4, q5, q6⟩
      obtain ⟨t, ht, -⟩ := State.frames_cons hr
      show ({ U with heap := s₂.heap, slotsUsed := s₂.slotsUsed } : State) = { U.setFrames U.frames with heap := s₂.heap, slotsUsed := s₂.slotsUsed }
      rw [State.setFrames_self ht]
    subst hg
    refine Or.inr ⟨q, ⟨(({ U with heap := s₂.heap, slotsUsed := s₂.slotsUsed } : State).setVm s₂.vm), Ls ++ L, c0 + mc, s0 + ms⟩,
      ⟨X.admits, X.cas, X.clock, X.frames, X.room, X.hears, X.method, X.code, (X.here.setHeapUsed s₂.heap s₂.slotsUsed).setVm hW'.alike, X.tail, State.WarmedH.trans X.warmed hW', X.limits, X.bytes, X.same.trans (hsame.setVm s.vm)⟩,
      ⟨g, mk, s₂, L, E, ce, rfl, rfl, hx, hce, hcv, hcl, rfl, hL, rfl, rfl⟩, ?_⟩
    show Steps p.tables e below _ (((({ U with heap := s₂.heap, slotsUsed := s₂.slotsUsed } : State).setVm s₂.vm).setTop g).pushFrame (.throwing q))
    rw [← hs₂]
    exact hsteps
end
variable {p : Program} {l : Launch} {e : Env} {R : Room} {s : State} {m : MethodId} {args : Array Value} {below : List Frame} {meth : Method} {c : Code} {T : State} {H : Heap} {locs : List Loc} {cells slots : Nat}
theorem vx_callVX (X : Stand p l e R s m args below meth c T locs cells slots) (hexec : p.tables.exec = Jvm.exec) {own C : String} {index : Nat} {y : MethodName} {bytes : ByteArray} {maxL : Nat} {ret : Option FieldType} {hh : List (Nat × Nat × Nat × Nat)}
    (hown : s.vm.findClass own = some m.cls) (hlink : (Cond.methodLink own index y).before args s = true) (hinst : (Cond.instanceMethod y).before args s = true) (hsel : (Cond.selects C y y).before args s = true)
    (hcode : (Cond.codeWith y bytes maxL ret hh).before args s = true) (hy : y.cls ≠ "java/lang/invoke/MethodHandle" ∧ y.cls ≠ "java/lang/invoke/VarHandle")
    {W9 : Nat} {Pre : Pt → Array Value → Prop} {Post : Pt → Array Value → Option Value → Pt → Prop} {PostX : Pt → Array Value → Addr → Pt → Prop} (hK : vx_Back l R p e below s args y 3 W9 Pre Post PostX)
    {b : Addr} {cellB : Cell} (hcell : T.heap[b]? = some cellB) (hobj : cellB.vm.isStatics = false) (hcls : s.vm.findClass C = some cellB.cls)
    {g : JFrame} (hg : g.method = m) (hsize : g.locals.size = c.maxLocals) {argsL rest : List Value} (hlen : ∀ sig, parseMethodDescriptor y.desc = some sig → argsL.length = sig.parameters.length)
    (hstack : g.stack = argsL.reverse ++ .ref b :: rest) (hW : 2 * g.monitorRoom + (rest.map fun v => v.category).sum ≤ W9) (hdg : decode c.code g.pc = .ok (.invokevirtual index, 3))
    (hpre : ∀ vm₁, s.WarmedH vm₁ → Pre ⟨T.setVm vm₁, locs, cells, slots⟩ (Value.ref b :: argsL).toArray) :
    (∃ (v : Option Value) (vm₁ : Vm) (B : Pt), s.WarmedH vm₁ ∧ Stand p l e R s m args below meth c B.U B.locs B.cells B.slots ∧ Post ⟨T.setVm vm₁, locs, cells, slots⟩ (Value.ref b :: argsL).toArray v B ∧
      ∀ target, Steps p.tables e below (B.U.setTop { g with pc := g.pc + 3, stack := v.toList ++ rest }) target → Steps p.tables e below (T.setTop g) target) ∨
    (∃ (q : Addr) (vm₁ : Vm) (B : Pt), s.WarmedH vm₁ ∧ Stand p l e R s m args below meth c B.U B.locs B.cells B.slots ∧ PostX ⟨T.setVm vm₁, locs, cells, slots⟩ (Value.ref b :: argsL).toArray q B ∧
      Steps p.tables e below (T.setTop g) ((B.U.setTop { g with stack := rest }).pushFrame (.throwing q))) := by
  obtain ⟨mk, methM, hnamed, hmethM, hstM, habM⟩ := Cond.instanceMethod_spec hinst
  obtain ⟨m8, methM', cM, hn8, hmethM', -, -, -, -, -, -, hsigM⟩ := Cond.codeWith_spec hcode
  cases Option.some.inj (hn8.symm.trans hnamed)
  cases hmethM.symm.trans hmethM'
  obtain ⟨c2, r2, m2, q1, q2, q3, q4, kP, hkP, hkPi⟩ := Cond.selects_spec hsel
  cases hcls.symm.trans q1
  cases (State.methodFound?_of_named hnamed hy).symm.trans q2
  cases hnamed.symm.trans q3
  have hselP : selectMethod e.platform s.vm cellB.cls mk = .method mk := by rw [Launch.admits_selectMethod X.admits]; exact q4
  obtain ⟨vm₁, X₁, hstep₁⟩ := X.invokevirtual hexec hown hlink hnamed hmethM hstM hkP hkPi hy (a := b) (cell := cellB) hcell
    (fun z h => by rw [h] at hobj; cases hobj) hselP hmethM habM hkP hkPi (g := g) hg (argsL := argsL) (rest := rest) (hlen _ hsigM) hstack hdg
  rcases hK m meth c ⟨T.setVm vm₁, locs, cells, slots⟩ { g with stack := rest } (.invokevirtual index) mk (Value.ref b :: argsL).toArray X₁ hg hsize hdg hW (X₁.named hnamed) (hpre vm₁ X₁.warmed) with ⟨v, B, X', hpost, hsteps⟩ | ⟨q, B, X', hpost, hsteps⟩
  · exact Or.inl ⟨v, vm₁, B, X₁.warmed, X', hpost, fun target h => hstep₁ _ fun acts => by rw [doInvoke_state]; exact hsteps.trans h⟩
  · exact Or.inr ⟨q, vm₁, B, X₁.warmed, X', hpost, hstep₁ _ fun acts => by rw [doInvoke_state]; exact hsteps⟩
theorem vx_callSX (X : Stand p l e R s m args below meth c T locs cells slots) (hexec : p.tables.exec = Jvm.exec) {own : String} {index : Nat} {y : MethodName} {bytes : ByteArray} {maxL : Nat} {ret : Option FieldType} {hh : List (Nat × Nat × Nat × Nat)}
    (hown : s.vm.findClass own = some m.cls) (hlink : (Cond.methodLink own index y).before args s = true) (hstat : (Cond.static y).before args s = true) (hinit : (Cond.initialized y.cls).before args s = true)
    (hcode : (Cond.codeWith y bytes maxL ret hh).before args s = true) (hy : y.cls ≠ "java/lang/invoke/MethodHandle" ∧ y.cls ≠ "java/lang/invoke/VarHandle")
    {W9 : Nat} {Pre : Pt → Array Value → Prop} {Post : Pt → Array Value → Option Value → Pt → Prop} {PostX : Pt → Array Value → Addr → Pt → Prop} (hK : vx_Back l R p e below s args y 3 W9 Pre Post PostX)
    {g : JFrame} (hg : g.method = m) (hsize : g.locals.size = c.maxLocals) {argsL rest : List Value} (hlen : ∀ sig, parseMethodDescriptor y.desc = some sig → argsL.length = sig.parameters.length)
    (hstack : g.stack = argsL.reverse ++ rest) (hW : 2 * g.monitorRoom + (rest.map fun v => v.category).sum ≤ W9) (hdg : decode c.code g.pc = .ok (.invokestatic index, 3))
    (hpre : ∀ vm₁, s.WarmedH vm₁ → Pre ⟨T.setVm vm₁, locs, cells, slots⟩ argsL.toArray) :
    (∃ (v : Option Value) (vm₁ : Vm) (B : Pt), s.WarmedH vm₁ ∧ Stand p l e R s m args below meth c B.U B.locs B.cells B.slots ∧ Post ⟨T.setVm vm₁, locs, cells, slots⟩ argsL.toArray v B ∧
      ∀ target, Steps p.tables e below (B.U.setTop { g with pc := g.pc + 3, stack := v.toList ++ rest }) target → Steps p.tables e below (T.setTop g) target) ∨
    (∃ (q : Addr) (vm₁ : Vm) (B : Pt), s.WarmedH vm₁ ∧ Stand p l e R s m args below meth c B.U B.locs B.cells B.slots ∧ PostX ⟨T.setVm vm₁, locs, cells, slots⟩ argsL.toArray q B ∧
      Steps p.tables e below (T.setTop g) ((B.U.setTop { g with stack := rest }).pushFrame (.throwing q))) := by
  obtain ⟨mk, methM, cM, hnamed, hmethM, -, -, -, -, -, -, hsigM⟩ := Cond.codeWith_spec hcode
  have hstatic : methM.isStatic = true := Cond.static_spec hnamed hmethM hstat
  obtain ⟨kP, hkP, -⟩ := className_of_methodNamed hnamed
  have hinitP : kP.init = .initialized := Cond.initialized_spec (findClass_of_methodNamed hnamed) hkP hinit
  obtain ⟨vm₁, X₁, hstep₁⟩ := X.invokestatic hexec hown hlink hnamed hmethM hstatic hkP hinitP hy (g := g) hg (argsL := argsL) (rest := rest) (hlen _ hsigM) hstack hdg
  rcases hK m meth c ⟨T.setVm vm₁, locs, cells, slots⟩ { g with stack := rest } (.invokestatic index) mk argsL.toArray X₁ hg hsize hdg hW (X₁.named hnamed) (hpre vm₁ X₁.warmed) with ⟨v, B, X', hpost, hsteps⟩ | ⟨q, B, X', hpost, hsteps⟩
  · exact Or.inl ⟨v, vm₁, B, X₁.warmed, X', hpost, fun target h => hstep₁ _ fun acts => by rw [doInvoke_state]; exact hsteps.trans h⟩
  · exact Or.inr ⟨q, vm₁, B, X₁.warmed, X', hpost, hstep₁ _ fun acts => by rw [doInvoke_state]; exact hsteps⟩
theorem vx_callVW (X : Stand p l e R s m args below meth c T locs cells slots) (hexec : p.tables.exec = Jvm.exec) {own C : String} {index : Nat} {y : MethodName} {bytes : ByteArray} {maxL : Nat} {ret : Option FieldType} {hh : List (Nat × Nat × Nat × Nat)}
    (hown : s.vm.findClass own = some m.cls) (hlink : (Cond.methodLink own index y).before args s = true) (hinst : (Cond.instanceMethod y).before args s = true) (hsel : (Cond.selects C y y).before args s = true)
    (hcode : (Cond.codeWith y bytes maxL ret hh).before args s = true) (hy : y.cls ≠ "java/lang/invoke/MethodHandle" ∧ y.cls ≠ "java/lang/invoke/VarHandle")
    {W9 : Nat} {Pre : Pt → Array Value → Prop} {Post : Pt → Array Value → Option Value → Pt → Prop} (hK : Back l R p e below s args y 3 W9 Pre Post)
    {b : Addr} {cellB : Cell} (hcell : T.heap[b]? = some cellB) (hobj : cellB.vm.isStatics = false) (hcls : s.vm.findClass C = some cellB.cls)
    {g : JFrame} (hg : g.method = m) (hsize : g.locals.size = c.maxLocals) {argsL rest : List Value} (hlen : ∀ sig, parseMethodDescriptor y.desc = some sig → argsL.length = sig.parameters.length)
    (hstack : g.stack = argsL.reverse ++ .ref b :: rest) (hW : 2 * g.monitorRoom + (rest.map fun v => v.category).sum ≤ W9) (hdg : decode c.code g.pc = .ok (.invokevirtual index, 3))
    (hpre : ∀ vm₁, s.WarmedH vm₁ → Pre ⟨T.setVm vm₁, locs, cells, slots⟩ (Value.ref b :: argsL).toArray) :
    ∃ (v : Option Value) (vm₁ : Vm) (B : Pt), s.WarmedH vm₁ ∧ Stand p l e R s m args below meth c B.U B.locs B.cells B.slots ∧ Post ⟨T.setVm vm₁, locs, cells, slots⟩ (Value.ref b :: argsL).toArray v B ∧
      ∀ target, Steps p.tables e below (B.U.setTop { g with pc := g.pc + 3, stack := v.toList ++ rest }) target → Steps p.tables e below (T.setTop g) target := by
  obtain ⟨mk, methM, hnamed, hmethM, hstM, habM⟩ := Cond.instanceMethod_spec hinst
  obtain ⟨m8, methM', cM, hn8, hmethM', -, -, -, -, -, -, hsigM⟩ := Cond.codeWith_spec hcode
  cases Option.some.inj (hn8.symm.trans hnamed)
  cases hmethM.symm.trans hmethM'
  obtain ⟨c2, r2, m2, q1, q2, q3, q4, kP, hkP, hkPi⟩ := Cond.selects_spec hsel
  cases hcls.symm.trans q1
  cases (State.methodFound?_of_named hnamed hy).symm.trans q2
  cases hnamed.symm.trans q3
  have hselP : selectMethod e.platform s.vm cellB.cls mk = .method mk := by rw [Launch.admits_selectMethod X.admits]; exact q4
  obtain ⟨vm₁, X₁, hstep₁⟩ := X.invokevirtual hexec hown hlink hnamed hmethM hstM hkP hkPi hy (a := b) (cell := cellB) hcell
    (fun z h => by rw [h] at hobj; cases hobj) hselP hmethM habM hkP hkPi (g := g) hg (argsL := argsL) (rest := rest) (hlen _ hsigM) hstack hdg
  obtain ⟨v, B, X', hpost, hsteps⟩ := hK m meth c ⟨T.setVm vm₁, locs, cells, slots⟩ { g with stack := rest } (.invokevirtual index) mk (Value.ref b :: argsL).toArray X₁ hg hsize hdg hW (X₁.named hnamed) (hpre vm₁ X₁.warmed)
  exact ⟨v, vm₁, B, X₁.warmed, X', hpost, fun target h => hstep₁ _ fun acts => by rw [doInvoke_state]; exact hsteps.trans h⟩
abbrev vx_CVW (R : Room) (s : State) (args : Array Value) (own C : String) (index : Nat) (y : MethodName) (bytes : ByteArray) (maxL : Nat) (ret : Option FieldType) (hh : List (Nat × Nat × Nat × Nat)) (ws : List Cond) (rm : Room) (mc ms n : Nat) : Prop :=
  (rm.cells = mc ∧ rm.slots = ms ∧ rm.frames + 1 ≤ R.frames ∧ 8 + (maxL + 11) + rm.locals ≤ R.locals ∧ (∀ w ∈ ws, ∀ (a' : Array Value) (U : State), s.WarmedH U.vm → w.before a' U = true) ∧ Cond.codeWith y bytes maxL ret hh ∈ ws) ∧
  (Cond.codeWith y bytes maxL ret hh).before args s = true ∧ (Cond.initialized y.cls).before args s = true ∧ (y.cls ≠ "java/lang/invoke/MethodHandle" ∧ y.cls ≠ "java/lang/invoke/VarHandle") ∧
  (∀ sig, parseMethodDescriptor y.desc = some sig → n = sig.parameters.length) ∧ (Cond.methodLink own index y).before args s = true ∧ (Cond.instanceMethod y).before args s = true ∧ (Cond.selects C y y).before args s = true
theorem vx_cwVW {own C : String} {index maxL mc ms : Nat} {y : MethodName} {bytes : ByteArray} {ret : Option FieldType} {hh : List (Nat × Nat × Nat × Nat)} {Ts ws ws' : List Cond} {rm : Room} (n : Nat) (ht : ∀ w ∈ Ts, w.before args s = true) (hT : GoodIn Ts (wsV own index C y ws)) (hw : ws = Cond.codeWith y bytes maxL ret hh :: ws') (hrc : rm.cells = mc) (hrs : rm.slots = ms)
    (hd : y.cls = C ∧ y.cls ≠ "java/lang/invoke/MethodHandle" ∧ y.cls ≠ "java/lang/invoke/VarHandle" ∧ (parseMethodDescriptor y.desc).map (fun d => d.parameters.length) = some n) (hR : rm.frames + 1 ≤ R.frames ∧ 8 + (maxL + 11) + rm.locals ≤ R.locals) :
    vx_CVW R s args own C index y bytes maxL ret hh ws rm mc ms n := by
  obtain ⟨hC, hd⟩ := hd
  subst hC
  have ok : ∀ w ∈ wsV own index y.cls y ws, w.before args s = true := fun w h => ht w (hT w h).1
  have hG : GoodIn Ts ws := fun w h => hT w (by unfold wsV; exact List.mem_append_right _ h)
  have hc : Cond.codeWith y bytes maxL ret hh ∈ ws := by rw [hw]; exact List.mem_cons_self
  refine ⟨⟨hrc, hrs, hR.1, hR.2, pay_in ht hG, hc⟩, ht _ (hG _ hc).1, ok _ (by simp [wsV]), ⟨hd.1, hd.2.1⟩, fun sig h => ?_, ok _ (by simp [wsV]), ok _ (by simp [wsV]), ok _ (by simp [wsV])⟩
  have h2 := hd.2.2
  rw [h] at h2
  exact (Option.some.inj h2).symm
theorem vx_runVW {y : MethodName} {bytes cc : ByteArray} {maxL nL mc ms n index : Nat} {ret : Option FieldType} {hh : List (Nat × Nat × Nat × Nat)} {ws : List Cond} {rm : Room} {Pc : Array Value → State → Prop} {Qc : Array Value → State → Outcome → State → Prop} {free : Addr → Prop} {Ts : List Cond} {own C : String} {b : Addr} {As rest : List Value} {g : JFrame}
    (S : CallFix p m c cc nL s args Ts own) (hM : Met l y ws rm Pc Qc mc ms free) (cw : vx_CVW R s args own C index y bytes maxL ret hh ws rm mc ms n) (hp : PreV s H C b Pc As)
    (hg : g.method = m) (hn : As.length = n) (hsize : g.locals.size = nL) (hstack : g.stack = As.reverse ++ .ref b :: rest) (hW : 2 * g.monitorRoom + (rest.map fun v => v.category).sum ≤ 8) (hdg : decode cc g.pc = .ok (.invokevirtual index, 3)) (hf : cells + mc ≤ R.cells ∧ slots + ms ≤ R.slots) :
    va_Run p l e R s m args below meth c H locs cells slots mc ms g rest (Qc (Value.ref b :: As).toArray) free := by
  obtain ⟨⟨hrc, hrs, hfr, hlo, hws, hcw⟩, hcode, hini, hy, hlen, hl, hin, hse⟩ := cw
  have hK : Back l R p e below s args y 3 8 (PreOf R mc ms Pc) (PostOf Qc mc ms free) := va_backW (hh := hh) (bytes := bytes) (maxL := maxL) (ret := ret) hM hp.1 hrc hrs hfr hlo hws hcw (fun a' U hW => word_at hW (Or.inl (by first | rfl | simp [Cond.onTables, Cond.keeps, Cond.steady])) hini)
  obtain ⟨hx, hb, hml, ho, -⟩ := S
  obtain ⟨-, ⟨cellB, hcB, hoB, hclB⟩, hPc⟩ := hp
  intro T hT X
  obtain ⟨v, vm₁, ⟨U', l2, c2, s2⟩, hW₁, X', ⟨g', mk, t, L, e1, e2, hq, h1, hL, h2, h3⟩, st⟩ := vx_callVW X hx (C := C) (hh := hh) (bytes := bytes) (maxL := maxL) (ret := ret) ho hl hin hse hcode hy hK (by rw [hT]; exact hcB) hoB hclB hg (hsize.trans hml.symm) (argsL := As) (rest := rest) (fun sig h => hn.trans (hlen sig h)) hstack hW (by rw [hb]; exact hdg)
    (fun vm₁ hW₁ => ⟨hf.1, hf.2, hPc (T.setVm vm₁) hT hW₁⟩)
  dsimp only [Pt.U, Pt.locs, Pt.cells, Pt.slots] at X' e1 e2 h1 h2 h3 st
  subst h1; subst h2; subst h3
  exact ⟨v, (T.setVm vm₁).calling g' mk (Value.ref b :: As).toArray, t, U', L, hT, X', hL, e1, e2, hq, st⟩
section
variable {y : MethodName} {bytes cc : ByteArray} {maxL nL mc ms n index : Nat} {ret : Option FieldType} {ws : List Cond} {rm : Room} {Pc : Array Value → State → Prop} {Qc : Array Value → State → Outcome → State → Prop} {XC : String → State → State → Prop} {free : Addr → Prop} {Ts : List Cond} {own C : String} {b : Addr} {As rest : List Value} {g : JFrame}
theorem vx_runVX {hh : List (Nat × Nat × Nat × Nat)} (S : CallFix p m c cc nL s args Ts own) (hM : vx_Met l y ws rm Pc Qc XC mc ms free) (cw : vx_CVW R s args own C index y bytes maxL ret hh ws rm mc ms n) (hp : PreV s H C b Pc As)
    (hg : g.method = m) (hn : As.length = n) (hsize : g.locals.size = nL) (hstack : g.stack = As.reverse ++ .ref b :: rest) (hW : 2 * g.monitorRoom + (rest.map fun v => v.category).sum ≤ 8) (hdg : decode cc g.pc = .ok (.invokevirtual index, 3)) (hf : cells + mc ≤ R.cells ∧ slots + ms ≤ R.slots) :
    vx_Run p l e R s m args below meth c H locs cells slots mc ms g rest (Qc (Value.ref b :: As).toArray) XC free := by
  obtain ⟨⟨hrc, hrs, hfr, hlo, hws, hcw⟩, hcode, hini, hy, hlen, hl, hin, hse⟩ := cw
  have hK : vx_Back l R p e below s args y 3 8 (PreOf R mc ms Pc) (PostOf Qc mc ms free) (vx_Post XC mc ms free) := vx_backW (hh := hh) (bytes := bytes) (maxL := maxL) (ret := ret) hM hp.1 hrc hrs hfr hlo hws hcw (fun a' U hW => word_at hW (Or.inl (by first | rfl | simp [Cond.onTables, Cond.keeps, Cond.steady])) hini)
  obtain ⟨hx, hb, hml, ho, -⟩ := S
  obtain ⟨-, ⟨cellB, hcB, hoB, hclB⟩, hPc⟩ := hp
  intro T hT X
  rcases vx_callVX X hx (C := C) (hh := hh) (bytes := bytes) (maxL := maxL) (ret := ret) ho hl hin hse hcode hy hK (by rw [hT]; exact hcB) hoB hclB hg (hsize.trans hml.symm) (argsL := As) (rest := rest) (fun sig h => hn.trans (hlen sig h)) hstack hW (by rw [hb]; exact hdg)
    (fun vm₁ hW₁ => ⟨hf.1, hf.2, hPc (T.setVm vm₁) hT hW₁⟩) with ⟨v, vm₁, ⟨U', l2, c2, s2⟩, hW₁, X', ⟨g', mk, t, L, e1, e2, hq, h1, hL, h2, h3⟩, st⟩ | ⟨q, vm₁, ⟨U', l2, c2, s2⟩, hW₁, X', ⟨g', mk, t, L, E, ce, e1, e2, hq, hce, hcv, hcl, h1, hL, h2, h3⟩, st⟩
  · dsimp only [Pt.U, Pt.locs, Pt.cells, Pt.slots] at X' e1 e2 h1 h2 h3 st
    subst h1; subst h2; subst h3
    exact Or.inl ⟨v, (T.setVm vm₁).calling g' mk (Value.ref b :: As).toArray, t, U', L, hT, X', hL, e1, e2, hq, st⟩
  · dsimp only [Pt.U, Pt.locs, Pt.cells, Pt.slots] at X' e1 e2 h1 h2 h3 st hcl
    subst h1; subst h2; subst h3
    exact Or.inr ⟨q, (T.setVm vm₁).calling g' mk (Value.ref b :: As).toArray, t, U', L, E, ce, hT, X', hL, e1, e2, hq, hce, hcv, vx_cls hW₁ hcl, st⟩
theorem vx_runSX {hh : List (Nat × Nat × Nat × Nat)} (S : CallFix p m c cc nL s args Ts own) (hM : vx_Met l y ws rm Pc Qc XC mc ms free) (cw : vx_CSW R s args own index y bytes maxL ret hh ws rm mc ms n) (hp : PreS s H Pc As)
    (hg : g.method = m) (hn : As.length = n) (hsize : g.locals.size = nL) (hstack : g.stack = As.reverse ++ rest) (hW : 2 * g.monitorRoom + (rest.map fun v => v.category).sum ≤ 8) (hdg : decode cc g.pc = .ok (.invokestatic index, 3)) (hf : cells + mc ≤ R.cells ∧ slots + ms ≤ R.slots) :
    vx_Run p l e R s m args below meth c H locs cells slots mc ms g rest (Qc As.toArray) XC free := by
  obtain ⟨⟨hrc, hrs, hfr, hlo, hws, hcw⟩, hcode, hini, hy, hlen, hl, hstt⟩ := cw
  have hK : vx_Back l R p e below s args y 3 8 (PreOf R mc ms Pc) (PostOf Qc mc ms free) (vx_Post XC mc ms free) := vx_backW (hh := hh) (bytes := bytes) (maxL := maxL) (ret := ret) hM hp.1 hrc hrs hfr hlo hws hcw (fun a' U hW => word_at hW (Or.inl (by first | rfl | simp [Cond.onTables, Cond.keeps, Cond.steady])) hini)
  obtain ⟨hx, hb, hml, ho, -⟩ := S
  intro T hT X
  rcases vx_callSX X hx (hh := hh) (bytes := bytes) (maxL := maxL) (ret := ret) ho hl hstt hini hcode hy hK hg (hsize.trans hml.symm) (argsL := As) (rest := rest) (fun sig h => hn.trans (hlen sig h)) hstack hW (by rw [hb]; exact hdg)
    (fun vm₁ hW₁ => ⟨hf.1, hf.2, hp.2 (T.setVm vm₁) hT hW₁⟩) with ⟨v, vm₁, ⟨U', l2, c2, s2⟩, hW₁, X', ⟨g', mk, t, L, e1, e2, hq, h1, hL, h2, h3⟩, st⟩ | ⟨q, vm₁, ⟨U', l2, c2, s2⟩, hW₁, X', ⟨g', mk, t, L, E, ce, e1, e2, hq, hce, hcv, hcl, h1, hL, h2, h3⟩, st⟩
  · dsimp only [Pt.U, Pt.locs, Pt.cells, Pt.slots] at X' e1 e2 h1 h2 h3 st
    subst h1; subst h2; subst h3
    exact Or.inl ⟨v, (T.setVm vm₁).calling g' mk As.toArray, t, U', L, hT, X', hL, e1, e2, hq, st⟩
  · dsimp only [Pt.U, Pt.locs, Pt.cells, Pt.slots] at X' e1 e2 h1 h2 h3 st hcl
    subst h1; subst h2; subst h3
    exact Or.inr ⟨q, (T.setVm vm₁).calling g' mk As.toArray, t, U', L, E, ce, hT, X', hL, e1, e2, hq, hce, hcv, vx_cls hW₁ hcl, st⟩
end
end VXH
theorem vx_ofWH {l : Launch} {y : MethodName} {ws ws' : List Cond} {rm : Room} {Pc : Array Value → State → Prop} {Qc : Array Value → State → Outcome → State → Prop} {XC : String → State → State → Prop} {mc ms : Nat} {free : Addr → Prop} {cc : ByteArray} {maxL : Nat} {ret : Option FieldType} {hh : List (Nat × Nat × Nat × Nat)}
    (hy : plainName y.cls = true) (hw : ws = Cond.codeWith y cc maxL ret hh :: ws')
    (body : ∀ p e s m args below meth c s₁, BodyLoose p l y (headSpec ws rm) cc maxL ret e s m args below meth c s₁ → c.maxLocals = maxL → Pc args s →
      W p l e (headSpec ws rm).room s m args below meth c s.heap [] 0 0 (vx_MQ below Qc XC args s mc ms free) (entryFrame m args maxL)) : vx_Met l y ws rm Pc Qc XC mc ms free := by
  refine MetFree.of_bodyS (code := cc) (maxLocals := maxL) (ret := ret) hy ?_ ?_
  · intro args s m h hn
    obtain ⟨m9, meth, c, hn9, h1, h2, h3, h4, -, h5, h6, -⟩ := Cond.codeWith_spec (atoms_spec (ws := ws) h _ (by rw [hw]; exact List.mem_cons_self))
    cases hn.symm.trans hn9
    exact ⟨meth, c, h1, h2, h3, h4, h5, h6⟩
  · intro p e s m args below meth c s₁ B hml hP _
    have hh0 : s₁.heap = s.heap := by rw [B.state]; rfl
    obtain ⟨t, a1, o, b1, b2, b3⟩ := body p e s m args below meth c s₁ B hml hP s₁ hh0 (Stand.of_body B)
    exact ⟨t, o, a1, b1, b2, b3⟩
/-! ===== END ===== -/
end
section
/-! ===== BEGIN printed: names, fields, word lists, decode rows ===== -/
def RX0 : String := "JoinedLists$Held"
def TX0 : u_T := fun k => match k with
  | _ => ("", "", "", false)
def tyX0 : Nat → FieldType := fun k => match k with
  | _ => .int
abbrev wsX00 : List Cond := u_ws RX0 TX0 0
theorem nmX0 : ∀ a, a < 0 → ∀ b, b < 0 → a ≠ b → (TX0 a).2.1 ≠ (TX0 b).2.1 := by decide +kernel
theorem tyX0_ok : ∀ k, k < 0 → parseFieldDescriptor (TX0 k).2.2.1 = some (tyX0 k) := by decide +kernel
abbrev cX0_valueOf : ByteArray := prog_2_method_2_code
def yX0_valueOf : MethodName := ⟨RX0, "valueOf", "(II)I"⟩
abbrev cX0_with : ByteArray := prog_2_method_3_code
def yX0_with : MethodName := ⟨RX0, "with", "(III)I"⟩
abbrev cX0_maskOf : ByteArray := prog_2_method_4_code
def yX0_maskOf : MethodName := ⟨RX0, "maskOf", "(I)I"⟩
abbrev cX0_decimal : ByteArray := prog_2_method_5_code
def yX0_decimal : MethodName := ⟨RX0, "decimal", "(I)I"⟩
def RX1 : String := "JoinedLists$Listing"
def TX1 : u_T := fun k => match k with
  | 0 => ("JoinedLists$Listing", "program", "LJoinedLists$Program;", true)
  | 1 => ("JoinedLists$Listing", "helds", "[[I", true)
  | 2 => ("JoinedLists$Listing", "masses", "[[J", true)
  | 3 => ("JoinedLists$Listing", "firsts", "[I", true)
  | 4 => ("JoinedLists$Listing", "ends", "[I", true)
  | 5 => ("JoinedLists$Listing", "comes", "[I", true)
  | 6 => ("JoinedLists$Listing", "joins", "[I", true)
  | 7 => ("JoinedLists$Listing", "liveMasks", "[I", true)
  | 8 => ("JoinedLists$Listing", "open", "Z", false)
  | 9 => ("JoinedLists$Listing", "lost", "J", false)
  | _ => ("JoinedLists$Listing", "workDone", "I", false)
def tyX1 : Nat → FieldType := fun k => match k with
  | 0 => .object "JoinedLists$Program"
  | 1 => .array (.array .int)
  | 2 => .array (.array .long)
  | 3 => .array .int
  | 4 => .array .int
  | 5 => .array .int
  | 6 => .array .int
  | 7 => .array .int
  | 8 => .boolean
  | 9 => .long
  | _ => .int
abbrev wsX10 : List Cond := u_ws RX1 TX1 11
theorem nmX1 : ∀ a, a < 11 → ∀ b, b < 11 → a ≠ b → (TX1 a).2.1 ≠ (TX1 b).2.1 := by decide +kernel
theorem tyX1_ok : ∀ k, k < 11 → parseFieldDescriptor (TX1 k).2.2.1 = some (tyX1 k) := by decide +kernel
abbrev cX1_init : ByteArray := prog_3_method_1_code
def yX1_init : MethodName := ⟨RX1, "<init>", "(LJoinedLists$Program;)V"⟩
abbrev cX1_end : ByteArray := prog_3_method_2_code
def yX1_end : MethodName := ⟨RX1, "end", "()V"⟩
abbrev cX1_start : ByteArray := prog_3_method_3_code
def yX1_start : MethodName := ⟨RX1, "start", "()V"⟩
abbrev cX1_size : ByteArray := prog_3_method_4_code
def yX1_size : MethodName := ⟨RX1, "size", "(I)I"⟩
abbrev cX1_has : ByteArray := prog_3_method_5_code
def yX1_has : MethodName := ⟨RX1, "has", "(II)Z"⟩
abbrev cX1_heldAt : ByteArray := prog_3_method_6_code
def yX1_heldAt : MethodName := ⟨RX1, "heldAt", "(II)I"⟩
abbrev cX1_massAt : ByteArray := prog_3_method_7_code
def yX1_massAt : MethodName := ⟨RX1, "massAt", "(II)J"⟩
abbrev cX1_total : ByteArray := prog_3_method_8_code
def yX1_total : MethodName := ⟨RX1, "total", "(III)J"⟩
abbrev cX1_totalBeforeEnd : ByteArray := prog_3_method_9_code
def yX1_totalBeforeEnd : MethodName := ⟨RX1, "totalBeforeEnd", "(II)J"⟩
abbrev cX1_leastPlace : ByteArray := prog_3_method_10_code
def yX1_leastPlace : MethodName := ⟨RX1, "leastPlace", "()I"⟩
abbrev cX1_spend : ByteArray := prog_3_method_11_code
def yX1_spend : MethodName := ⟨RX1, "spend", "(I)I"⟩
abbrev cX1_hasRoomBehind : ByteArray := prog_3_method_12_code
def yX1_hasRoomBehind : MethodName := ⟨RX1, "hasRoomBehind", "(I)Z"⟩
abbrev cX1_newBehind : ByteArray := prog_3_method_13_code
def yX1_newBehind : MethodName := ⟨RX1, "newBehind", "(II)I"⟩
abbrev cX1_moveLeast : ByteArray := prog_3_method_14_code
def yX1_moveLeast : MethodName := ⟨RX1, "moveLeast", "(I)V"⟩
abbrev cX1_come : ByteArray := prog_3_method_15_code
def yX1_come : MethodName := ⟨RX1, "come", "(IIJ)V"⟩
abbrev cX1_insert : ByteArray := prog_3_method_16_code
def yX1_insert : MethodName := ⟨RX1, "insert", "(IIIJ)V"⟩
abbrev cX1_isThere : ByteArray := prog_3_method_17_code
def yX1_isThere : MethodName := ⟨RX1, "isThere", "(III)Z"⟩
abbrev cX1_seat : ByteArray := prog_3_method_18_code
def yX1_seat : MethodName := ⟨RX1, "seat", "(II)I"⟩
def RX2 : String := "JoinedLists$Program"
def TX2 : u_T := fun k => match k with
  | 0 => ("JoinedLists$Program", "kinds", "[I", true)
  | 1 => ("JoinedLists$Program", "targets", "[I", true)
  | 2 => ("JoinedLists$Program", "choices", "[I", true)
  | 3 => ("JoinedLists$Program", "lefts", "[I", true)
  | 4 => ("JoinedLists$Program", "rights", "[I", true)
  | 5 => ("JoinedLists$Program", "weights", "[[I", true)
  | 6 => ("JoinedLists$Program", "liveSets", "[I", true)
  | 7 => ("JoinedLists$Program", "asked", "I", false)
  | 8 => ("JoinedLists$Program", "stepCount", "I", false)
  | 9 => ("JoinedLists$Program", "drawCount", "I", false)
  | _ => ("JoinedLists$Program", "weighCount", "I", false)
def tyX2 : Nat → FieldType := fun k => match k with
  | 0 => .array .int
  | 1 => .array .int
  | 2 => .array .int
  | 3 => .array .int
  | 4 => .array .int
  | 5 => .array (.array .int)
  | 6 => .array .int
  | 7 => .int
  | 8 => .int
  | 9 => .int
  | _ => .int
abbrev wsX20 : List Cond := u_ws RX2 TX2 11
theorem nmX2 : ∀ a, a < 11 → ∀ b, b < 11 → a ≠ b → (TX2 a).2.1 ≠ (TX2 b).2.1 := by decide +kernel
theorem tyX2_ok : ∀ k, k < 11 → parseFieldDescriptor (TX2 k).2.2.1 = some (tyX2 k) := by decide +kernel
abbrev cX2_init : ByteArray := prog_4_method_1_code
def yX2_init : MethodName := ⟨RX2, "<init>", "()V"⟩
abbrev cX2_reset : ByteArray := prog_4_method_2_code
def yX2_reset : MethodName := ⟨RX2, "reset", "()V"⟩
abbrev cX2_swapWeight : ByteArray := prog_4_method_3_code
def yX2_swapWeight : MethodName := ⟨RX2, "swapWeight", "(III)I"⟩
abbrev cX2_isAsked : ByteArray := prog_4_method_4_code
def yX2_isAsked : MethodName := ⟨RX2, "isAsked", "(I)Z"⟩
abbrev cX2_swapAsked : ByteArray := prog_4_method_5_code
def yX2_swapAsked : MethodName := ⟨RX2, "swapAsked", "(IZ)Z"⟩
abbrev cX2_isFullFor : ByteArray := prog_4_method_6_code
def yX2_isFullFor : MethodName := ⟨RX2, "isFullFor", "(I)Z"⟩
abbrev cX2_append : ByteArray := prog_4_method_7_code
def yX2_append : MethodName := ⟨RX2, "append", "(IIIII)I"⟩
abbrev cX2_removeLast : ByteArray := prog_4_method_8_code
def yX2_removeLast : MethodName := ⟨RX2, "removeLast", "()I"⟩
abbrev cX2_countKind : ByteArray := prog_4_method_9_code
def yX2_countKind : MethodName := ⟨RX2, "countKind", "(II)V"⟩
abbrev cX2_isStep : ByteArray := prog_4_method_10_code
def yX2_isStep : MethodName := ⟨RX2, "isStep", "(I)Z"⟩
abbrev cX2_isDraw : ByteArray := prog_4_method_11_code
def yX2_isDraw : MethodName := ⟨RX2, "isDraw", "(I)Z"⟩
abbrev cX2_isUneven : ByteArray := prog_4_method_12_code
def yX2_isUneven : MethodName := ⟨RX2, "isUneven", "()Z"⟩
abbrev cX2_rowTotal : ByteArray := prog_4_method_13_code
def yX2_rowTotal : MethodName := ⟨RX2, "rowTotal", "(I)I"⟩
abbrev cX2_weightOf : ByteArray := prog_4_method_14_code
def yX2_weightOf : MethodName := ⟨RX2, "weightOf", "(II)I"⟩
abbrev cX2_markLive : ByteArray := prog_4_method_15_code
def yX2_markLive : MethodName := ⟨RX2, "markLive", "()V"⟩
abbrev cX2_liveAt : ByteArray := prog_4_method_16_code
def yX2_liveAt : MethodName := ⟨RX2, "liveAt", "(I)I"⟩
abbrev cX2_liveAtStep : ByteArray := prog_4_method_17_code
def yX2_liveAtStep : MethodName := ⟨RX2, "liveAtStep", "(I)I"⟩
abbrev cX2_variableOf : ByteArray := prog_4_method_18_code
def yX2_variableOf : MethodName := ⟨RX2, "variableOf", "(I)I"⟩
abbrev cX2_termValue : ByteArray := prog_4_method_19_code
def yX2_termValue : MethodName := ⟨RX2, "termValue", "(II)I"⟩
abbrev cX2_placeSkippedTo : ByteArray := prog_4_method_20_code
def yX2_placeSkippedTo : MethodName := ⟨RX2, "placeSkippedTo", "(I)I"⟩
abbrev cX2_ways : ByteArray := prog_4_method_21_code
def yX2_ways : MethodName := ⟨RX2, "ways", "(I)I"⟩
abbrev cX2_placeBehind : ByteArray := prog_4_method_22_code
def yX2_placeBehind : MethodName := ⟨RX2, "placeBehind", "(II)I"⟩
abbrev cX2_massBehind : ByteArray := prog_4_method_23_code
def yX2_massBehind : MethodName := ⟨RX2, "massBehind", "(IIIJ)J"⟩
abbrev cX2_heldBehind : ByteArray := prog_4_method_24_code
def yX2_heldBehind : MethodName := ⟨RX2, "heldBehind", "(III)I"⟩
abbrev cX2_isSeen : ByteArray := prog_4_method_25_code
def yX2_isSeen : MethodName := ⟨RX2, "isSeen", "(III)Z"⟩
abbrev cX2_combined : ByteArray := prog_4_method_26_code
def yX2_combined : MethodName := ⟨RX2, "combined", "(IIII)I"⟩
def RX3 : String := "JoinedLists$Survey"
def TX3 : u_T := fun k => match k with
  | 0 => ("JoinedLists$Survey", "program", "LJoinedLists$Program;", true)
  | 1 => ("JoinedLists$Survey", "massByValue", "[[J", true)
  | 2 => ("JoinedLists$Survey", "massAtEnd", "J", false)
  | 3 => ("JoinedLists$Survey", "runCount", "I", false)
  | _ => ("JoinedLists$Survey", "kept", "Z", false)
def tyX3 : Nat → FieldType := fun k => match k with
  | 0 => .object "JoinedLists$Program"
  | 1 => .array (.array .long)
  | 2 => .long
  | 3 => .int
  | _ => .boolean
abbrev wsX30 : List Cond := u_ws RX3 TX3 5
theorem nmX3 : ∀ a, a < 5 → ∀ b, b < 5 → a ≠ b → (TX3 a).2.1 ≠ (TX3 b).2.1 := by decide +kernel
theorem tyX3_ok : ∀ k, k < 5 → parseFieldDescriptor (TX3 k).2.2.1 = some (tyX3 k) := by decide +kernel
abbrev cX3_init : ByteArray := prog_5_method_1_code
def yX3_init : MethodName := ⟨RX3, "<init>", "(LJoinedLists$Program;)V"⟩
abbrev cX3_forget : ByteArray := prog_5_method_2_code
def yX3_forget : MethodName := ⟨RX3, "forget", "()V"⟩
abbrev cX3_tally : ByteArray := prog_5_method_3_code
def yX3_tally : MethodName := ⟨RX3, "tally", "()I"⟩
abbrev cX3_empty : ByteArray := prog_5_method_4_code
def yX3_empty : MethodName := ⟨RX3, "empty", "()V"⟩
abbrev cX3_follow : ByteArray := prog_5_method_5_code
def yX3_follow : MethodName := ⟨RX3, "follow", "(IIJI)V"⟩
abbrev cX3_branch : ByteArray := prog_5_method_6_code
def yX3_branch : MethodName := ⟨RX3, "branch", "(IIJI)V"⟩
abbrev cX3_addAtEnd : ByteArray := prog_5_method_7_code
def yX3_addAtEnd : MethodName := ⟨RX3, "addAtEnd", "(IJ)V"⟩
def RX4 : String := "JoinedLists"
def TX4 : u_T := fun k => match k with
  | 0 => ("JoinedLists", "program", "LJoinedLists$Program;", true)
  | 1 => ("JoinedLists", "listing", "LJoinedLists$Listing;", true)
  | _ => ("JoinedLists", "survey", "LJoinedLists$Survey;", true)
def tyX4 : Nat → FieldType := fun k => match k with
  | 0 => .object "JoinedLists$Program"
  | 1 => .object "JoinedLists$Listing"
  | _ => .object "JoinedLists$Survey"
abbrev wsX40 : List Cond := u_ws RX4 TX4 3
theorem nmX4 : ∀ a, a < 3 → ∀ b, b < 3 → a ≠ b → (TX4 a).2.1 ≠ (TX4 b).2.1 := by decide +kernel
theorem tyX4_ok : ∀ k, k < 3 → parseFieldDescriptor (TX4 k).2.2.1 = some (tyX4 k) := by decide +kernel
abbrev cX4_init : ByteArray := prog_1_method_1_code
def yX4_init : MethodName := ⟨RX4, "<init>", "()V"⟩
abbrev cX4_weight : ByteArray := prog_1_method_2_code
def yX4_weight : MethodName := ⟨RX4, "weight", "(III)I"⟩
abbrev cX4_draw : ByteArray := prog_1_method_3_code
def yX4_draw : MethodName := ⟨RX4, "draw", "(II)I"⟩
abbrev cX4_set : ByteArray := prog_1_method_4_code
def yX4_set : MethodName := ⟨RX4, "set", "(IIII)I"⟩
abbrev cX4_observe : ByteArray := prog_1_method_5_code
def yX4_observe : MethodName := ⟨RX4, "observe", "(III)I"⟩
abbrev cX4_weigh : ByteArray := prog_1_method_6_code
def yX4_weigh : MethodName := ⟨RX4, "weigh", "(I)I"⟩
abbrev cX4_skip : ByteArray := prog_1_method_7_code
def yX4_skip : MethodName := ⟨RX4, "skip", "(II)I"⟩
abbrev cX4_drop : ByteArray := prog_1_method_8_code
def yX4_drop : MethodName := ⟨RX4, "drop", "()I"⟩
abbrev cX4_ask : ByteArray := prog_1_method_9_code
def yX4_ask : MethodName := ⟨RX4, "ask", "(IZ)I"⟩
abbrev cX4_live : ByteArray := prog_1_method_10_code
def yX4_live : MethodName := ⟨RX4, "live", "(I)I"⟩
abbrev cX4_begin : ByteArray := prog_1_method_11_code
def yX4_begin : MethodName := ⟨RX4, "begin", "()I"⟩
abbrev cX4_list : ByteArray := prog_1_method_12_code
def yX4_list : MethodName := ⟨RX4, "list", "(I)I"⟩
abbrev cX4_done : ByteArray := prog_1_method_13_code
def yX4_done : MethodName := ⟨RX4, "done", "()I"⟩
abbrev cX4_states : ByteArray := prog_1_method_14_code
def yX4_states : MethodName := ⟨RX4, "states", "(II)I"⟩
abbrev cX4_code : ByteArray := prog_1_method_15_code
def yX4_code : MethodName := ⟨RX4, "code", "(II)I"⟩
abbrev cX4_mass : ByteArray := prog_1_method_16_code
def yX4_mass : MethodName := ⟨RX4, "mass", "(II)J"⟩
abbrev cX4_sum : ByteArray := prog_1_method_17_code
def yX4_sum : MethodName := ⟨RX4, "sum", "(III)J"⟩
abbrev cX4_odds : ByteArray := prog_1_method_18_code
def yX4_odds : MethodName := ⟨RX4, "odds", "(III)J"⟩
abbrev cX4_runs : ByteArray := prog_1_method_19_code
def yX4_runs : MethodName := ⟨RX4, "runs", "()I"⟩
abbrev cX4_plain : ByteArray := prog_1_method_20_code
def yX4_plain : MethodName := ⟨RX4, "plain", "(II)J"⟩
abbrev cX4_count : ByteArray := prog_1_method_21_code
def yX4_count : MethodName := ⟨RX4, "count", "(I)I"⟩
abbrev cX4_clear : ByteArray := prog_1_method_22_code
def yX4_clear : MethodName := ⟨RX4, "clear", "()I"⟩
abbrev cX4_addStep : ByteArray := prog_1_method_23_code
def yX4_addStep : MethodName := ⟨RX4, "addStep", "(IIIII)I"⟩
abbrev cX4_programChanged : ByteArray := prog_1_method_24_code
def yX4_programChanged : MethodName := ⟨RX4, "programChanged", "()V"⟩
abbrev cX4_isPlace : ByteArray := prog_1_method_25_code
def yX4_isPlace : MethodName := ⟨RX4, "isPlace", "(I)Z"⟩
abbrev cX4_isVariable : ByteArray := prog_1_method_26_code
def yX4_isVariable : MethodName := ⟨RX4, "isVariable", "(I)Z"⟩
abbrev cX4_isValue : ByteArray := prog_1_method_27_code
def yX4_isValue : MethodName := ⟨RX4, "isValue", "(I)Z"⟩
abbrev cX4_isRow : ByteArray := prog_1_method_28_code
def yX4_isRow : MethodName := ⟨RX4, "isRow", "(I)Z"⟩
abbrev cX4_isTerm : ByteArray := prog_1_method_29_code
def yX4_isTerm : MethodName := ⟨RX4, "isTerm", "(I)Z"⟩
abbrev cX4_isChoice : ByteArray := prog_1_method_30_code
def yX4_isChoice : MethodName := ⟨RX4, "isChoice", "(II)Z"⟩
abbrev cX4_commonDivisor : ByteArray := prog_1_method_31_code
def yX4_commonDivisor : MethodName := ⟨RX4, "commonDivisor", "(JJ)J"⟩
def RX5 : String := "JoinedListsModel"
def TX5 : u_T := fun k => match k with
  | 0 => ("JoinedListsModel", "thrown", "I", false)
  | 1 => ("JoinedListsModel", "steps", "I", false)
  | 2 => ("JoinedListsModel", "draws", "I", false)
  | 3 => ("JoinedListsModel", "weighs", "I", false)
  | 4 => ("JoinedListsModel", "kind", "[I", true)
  | 5 => ("JoinedListsModel", "gives", "[I", true)
  | 6 => ("JoinedListsModel", "extra", "[I", true)
  | 7 => ("JoinedListsModel", "one", "[I", true)
  | 8 => ("JoinedListsModel", "two", "[I", true)
  | 9 => ("JoinedListsModel", "weight", "[I", true)
  | 10 => ("JoinedListsModel", "asked", "[Z", true)
  | 11 => ("JoinedListsModel", "isListing", "Z", false)
  | 12 => ("JoinedListsModel", "worked", "I", false)
  | 13 => ("JoinedListsModel", "lost", "J", false)
  | 14 => ("JoinedListsModel", "many", "[I", true)
  | 15 => ("JoinedListsModel", "comes", "[I", true)
  | 16 => ("JoinedListsModel", "joined", "[I", true)
  | 17 => ("JoinedListsModel", "codes", "[I", true)
  | 18 => ("JoinedListsModel", "masses", "[J", true)
  | 19 => ("JoinedListsModel", "lives", "[I", true)
  | 20 => ("JoinedListsModel", "made", "I", false)
  | 21 => ("JoinedListsModel", "madePlace", "I", false)
  | 22 => ("JoinedListsModel", "madeLost", "J", false)
  | 23 => ("JoinedListsModel", "madeCode", "[I", true)
  | 24 => ("JoinedListsModel", "madeMass", "[J", true)
  | 25 => ("JoinedListsModel", "pile", "I", false)
  | 26 => ("JoinedListsModel", "pilePlace", "[I", true)
  | 27 => ("JoinedListsModel", "pileCode", "[I", true)
  | 28 => ("JoinedListsModel", "pileMass", "[J", true)
  | _ => ("JoinedListsModel", "plainMass", "J", false)
def tyX5 : Nat → FieldType := fun k => match k with
  | 0 => .int
  | 1 => .int
  | 2 => .int
  | 3 => .int
  | 4 => .array .int
  | 5 => .array .int
  | 6 => .array .int
  | 7 => .array .int
  | 8 => .array .int
  | 9 => .array .int
  | 10 => .array .boolean
  | 11 => .boolean
  | 12 => .int
  | 13 => .long
  | 14 => .array .int
  | 15 => .array .int
  | 16 => .array .int
  | 17 => .array .int
  | 18 => .array .long
  | 19 => .array .int
  | 20 => .int
  | 21 => .int
  | 22 => .long
  | 23 => .array .int
  | 24 => .array .long
  | 25 => .int
  | 26 => .array .int
  | 27 => .array .int
  | 28 => .array .long
  | _ => .long
abbrev wsX50 : List Cond := u_ws RX5 TX5 30
theorem nmX5 : ∀ a, a < 30 → ∀ b, b < 30 → a ≠ b → (TX5 a).2.1 ≠ (TX5 b).2.1 := by decide +kernel
theorem tyX5_ok : ∀ k, k < 30 → parseFieldDescriptor (TX5 k).2.2.1 = some (tyX5 k) := by decide +kernel
abbrev cX5_init : ByteArray := prog_7_method_1_code
def yX5_init : MethodName := ⟨RX5, "<init>", "()V"⟩
abbrev cX5_thrown : ByteArray := prog_7_method_2_code
def yX5_thrown : MethodName := ⟨RX5, "thrown", "()I"⟩
abbrev cX5_reset : ByteArray := prog_7_method_3_code
def yX5_reset : MethodName := ⟨RX5, "reset", "()V"⟩
abbrev cX5_isIn : ByteArray := prog_7_method_4_code
def yX5_isIn : MethodName := ⟨RX5, "isIn", "(III)Z"⟩
abbrev cX5_isTerm : ByteArray := prog_7_method_5_code
def yX5_isTerm : MethodName := ⟨RX5, "isTerm", "(I)Z"⟩
abbrev cX5_weight : ByteArray := prog_7_method_6_code
def yX5_weight : MethodName := ⟨RX5, "weight", "(III)I"⟩
abbrev cX5_added : ByteArray := prog_7_method_7_code
def yX5_added : MethodName := ⟨RX5, "added", "(IIIII)I"⟩
abbrev cX5_draw : ByteArray := prog_7_method_8_code
def yX5_draw : MethodName := ⟨RX5, "draw", "(II)I"⟩
abbrev cX5_set : ByteArray := prog_7_method_9_code
def yX5_set : MethodName := ⟨RX5, "set", "(IIII)I"⟩
abbrev cX5_observe : ByteArray := prog_7_method_10_code
def yX5_observe : MethodName := ⟨RX5, "observe", "(III)I"⟩
abbrev cX5_weigh : ByteArray := prog_7_method_11_code
def yX5_weigh : MethodName := ⟨RX5, "weigh", "(I)I"⟩
abbrev cX5_skip : ByteArray := prog_7_method_12_code
def yX5_skip : MethodName := ⟨RX5, "skip", "(II)I"⟩
abbrev cX5_drop : ByteArray := prog_7_method_13_code
def yX5_drop : MethodName := ⟨RX5, "drop", "()I"⟩
abbrev cX5_ask : ByteArray := prog_7_method_14_code
def yX5_ask : MethodName := ⟨RX5, "ask", "(IZ)I"⟩
abbrev cX5_bit : ByteArray := prog_7_method_15_code
def yX5_bit : MethodName := ⟨RX5, "bit", "(I)I"⟩
abbrev cX5_passed : ByteArray := prog_7_method_16_code
def yX5_passed : MethodName := ⟨RX5, "passed", "(I)I"⟩
abbrev cX5_liven : ByteArray := prog_7_method_17_code
def yX5_liven : MethodName := ⟨RX5, "liven", "()V"⟩
abbrev cX5_live : ByteArray := prog_7_method_18_code
def yX5_live : MethodName := ⟨RX5, "live", "(I)I"⟩
abbrev cX5_digit : ByteArray := prog_7_method_19_code
def yX5_digit : MethodName := ⟨RX5, "digit", "(II)I"⟩
abbrev cX5_with : ByteArray := prog_7_method_20_code
def yX5_with : MethodName := ⟨RX5, "with", "(III)I"⟩
abbrev cX5_termOf : ByteArray := prog_7_method_21_code
def yX5_termOf : MethodName := ⟨RX5, "termOf", "(II)I"⟩
abbrev cX5_worth : ByteArray := prog_7_method_22_code
def yX5_worth : MethodName := ⟨RX5, "worth", "(IIII)I"⟩
abbrev cX5_holds : ByteArray := prog_7_method_23_code
def yX5_holds : MethodName := ⟨RX5, "holds", "(III)Z"⟩
abbrev cX5_make : ByteArray := prog_7_method_24_code
def yX5_make : MethodName := ⟨RX5, "make", "(IJ)V"⟩
abbrev cX5_go : ByteArray := prog_7_method_25_code
def yX5_go : MethodName := ⟨RX5, "go", "(IIJ)V"⟩
abbrev cX5_isUneven : ByteArray := prog_7_method_26_code
def yX5_isUneven : MethodName := ⟨RX5, "isUneven", "()Z"⟩
abbrev cX5_begin : ByteArray := prog_7_method_27_code
def yX5_begin : MethodName := ⟨RX5, "begin", "()I"⟩
abbrev cX5_found : ByteArray := prog_7_method_28_code
def yX5_found : MethodName := ⟨RX5, "found", "(II)I"⟩
abbrev cX5_isThere : ByteArray := prog_7_method_29_code
def yX5_isThere : MethodName := ⟨RX5, "isThere", "(II)Z"⟩
abbrev cX5_come : ByteArray := prog_7_method_30_code
def yX5_come : MethodName := ⟨RX5, "come", "(IIJ)V"⟩
abbrev cX5_cut : ByteArray := prog_7_method_31_code
def yX5_cut : MethodName := ⟨RX5, "cut", "(II)I"⟩
abbrev cX5_least : ByteArray := prog_7_method_32_code
def yX5_least : MethodName := ⟨RX5, "least", "()I"⟩
abbrev cX5_isRoom : ByteArray := prog_7_method_33_code
def yX5_isRoom : MethodName := ⟨RX5, "isRoom", "(I)Z"⟩
abbrev cX5_list : ByteArray := prog_7_method_34_code
def yX5_list : MethodName := ⟨RX5, "list", "(I)I"⟩
abbrev cX5_done : ByteArray := prog_7_method_35_code
def yX5_done : MethodName := ⟨RX5, "done", "()I"⟩
abbrev cX5_states : ByteArray := prog_7_method_36_code
def yX5_states : MethodName := ⟨RX5, "states", "(II)I"⟩
abbrev cX5_code : ByteArray := prog_7_method_37_code
def yX5_code : MethodName := ⟨RX5, "code", "(II)I"⟩
abbrev cX5_mass : ByteArray := prog_7_method_38_code
def yX5_mass : MethodName := ⟨RX5, "mass", "(II)J"⟩
abbrev cX5_sumAt : ByteArray := prog_7_method_39_code
def yX5_sumAt : MethodName := ⟨RX5, "sumAt", "(III)J"⟩
abbrev cX5_sum : ByteArray := prog_7_method_40_code
def yX5_sum : MethodName := ⟨RX5, "sum", "(III)J"⟩
abbrev cX5_odds : ByteArray := prog_7_method_41_code
def yX5_odds : MethodName := ⟨RX5, "odds", "(III)J"⟩
abbrev cX5_lay : ByteArray := prog_7_method_42_code
def yX5_lay : MethodName := ⟨RX5, "lay", "(IIJ)V"⟩
abbrev cX5_listed : ByteArray := prog_7_method_43_code
def yX5_listed : MethodName := ⟨RX5, "listed", "(II)I"⟩
abbrev cX5_runs : ByteArray := prog_7_method_44_code
def yX5_runs : MethodName := ⟨RX5, "runs", "()I"⟩
abbrev cX5_plain : ByteArray := prog_7_method_45_code
def yX5_plain : MethodName := ⟨RX5, "plain", "(II)J"⟩
abbrev cX5_count : ByteArray := prog_7_method_46_code
def yX5_count : MethodName := ⟨RX5, "count", "(I)I"⟩
abbrev cX5_clear : ByteArray := prog_7_method_47_code
def yX5_clear : MethodName := ⟨RX5, "clear", "()I"⟩
def RJ9 : String := "java/lang/Math"
def TJ9 : u_T := fun k => match k with
  | _ => ("", "", "", false)
def tyJ9 : Nat → FieldType := fun k => match k with
  | _ => .int
abbrev wsJ90 : List Cond := u_ws RJ9 TJ9 0
theorem nmJ9 : ∀ a, a < 0 → ∀ b, b < 0 → a ≠ b → (TJ9 a).2.1 ≠ (TJ9 b).2.1 := by decide +kernel
theorem tyJ9_ok : ∀ k, k < 0 → parseFieldDescriptor (TJ9 k).2.2.1 = some (tyJ9 k) := by decide +kernel
abbrev cJ9_max_7cf53 : ByteArray := prog_10_method_65_code
def yJ9_max_7cf53 : MethodName := ⟨RJ9, "max", "(II)I"⟩
abbrev cJ9_min_7cf53 : ByteArray := prog_10_method_69_code
def yJ9_min_7cf53 : MethodName := ⟨RJ9, "min", "(II)I"⟩
def RJ0 : String := "java/lang/String"
def TJ0 : u_T := fun k => match k with
  | _ => ("", "", "", false)
def tyJ0 : Nat → FieldType := fun k => match k with
  | _ => .int
abbrev wsJ00 : List Cond := u_ws RJ0 TJ0 0
theorem nmJ0 : ∀ a, a < 0 → ∀ b, b < 0 → a ≠ b → (TJ0 a).2.1 ≠ (TJ0 b).2.1 := by decide +kernel
theorem tyJ0_ok : ∀ k, k < 0 → parseFieldDescriptor (TJ0 k).2.2.1 = some (tyJ0 k) := by decide +kernel
def RJ10 : String := "java/lang/System"
def TJ10 : u_T := fun k => match k with
  | _ => ("", "", "", false)
def tyJ10 : Nat → FieldType := fun k => match k with
  | _ => .int
abbrev wsJ100 : List Cond := u_ws RJ10 TJ10 0
theorem nmJ10 : ∀ a, a < 0 → ∀ b, b < 0 → a ≠ b → (TJ10 a).2.1 ≠ (TJ10 b).2.1 := by decide +kernel
theorem tyJ10_ok : ∀ k, k < 0 → parseFieldDescriptor (TJ10 k).2.2.1 = some (tyJ10 k) := by decide +kernel
def RL : String := "JoinedListsLaw"
abbrev cL_odds : ByteArray := method_3_code
def yL_odds : MethodName := ⟨RL, "odds", "(LJoinedLists;III[J)I"⟩
abbrev cL_law : ByteArray := code
def yL_law : MethodName := ⟨RL, "law", "([I)Z"⟩
theorem dX0_valueOf_0 : decode cX0_valueOf 0 = .ok (.iload_n 0, 1) := by decide +kernel
theorem dX0_valueOf_1 : decode cX0_valueOf 1 = .ok (.bipush 20, 2) := by decide +kernel
theorem dX0_valueOf_3 : decode cX0_valueOf 3 = .ok (.iconst 4, 1) := by decide +kernel
theorem dX0_valueOf_4 : decode cX0_valueOf 4 = .ok (.iload_n 1, 1) := by decide +kernel
theorem dX0_valueOf_5 : decode cX0_valueOf 5 = .ok (.imul, 1) := by decide +kernel
theorem dX0_valueOf_6 : decode cX0_valueOf 6 = .ok (.isub, 1) := by decide +kernel
theorem dX0_valueOf_7 : decode cX0_valueOf 7 = .ok (.ishr, 1) := by decide +kernel
theorem dX0_valueOf_8 : decode cX0_valueOf 8 = .ok (.bipush 15, 2) := by decide +kernel
theorem dX0_valueOf_10 : decode cX0_valueOf 10 = .ok (.iand, 1) := by decide +kernel
theorem dX0_valueOf_11 : decode cX0_valueOf 11 = .ok (.ireturn, 1) := by decide +kernel
theorem dX0_with_0 : decode cX0_with 0 = .ok (.bipush 20, 2) := by decide +kernel
theorem dX0_with_2 : decode cX0_with 2 = .ok (.iconst 4, 1) := by decide +kernel
theorem dX0_with_3 : decode cX0_with 3 = .ok (.iload_n 1, 1) := by decide +kernel
theorem dX0_with_4 : decode cX0_with 4 = .ok (.imul, 1) := by decide +kernel
theorem dX0_with_5 : decode cX0_with 5 = .ok (.isub, 1) := by decide +kernel
theorem dX0_with_6 : decode cX0_with 6 = .ok (.istore_n 3, 1) := by decide +kernel
theorem dX0_with_7 : decode cX0_with 7 = .ok (.iload_n 0, 1) := by decide +kernel
theorem dX0_with_8 : decode cX0_with 8 = .ok (.bipush 15, 2) := by decide +kernel
theorem dX0_with_10 : decode cX0_with 10 = .ok (.iload_n 3, 1) := by decide +kernel
theorem dX0_with_11 : decode cX0_with 11 = .ok (.ishl, 1) := by decide +kernel
theorem dX0_with_12 : decode cX0_with 12 = .ok (.iconst (-1), 1) := by decide +kernel
theorem dX0_with_13 : decode cX0_with 13 = .ok (.ixor, 1) := by decide +kernel
theorem dX0_with_14 : decode cX0_with 14 = .ok (.iand, 1) := by decide +kernel
theorem dX0_with_15 : decode cX0_with 15 = .ok (.iload_n 2, 1) := by decide +kernel
theorem dX0_with_16 : decode cX0_with 16 = .ok (.iload_n 3, 1) := by decide +kernel
theorem dX0_with_17 : decode cX0_with 17 = .ok (.ishl, 1) := by decide +kernel
theorem dX0_with_18 : decode cX0_with 18 = .ok (.ior, 1) := by decide +kernel
theorem dX0_with_19 : decode cX0_with 19 = .ok (.ireturn, 1) := by decide +kernel
theorem dX0_maskOf_0 : decode cX0_maskOf 0 = .ok (.iconst 0, 1) := by decide +kernel
theorem dX0_maskOf_1 : decode cX0_maskOf 1 = .ok (.istore_n 1, 1) := by decide +kernel
theorem dX0_maskOf_2 : decode cX0_maskOf 2 = .ok (.iconst 0, 1) := by decide +kernel
theorem dX0_maskOf_3 : decode cX0_maskOf 3 = .ok (.istore_n 2, 1) := by decide +kernel
theorem dX0_maskOf_4 : decode cX0_maskOf 4 = .ok (.iload_n 2, 1) := by decide +kernel
theorem dX0_maskOf_5 : decode cX0_maskOf 5 = .ok (.bipush 6, 2) := by decide +kernel
theorem dX0_maskOf_7 : decode cX0_maskOf 7 = .ok (.if_icmp .ge 29, 3) := by decide +kernel
theorem dX0_maskOf_10 : decode cX0_maskOf 10 = .ok (.iload_n 0, 1) := by decide +kernel
theorem dX0_maskOf_11 : decode cX0_maskOf 11 = .ok (.iconst 1, 1) := by decide +kernel
theorem dX0_maskOf_12 : decode cX0_maskOf 12 = .ok (.iload_n 2, 1) := by decide +kernel
theorem dX0_maskOf_13 : decode cX0_maskOf 13 = .ok (.ishl, 1) := by decide +kernel
theorem dX0_maskOf_14 : decode cX0_maskOf 14 = .ok (.iand, 1) := by decide +kernel
theorem dX0_maskOf_15 : decode cX0_maskOf 15 = .ok (.ifCond .eq 15, 3) := by decide +kernel
theorem dX0_maskOf_18 : decode cX0_maskOf 18 = .ok (.iload_n 1, 1) := by decide +kernel
theorem dX0_maskOf_19 : decode cX0_maskOf 19 = .ok (.bipush 15, 2) := by decide +kernel
theorem dX0_maskOf_21 : decode cX0_maskOf 21 = .ok (.bipush 20, 2) := by decide +kernel
theorem dX0_maskOf_23 : decode cX0_maskOf 23 = .ok (.iconst 4, 1) := by decide +kernel
theorem dX0_maskOf_24 : decode cX0_maskOf 24 = .ok (.iload_n 2, 1) := by decide +kernel
theorem dX0_maskOf_25 : decode cX0_maskOf 25 = .ok (.imul, 1) := by decide +kernel
theorem dX0_maskOf_26 : decode cX0_maskOf 26 = .ok (.isub, 1) := by decide +kernel
theorem dX0_maskOf_27 : decode cX0_maskOf 27 = .ok (.ishl, 1) := by decide +kernel
theorem dX0_maskOf_28 : decode cX0_maskOf 28 = .ok (.ior, 1) := by decide +kernel
theorem dX0_maskOf_29 : decode cX0_maskOf 29 = .ok (.istore_n 1, 1) := by decide +kernel
theorem dX0_maskOf_30 : decode cX0_maskOf 30 = .ok (.iinc 2 1, 3) := by decide +kernel
theorem dX0_maskOf_33 : decode cX0_maskOf 33 = .ok (.goto (-29), 3) := by decide +kernel
theorem dX0_maskOf_36 : decode cX0_maskOf 36 = .ok (.iload_n 1, 1) := by decide +kernel
theorem dX0_maskOf_37 : decode cX0_maskOf 37 = .ok (.ireturn, 1) := by decide +kernel
theorem dX0_decimal_0 : decode cX0_decimal 0 = .ok (.iconst 0, 1) := by decide +kernel
theorem dX0_decimal_1 : decode cX0_decimal 1 = .ok (.istore_n 1, 1) := by decide +kernel
theorem dX0_decimal_2 : decode cX0_decimal 2 = .ok (.iconst 0, 1) := by decide +kernel
theorem dX0_decimal_3 : decode cX0_decimal 3 = .ok (.istore_n 2, 1) := by decide +kernel
theorem dX0_decimal_4 : decode cX0_decimal 4 = .ok (.iload_n 2, 1) := by decide +kernel
theorem dX0_decimal_5 : decode cX0_decimal 5 = .ok (.bipush 6, 2) := by decide +kernel
theorem dX0_decimal_7 : decode cX0_decimal 7 = .ok (.if_icmp .ge 20, 3) := by decide +kernel
theorem dX0_decimal_10 : decode cX0_decimal 10 = .ok (.iload_n 1, 1) := by decide +kernel
theorem dX0_decimal_11 : decode cX0_decimal 11 = .ok (.bipush 10, 2) := by decide +kernel
theorem dX0_decimal_13 : decode cX0_decimal 13 = .ok (.imul, 1) := by decide +kernel
theorem dX0_decimal_14 : decode cX0_decimal 14 = .ok (.iload_n 0, 1) := by decide +kernel
theorem dX0_decimal_15 : decode cX0_decimal 15 = .ok (.iload_n 2, 1) := by decide +kernel
theorem dX0_decimal_16 : decode cX0_decimal 16 = .ok (.invokestatic 11, 3) := by decide +kernel
theorem dX0_decimal_19 : decode cX0_decimal 19 = .ok (.iadd, 1) := by decide +kernel
theorem dX0_decimal_20 : decode cX0_decimal 20 = .ok (.istore_n 1, 1) := by decide +kernel
theorem dX0_decimal_21 : decode cX0_decimal 21 = .ok (.iinc 2 1, 3) := by decide +kernel
theorem dX0_decimal_24 : decode cX0_decimal 24 = .ok (.goto (-20), 3) := by decide +kernel
theorem dX0_decimal_27 : decode cX0_decimal 27 = .ok (.iload_n 1, 1) := by decide +kernel
theorem dX0_decimal_28 : decode cX0_decimal 28 = .ok (.ireturn, 1) := by decide +kernel
theorem dX1_init_0 : decode cX1_init 0 = .ok (.aload_n 0, 1) := by decide +kernel
theorem dX1_init_1 : decode cX1_init 1 = .ok (.invokespecial 3, 3) := by decide +kernel
theorem dX1_init_4 : decode cX1_init 4 = .ok (.aload_n 0, 1) := by decide +kernel
theorem dX1_init_5 : decode cX1_init 5 = .ok (.bipush 31, 2) := by decide +kernel
theorem dX1_init_7 : decode cX1_init 7 = .ok (.sipush 200, 3) := by decide +kernel
theorem dX1_init_10 : decode cX1_init 10 = .ok (.multianewarray 9 2, 4) := by decide +kernel
theorem dX1_init_14 : decode cX1_init 14 = .ok (.putfield 11, 3) := by decide +kernel
theorem dX1_init_17 : decode cX1_init 17 = .ok (.aload_n 0, 1) := by decide +kernel
theorem dX1_init_18 : decode cX1_init 18 = .ok (.bipush 31, 2) := by decide +kernel
theorem dX1_init_20 : decode cX1_init 20 = .ok (.sipush 200, 3) := by decide +kernel
theorem dX1_init_23 : decode cX1_init 23 = .ok (.multianewarray 16 2, 4) := by decide +kernel
theorem dX1_init_27 : decode cX1_init 27 = .ok (.putfield 18, 3) := by decide +kernel
theorem dX1_init_30 : decode cX1_init 30 = .ok (.aload_n 0, 1) := by decide +kernel
theorem dX1_init_31 : decode cX1_init 31 = .ok (.bipush 31, 2) := by decide +kernel
theorem dX1_init_33 : decode cX1_init 33 = .ok (.newarray .int, 2) := by decide +kernel
theorem dX1_init_35 : decode cX1_init 35 = .ok (.putfield 21, 3) := by decide +kernel
theorem dX1_init_38 : decode cX1_init 38 = .ok (.aload_n 0, 1) := by decide +kernel
theorem dX1_init_39 : decode cX1_init 39 = .ok (.bipush 31, 2) := by decide +kernel
theorem dX1_init_41 : decode cX1_init 41 = .ok (.newarray .int, 2) := by decide +kernel
theorem dX1_init_43 : decode cX1_init 43 = .ok (.putfield 25, 3) := by decide +kernel
theorem dX1_init_46 : decode cX1_init 46 = .ok (.aload_n 0, 1) := by decide +kernel
theorem dX1_init_47 : decode cX1_init 47 = .ok (.bipush 31, 2) := by decide +kernel
theorem dX1_init_49 : decode cX1_init 49 = .ok (.newarray .int, 2) := by decide +kernel
theorem dX1_init_51 : decode cX1_init 51 = .ok (.putfield 28, 3) := by decide +kernel
theorem dX1_init_54 : decode cX1_init 54 = .ok (.aload_n 0, 1) := by decide +kernel
theorem dX1_init_55 : decode cX1_init 55 = .ok (.bipush 31, 2) := by decide +kernel
theorem dX1_init_57 : decode cX1_init 57 = .ok (.newarray .int, 2) := by decide +kernel
theorem dX1_init_59 : decode cX1_init 59 = .ok (.putfield 31, 3) := by decide +kernel
theorem dX1_init_62 : decode cX1_init 62 = .ok (.aload_n 0, 1) := by decide +kernel
theorem dX1_init_63 : decode cX1_init 63 = .ok (.bipush 31, 2) := by decide +kernel
theorem dX1_init_65 : decode cX1_init 65 = .ok (.newarray .int, 2) := by decide +kernel
theorem dX1_init_67 : decode cX1_init 67 = .ok (.putfield 34, 3) := by decide +kernel
theorem dX1_init_70 : decode cX1_init 70 = .ok (.aload_n 0, 1) := by decide +kernel
theorem dX1_init_71 : decode cX1_init 71 = .ok (.aload_n 1, 1) := by decide +kernel
theorem dX1_init_72 : decode cX1_init 72 = .ok (.putfield 37, 3) := by decide +kernel
theorem dX1_init_75 : decode cX1_init 75 = .ok (.return_, 1) := by decide +kernel
theorem dX1_end_0 : decode cX1_end 0 = .ok (.aload_n 0, 1) := by decide +kernel
theorem dX1_end_1 : decode cX1_end 1 = .ok (.iconst 0, 1) := by decide +kernel
theorem dX1_end_2 : decode cX1_end 2 = .ok (.putfield 41, 3) := by decide +kernel
theorem dX1_end_5 : decode cX1_end 5 = .ok (.return_, 1) := by decide +kernel
theorem dX1_start_0 : decode cX1_start 0 = .ok (.aload_n 0, 1) := by decide +kernel
theorem dX1_start_1 : decode cX1_start 1 = .ok (.getfield 37, 3) := by decide +kernel
theorem dX1_start_4 : decode cX1_start 4 = .ok (.invokevirtual 45, 3) := by decide +kernel
theorem dX1_start_7 : decode cX1_start 7 = .ok (.iconst 0, 1) := by decide +kernel
theorem dX1_start_8 : decode cX1_start 8 = .ok (.istore_n 1, 1) := by decide +kernel
theorem dX1_start_9 : decode cX1_start 9 = .ok (.iload_n 1, 1) := by decide +kernel
theorem dX1_start_10 : decode cX1_start 10 = .ok (.bipush 31, 2) := by decide +kernel
theorem dX1_start_12 : decode cX1_start 12 = .ok (.if_icmp .ge 54, 3) := by decide +kernel
theorem dX1_start_15 : decode cX1_start 15 = .ok (.aload_n 0, 1) := by decide +kernel
theorem dX1_start_16 : decode cX1_start 16 = .ok (.getfield 21, 3) := by decide +kernel
theorem dX1_start_19 : decode cX1_start 19 = .ok (.iload_n 1, 1) := by decide +kernel
theorem dX1_start_20 : decode cX1_start 20 = .ok (.iconst 0, 1) := by decide +kernel
theorem dX1_start_21 : decode cX1_start 21 = .ok (.iastore, 1) := by decide +kernel
theorem dX1_start_22 : decode cX1_start 22 = .ok (.aload_n 0, 1) := by decide +kernel
theorem dX1_start_23 : decode cX1_start 23 = .ok (.getfield 25, 3) := by decide +kernel
theorem dX1_start_26 : decode cX1_start 26 = .ok (.iload_n 1, 1) := by decide +kernel
theorem dX1_start_27 : decode cX1_start 27 = .ok (.iconst 0, 1) := by decide +kernel
theorem dX1_start_28 : decode cX1_start 28 = .ok (.iastore, 1) := by decide +kernel
theorem dX1_start_29 : decode cX1_start 29 = .ok (.aload_n 0, 1) := by decide +kernel
theorem dX1_start_30 : decode cX1_start 30 = .ok (.getfield 28, 3) := by decide +kernel
theorem dX1_start_33 : decode cX1_start 33 = .ok (.iload_n 1, 1) := by decide +kernel
theorem dX1_start_34 : decode cX1_start 34 = .ok (.iconst 0, 1) := by decide +kernel
theorem dX1_start_35 : decode cX1_start 35 = .ok (.iastore, 1) := by decide +kernel
theorem dX1_start_36 : decode cX1_start 36 = .ok (.aload_n 0, 1) := by decide +kernel
theorem dX1_start_37 : decode cX1_start 37 = .ok (.getfield 31, 3) := by decide +kernel
theorem dX1_start_40 : decode cX1_start 40 = .ok (.iload_n 1, 1) := by decide +kernel
theorem dX1_start_41 : decode cX1_start 41 = .ok (.iconst 0, 1) := by decide +kernel
theorem dX1_start_42 : decode cX1_start 42 = .ok (.iastore, 1) := by decide +kernel
theorem dX1_start_43 : decode cX1_start 43 = .ok (.aload_n 0, 1) := by decide +kernel
theorem dX1_start_44 : decode cX1_start 44 = .ok (.getfield 34, 3) := by decide +kernel
theorem dX1_start_47 : decode cX1_start 47 = .ok (.iload_n 1, 1) := by decide +kernel
theorem dX1_start_48 : decode cX1_start 48 = .ok (.aload_n 0, 1) := by decide +kernel
theorem dX1_start_49 : decode cX1_start 49 = .ok (.getfield 37, 3) := by decide +kernel
theorem dX1_start_52 : decode cX1_start 52 = .ok (.iload_n 1, 1) := by decide +kernel
theorem dX1_start_53 : decode cX1_start 53 = .ok (.invokevirtual 50, 3) := by decide +kernel
theorem dX1_start_56 : decode cX1_start 56 = .ok (.invokestatic 54, 3) := by decide +kernel
theorem dX1_start_59 : decode cX1_start 59 = .ok (.iastore, 1) := by decide +kernel
theorem dX1_start_60 : decode cX1_start 60 = .ok (.iinc 1 1, 3) := by decide +kernel
theorem dX1_start_63 : decode cX1_start 63 = .ok (.goto (-54), 3) := by decide +kernel
theorem dX1_start_66 : decode cX1_start 66 = .ok (.aload_n 0, 1) := by decide +kernel
theorem dX1_start_67 : decode cX1_start 67 = .ok (.iconst 1, 1) := by decide +kernel
theorem dX1_start_68 : decode cX1_start 68 = .ok (.putfield 41, 3) := by decide +kernel
theorem dX1_start_71 : decode cX1_start 71 = .ok (.aload_n 0, 1) := by decide +kernel
theorem dX1_start_72 : decode cX1_start 72 = .ok (.lconst 0, 1) := by decide +kernel
theorem dX1_start_73 : decode cX1_start 73 = .ok (.putfield 59, 3) := by decide +kernel
theorem dX1_start_76 : decode cX1_start 76 = .ok (.aload_n 0, 1) := by decide +kernel
theorem dX1_start_77 : decode cX1_start 77 = .ok (.iconst 0, 1) := by decide +kernel
theorem dX1_start_78 : decode cX1_start 78 = .ok (.putfield 63, 3) := by decide +kernel
theorem dX1_start_81 : decode cX1_start 81 = .ok (.aload_n 0, 1) := by decide +kernel
theorem dX1_start_82 : decode cX1_start 82 = .ok (.iconst 0, 1) := by decide +kernel
theorem dX1_start_83 : decode cX1_start 83 = .ok (.iconst 0, 1) := by decide +kernel
theorem dX1_start_84 : decode cX1_start 84 = .ok (.ldc2_w 67, 3) := by decide +kernel
theorem dX1_start_87 : decode cX1_start 87 = .ok (.invokevirtual 69, 3) := by decide +kernel
theorem dX1_start_90 : decode cX1_start 90 = .ok (.return_, 1) := by decide +kernel
theorem dX1_size_0 : decode cX1_size 0 = .ok (.iload_n 1, 1) := by decide +kernel
theorem dX1_size_1 : decode cX1_size 1 = .ok (.ifCond .lt 25, 3) := by decide +kernel
theorem dX1_size_4 : decode cX1_size 4 = .ok (.iload_n 1, 1) := by decide +kernel
theorem dX1_size_5 : decode cX1_size 5 = .ok (.bipush 31, 2) := by decide +kernel
theorem dX1_size_7 : decode cX1_size 7 = .ok (.if_icmp .ge 19, 3) := by decide +kernel
theorem dX1_size_10 : decode cX1_size 10 = .ok (.aload_n 0, 1) := by decide +kernel
theorem dX1_size_11 : decode cX1_size 11 = .ok (.getfield 25, 3) := by decide +kernel
theorem dX1_size_14 : decode cX1_size 14 = .ok (.iload_n 1, 1) := by decide +kernel
theorem dX1_size_15 : decode cX1_size 15 = .ok (.iaload, 1) := by decide +kernel
theorem dX1_size_16 : decode cX1_size 16 = .ok (.aload_n 0, 1) := by decide +kernel
theorem dX1_size_17 : decode cX1_size 17 = .ok (.getfield 21, 3) := by decide +kernel
theorem dX1_size_20 : decode cX1_size 20 = .ok (.iload_n 1, 1) := by decide +kernel
theorem dX1_size_21 : decode cX1_size 21 = .ok (.iaload, 1) := by decide +kernel
theorem dX1_size_22 : decode cX1_size 22 = .ok (.isub, 1) := by decide +kernel
theorem dX1_size_23 : decode cX1_size 23 = .ok (.goto 4, 3) := by decide +kernel
theorem dX1_size_26 : decode cX1_size 26 = .ok (.iconst 0, 1) := by decide +kernel
theorem dX1_size_27 : decode cX1_size 27 = .ok (.ireturn, 1) := by decide +kernel
theorem dX1_has_0 : decode cX1_has 0 = .ok (.iload_n 2, 1) := by decide +kernel
theorem dX1_has_1 : decode cX1_has 1 = .ok (.ifCond .lt 16, 3) := by decide +kernel
theorem dX1_has_4 : decode cX1_has 4 = .ok (.iload_n 2, 1) := by decide +kernel
theorem dX1_has_5 : decode cX1_has 5 = .ok (.aload_n 0, 1) := by decide +kernel
theorem dX1_has_6 : decode cX1_has 6 = .ok (.iload_n 1, 1) := by decide +kernel
theorem dX1_has_7 : decode cX1_has 7 = .ok (.invokevirtual 73, 3) := by decide +kernel
theorem dX1_has_10 : decode cX1_has 10 = .ok (.if_icmp .ge 7, 3) := by decide +kernel
theorem dX1_has_13 : decode cX1_has 13 = .ok (.iconst 1, 1) := by decide +kernel
theorem dX1_has_14 : decode cX1_has 14 = .ok (.goto 4, 3) := by decide +kernel
theorem dX1_has_17 : decode cX1_has 17 = .ok (.iconst 0, 1) := by decide +kernel
theorem dX1_has_18 : decode cX1_has 18 = .ok (.ireturn, 1) := by decide +kernel
theorem dX1_heldAt_0 : decode cX1_heldAt 0 = .ok (.aload_n 0, 1) := by decide +kernel
theorem dX1_heldAt_1 : decode cX1_heldAt 1 = .ok (.iload_n 1, 1) := by decide +kernel
theorem dX1_heldAt_2 : decode cX1_heldAt 2 = .ok (.iload_n 2, 1) := by decide +kernel
theorem dX1_heldAt_3 : decode cX1_heldAt 3 = .ok (.invokevirtual 76, 3) := by decide +kernel
theorem dX1_heldAt_6 : decode cX1_heldAt 6 = .ok (.ifCond .eq 21, 3) := by decide +kernel
theorem dX1_heldAt_9 : decode cX1_heldAt 9 = .ok (.aload_n 0, 1) := by decide +kernel
theorem dX1_heldAt_10 : decode cX1_heldAt 10 = .ok (.getfield 11, 3) := by decide +kernel
theorem dX1_heldAt_13 : decode cX1_heldAt 13 = .ok (.iload_n 1, 1) := by decide +kernel
theorem dX1_heldAt_14 : decode cX1_heldAt 14 = .ok (.aaload, 1) := by decide +kernel
theorem dX1_heldAt_15 : decode cX1_heldAt 15 = .ok (.aload_n 0, 1) := by decide +kernel
theorem dX1_heldAt_16 : decode cX1_heldAt 16 = .ok (.getfield 21, 3) := by decide +kernel
theorem dX1_heldAt_19 : decode cX1_heldAt 19 = .ok (.iload_n 1, 1) := by decide +kernel
theorem dX1_heldAt_20 : decode cX1_heldAt 20 = .ok (.iaload, 1) := by decide +kernel
theorem dX1_heldAt_21 : decode cX1_heldAt 21 = .ok (.iload_n 2, 1) := by decide +kernel
theorem dX1_heldAt_22 : decode cX1_heldAt 22 = .ok (.iadd, 1) := by decide +kernel
theorem dX1_heldAt_23 : decode cX1_heldAt 23 = .ok (.iaload, 1) := by decide +kernel
theorem dX1_heldAt_24 : decode cX1_heldAt 24 = .ok (.goto 4, 3) := by decide +kernel
theorem dX1_heldAt_27 : decode cX1_heldAt 27 = .ok (.iconst 0, 1) := by decide +kernel
theorem dX1_heldAt_28 : decode cX1_heldAt 28 = .ok (.ireturn, 1) := by decide +kernel
theorem dX1_massAt_0 : decode cX1_massAt 0 = .ok (.aload_n 0, 1) := by decide +kernel
theorem dX1_massAt_1 : decode cX1_massAt 1 = .ok (.iload_n 1, 1) := by decide +kernel
theorem dX1_massAt_2 : decode cX1_massAt 2 = .ok (.iload_n 2, 1) := by decide +kernel
theorem dX1_massAt_3 : decode cX1_massAt 3 = .ok (.invokevirtual 76, 3) := by decide +kernel
theorem dX1_massAt_6 : decode cX1_massAt 6 = .ok (.ifCond .eq 21, 3) := by decide +kernel
theorem dX1_massAt_9 : decode cX1_massAt 9 = .ok (.aload_n 0, 1) := by decide +kernel
theorem dX1_massAt_10 : decode cX1_massAt 10 = .ok (.getfield 18, 3) := by decide +kernel
theorem dX1_massAt_13 : decode cX1_massAt 13 = .ok (.iload_n 1, 1) := by decide +kernel
theorem dX1_massAt_14 : decode cX1_massAt 14 = .ok (.aaload, 1) := by decide +kernel
theorem dX1_massAt_15 : decode cX1_massAt 15 = .ok (.aload_n 0, 1) := by decide +kernel
theorem dX1_massAt_16 : decode cX1_massAt 16 = .ok (.getfield 21, 3) := by decide +kernel
theorem dX1_massAt_19 : decode cX1_massAt 19 = .ok (.iload_n 1, 1) := by decide +kernel
theorem dX1_massAt_20 : decode cX1_massAt 20 = .ok (.iaload, 1) := by decide +kernel
theorem dX1_massAt_21 : decode cX1_massAt 21 = .ok (.iload_n 2, 1) := by decide +kernel
theorem dX1_massAt_22 : decode cX1_massAt 22 = .ok (.iadd, 1) := by decide +kernel
theorem dX1_massAt_23 : decode cX1_massAt 23 = .ok (.laload, 1) := by decide +kernel
theorem dX1_massAt_24 : decode cX1_massAt 24 = .ok (.goto 4, 3) := by decide +kernel
theorem dX1_massAt_27 : decode cX1_massAt 27 = .ok (.lconst 0, 1) := by decide +kernel
theorem dX1_massAt_28 : decode cX1_massAt 28 = .ok (.lreturn, 1) := by decide +kernel
theorem dX1_total_0 : decode cX1_total 0 = .ok (.lconst 0, 1) := by decide +kernel
theorem dX1_total_1 : decode cX1_total 1 = .ok (.lstore 4, 2) := by decide +kernel
theorem dX1_total_3 : decode cX1_total 3 = .ok (.aload_n 0, 1) := by decide +kernel
theorem dX1_total_4 : decode cX1_total 4 = .ok (.iload_n 1, 1) := by decide +kernel
theorem dX1_total_5 : decode cX1_total 5 = .ok (.invokevirtual 73, 3) := by decide +kernel
theorem dX1_total_8 : decode cX1_total 8 = .ok (.istore 6, 2) := by decide +kernel
theorem dX1_total_10 : decode cX1_total 10 = .ok (.iconst 0, 1) := by decide +kernel
theorem dX1_total_11 : decode cX1_total 11 = .ok (.istore 7, 2) := by decide +kernel
theorem dX1_total_13 : decode cX1_total 13 = .ok (.iload 7, 2) := by decide +kernel
theorem dX1_total_15 : decode cX1_total 15 = .ok (.iload 6, 2) := by decide +kernel
theorem dX1_total_17 : decode cX1_total 17 = .ok (.if_icmp .ge 41, 3) := by decide +kernel
theorem dX1_total_20 : decode cX1_total 20 = .ok (.iload_n 2, 1) := by decide +kernel
theorem dX1_total_21 : decode cX1_total 21 = .ok (.iconst (-1), 1) := by decide +kernel
theorem dX1_total_22 : decode cX1_total 22 = .ok (.if_icmp .eq 18, 3) := by decide +kernel
theorem dX1_total_25 : decode cX1_total 25 = .ok (.aload_n 0, 1) := by decide +kernel
theorem dX1_total_26 : decode cX1_total 26 = .ok (.iload_n 1, 1) := by decide +kernel
theorem dX1_total_27 : decode cX1_total 27 = .ok (.iload 7, 2) := by decide +kernel
theorem dX1_total_29 : decode cX1_total 29 = .ok (.invokevirtual 80, 3) := by decide +kernel
theorem dX1_total_32 : decode cX1_total 32 = .ok (.iload_n 2, 1) := by decide +kernel
theorem dX1_total_33 : decode cX1_total 33 = .ok (.invokestatic 84, 3) := by decide +kernel
theorem dX1_total_36 : decode cX1_total 36 = .ok (.iload_n 3, 1) := by decide +kernel
theorem dX1_total_37 : decode cX1_total 37 = .ok (.if_icmp .ne 15, 3) := by decide +kernel
theorem dX1_total_40 : decode cX1_total 40 = .ok (.lload 4, 2) := by decide +kernel
theorem dX1_total_42 : decode cX1_total 42 = .ok (.aload_n 0, 1) := by decide +kernel
theorem dX1_total_43 : decode cX1_total 43 = .ok (.iload_n 1, 1) := by decide +kernel
theorem dX1_total_44 : decode cX1_total 44 = .ok (.iload 7, 2) := by decide +kernel
theorem dX1_total_46 : decode cX1_total 46 = .ok (.invokevirtual 87, 3) := by decide +kernel
theorem dX1_total_49 : decode cX1_total 49 = .ok (.ladd, 1) := by decide +kernel
theorem dX1_total_50 : decode cX1_total 50 = .ok (.lstore 4, 2) := by decide +kernel
theorem dX1_total_52 : decode cX1_total 52 = .ok (.iinc 7 1, 3) := by decide +kernel
theorem dX1_total_55 : decode cX1_total 55 = .ok (.goto (-42), 3) := by decide +kernel
theorem dX1_total_58 : decode cX1_total 58 = .ok (.lload 4, 2) := by decide +kernel
theorem dX1_total_60 : decode cX1_total 60 = .ok (.lreturn, 1) := by decide +kernel
theorem dX1_totalBeforeEnd_0 : decode cX1_totalBeforeEnd 0 = .ok (.lconst 0, 1) := by decide +kernel
theorem dX1_totalBeforeEnd_1 : decode cX1_totalBeforeEnd 1 = .ok (.lstore_n 3, 1) := by decide +kernel
theorem dX1_totalBeforeEnd_2 : decode cX1_totalBeforeEnd 2 = .ok (.iconst 0, 1) := by decide +kernel
theorem dX1_totalBeforeEnd_3 : decode cX1_totalBeforeEnd 3 = .ok (.istore 5, 2) := by decide +kernel
theorem dX1_totalBeforeEnd_5 : decode cX1_totalBeforeEnd 5 = .ok (.iload 5, 2) := by decide +kernel
theorem dX1_totalBeforeEnd_7 : decode cX1_totalBeforeEnd 7 = .ok (.aload_n 0, 1) := by decide +kernel
theorem dX1_totalBeforeEnd_8 : decode cX1_totalBeforeEnd 8 = .ok (.getfield 37, 3) := by decide +kernel
theorem dX1_totalBeforeEnd_11 : decode cX1_totalBeforeEnd 11 = .ok (.getfield 91, 3) := by decide +kernel
theorem dX1_totalBeforeEnd_14 : decode cX1_totalBeforeEnd 14 = .ok (.if_icmp .ge 20, 3) := by decide +kernel
theorem dX1_totalBeforeEnd_17 : decode cX1_totalBeforeEnd 17 = .ok (.lload_n 3, 1) := by decide +kernel
theorem dX1_totalBeforeEnd_18 : decode cX1_totalBeforeEnd 18 = .ok (.aload_n 0, 1) := by decide +kernel
theorem dX1_totalBeforeEnd_19 : decode cX1_totalBeforeEnd 19 = .ok (.iload 5, 2) := by decide +kernel
theorem dX1_totalBeforeEnd_21 : decode cX1_totalBeforeEnd 21 = .ok (.iload_n 1, 1) := by decide +kernel
theorem dX1_totalBeforeEnd_22 : decode cX1_totalBeforeEnd 22 = .ok (.iload_n 2, 1) := by decide +kernel
theorem dX1_totalBeforeEnd_23 : decode cX1_totalBeforeEnd 23 = .ok (.invokevirtual 94, 3) := by decide +kernel
theorem dX1_totalBeforeEnd_26 : decode cX1_totalBeforeEnd 26 = .ok (.ladd, 1) := by decide +kernel
theorem dX1_totalBeforeEnd_27 : decode cX1_totalBeforeEnd 27 = .ok (.lstore_n 3, 1) := by decide +kernel
theorem dX1_totalBeforeEnd_28 : decode cX1_totalBeforeEnd 28 = .ok (.iinc 5 1, 3) := by decide +kernel
theorem dX1_totalBeforeEnd_31 : decode cX1_totalBeforeEnd 31 = .ok (.goto (-26), 3) := by decide +kernel
theorem dX1_totalBeforeEnd_34 : decode cX1_totalBeforeEnd 34 = .ok (.lload_n 3, 1) := by decide +kernel
theorem dX1_totalBeforeEnd_35 : decode cX1_totalBeforeEnd 35 = .ok (.lreturn, 1) := by decide +kernel
theorem dX1_leastPlace_0 : decode cX1_leastPlace 0 = .ok (.iconst 0, 1) := by decide +kernel
theorem dX1_leastPlace_1 : decode cX1_leastPlace 1 = .ok (.istore_n 1, 1) := by decide +kernel
theorem dX1_leastPlace_2 : decode cX1_leastPlace 2 = .ok (.iload_n 1, 1) := by decide +kernel
theorem dX1_leastPlace_3 : decode cX1_leastPlace 3 = .ok (.aload_n 0, 1) := by decide +kernel
theorem dX1_leastPlace_4 : decode cX1_leastPlace 4 = .ok (.getfield 37, 3) := by decide +kernel
theorem dX1_leastPlace_7 : decode cX1_leastPlace 7 = .ok (.getfield 91, 3) := by decide +kernel
theorem dX1_leastPlace_10 : decode cX1_leastPlace 10 = .ok (.if_icmp .ge 19, 3) := by decide +kernel
theorem dX1_leastPlace_13 : decode cX1_leastPlace 13 = .ok (.aload_n 0, 1) := by decide +kernel
theorem dX1_leastPlace_14 : decode cX1_leastPlace 14 = .ok (.iload_n 1, 1) := by decide +kernel
theorem dX1_leastPlace_15 : decode cX1_leastPlace 15 = .ok (.invokevirtual 73, 3) := by decide +kernel
theorem dX1_leastPlace_18 : decode cX1_leastPlace 18 = .ok (.ifCond .le 5, 3) := by decide +kernel
theorem dX1_leastPlace_21 : decode cX1_leastPlace 21 = .ok (.iload_n 1, 1) := by decide +kernel
theorem dX1_leastPlace_22 : decode cX1_leastPlace 22 = .ok (.ireturn, 1) := by decide +kernel
theorem dX1_leastPlace_23 : decode cX1_leastPlace 23 = .ok (.iinc 1 1, 3) := by decide +kernel
theorem dX1_leastPlace_26 : decode cX1_leastPlace 26 = .ok (.goto (-24), 3) := by decide +kernel
theorem dX1_leastPlace_29 : decode cX1_leastPlace 29 = .ok (.bipush (-5), 2) := by decide +kernel
theorem dX1_leastPlace_31 : decode cX1_leastPlace 31 = .ok (.ireturn, 1) := by decide +kernel
theorem dX1_spend_0 : decode cX1_spend 0 = .ok (.iconst 0, 1) := by decide +kernel
theorem dX1_spend_1 : decode cX1_spend 1 = .ok (.istore_n 2, 1) := by decide +kernel
theorem dX1_spend_2 : decode cX1_spend 2 = .ok (.iload_n 2, 1) := by decide +kernel
theorem dX1_spend_3 : decode cX1_spend 3 = .ok (.iload_n 1, 1) := by decide +kernel
theorem dX1_spend_4 : decode cX1_spend 4 = .ok (.if_icmp .ge 36, 3) := by decide +kernel
theorem dX1_spend_7 : decode cX1_spend 7 = .ok (.aload_n 0, 1) := by decide +kernel
theorem dX1_spend_8 : decode cX1_spend 8 = .ok (.invokevirtual 98, 3) := by decide +kernel
theorem dX1_spend_11 : decode cX1_spend 11 = .ok (.istore_n 3, 1) := by decide +kernel
theorem dX1_spend_12 : decode cX1_spend 12 = .ok (.iload_n 3, 1) := by decide +kernel
theorem dX1_spend_13 : decode cX1_spend 13 = .ok (.bipush (-5), 2) := by decide +kernel
theorem dX1_spend_15 : decode cX1_spend 15 = .ok (.if_icmp .eq 25, 3) := by decide +kernel
theorem dX1_spend_18 : decode cX1_spend 18 = .ok (.aload_n 0, 1) := by decide +kernel
theorem dX1_spend_19 : decode cX1_spend 19 = .ok (.iload_n 3, 1) := by decide +kernel
theorem dX1_spend_20 : decode cX1_spend 20 = .ok (.invokevirtual 102, 3) := by decide +kernel
theorem dX1_spend_23 : decode cX1_spend 23 = .ok (.ifCond .ne 6, 3) := by decide +kernel
theorem dX1_spend_26 : decode cX1_spend 26 = .ok (.goto 14, 3) := by decide +kernel
theorem dX1_spend_29 : decode cX1_spend 29 = .ok (.aload_n 0, 1) := by decide +kernel
theorem dX1_spend_30 : decode cX1_spend 30 = .ok (.iload_n 3, 1) := by decide +kernel
theorem dX1_spend_31 : decode cX1_spend 31 = .ok (.invokevirtual 106, 3) := by decide +kernel
theorem dX1_spend_34 : decode cX1_spend 34 = .ok (.iinc 2 1, 3) := by decide +kernel
theorem dX1_spend_37 : decode cX1_spend 37 = .ok (.goto (-35), 3) := by decide +kernel
theorem dX1_spend_40 : decode cX1_spend 40 = .ok (.iload_n 2, 1) := by decide +kernel
theorem dX1_spend_41 : decode cX1_spend 41 = .ok (.ireturn, 1) := by decide +kernel
theorem dX1_hasRoomBehind_0 : decode cX1_hasRoomBehind 0 = .ok (.aload_n 0, 1) := by decide +kernel
theorem dX1_hasRoomBehind_1 : decode cX1_hasRoomBehind 1 = .ok (.iload_n 1, 1) := by decide +kernel
theorem dX1_hasRoomBehind_2 : decode cX1_hasRoomBehind 2 = .ok (.iconst 0, 1) := by decide +kernel
theorem dX1_hasRoomBehind_3 : decode cX1_hasRoomBehind 3 = .ok (.invokevirtual 80, 3) := by decide +kernel
theorem dX1_hasRoomBehind_6 : decode cX1_hasRoomBehind 6 = .ok (.istore_n 2, 1) := by decide +kernel
theorem dX1_hasRoomBehind_7 : decode cX1_hasRoomBehind 7 = .ok (.aload_n 0, 1) := by decide +kernel
theorem dX1_hasRoomBehind_8 : decode cX1_hasRoomBehind 8 = .ok (.getfield 37, 3) := by decide +kernel
theorem dX1_hasRoomBehind_11 : decode cX1_hasRoomBehind 11 = .ok (.iload_n 1, 1) := by decide +kernel
theorem dX1_hasRoomBehind_12 : decode cX1_hasRoomBehind 12 = .ok (.iload_n 2, 1) := by decide +kernel
theorem dX1_hasRoomBehind_13 : decode cX1_hasRoomBehind 13 = .ok (.invokevirtual 110, 3) := by decide +kernel
theorem dX1_hasRoomBehind_16 : decode cX1_hasRoomBehind 16 = .ok (.istore_n 3, 1) := by decide +kernel
theorem dX1_hasRoomBehind_17 : decode cX1_hasRoomBehind 17 = .ok (.iload_n 3, 1) := by decide +kernel
theorem dX1_hasRoomBehind_18 : decode cX1_hasRoomBehind 18 = .ok (.ifCond .lt 9, 3) := by decide +kernel
theorem dX1_hasRoomBehind_21 : decode cX1_hasRoomBehind 21 = .ok (.iload_n 3, 1) := by decide +kernel
theorem dX1_hasRoomBehind_22 : decode cX1_hasRoomBehind 22 = .ok (.bipush 31, 2) := by decide +kernel
theorem dX1_hasRoomBehind_24 : decode cX1_hasRoomBehind 24 = .ok (.if_icmp .lt 5, 3) := by decide +kernel
theorem dX1_hasRoomBehind_27 : decode cX1_hasRoomBehind 27 = .ok (.iconst 0, 1) := by decide +kernel
theorem dX1_hasRoomBehind_28 : decode cX1_hasRoomBehind 28 = .ok (.ireturn, 1) := by decide +kernel
theorem dX1_hasRoomBehind_29 : decode cX1_hasRoomBehind 29 = .ok (.sipush 200, 3) := by decide +kernel
theorem dX1_hasRoomBehind_32 : decode cX1_hasRoomBehind 32 = .ok (.aload_n 0, 1) := by decide +kernel
theorem dX1_hasRoomBehind_33 : decode cX1_hasRoomBehind 33 = .ok (.getfield 25, 3) := by decide +kernel
theorem dX1_hasRoomBehind_36 : decode cX1_hasRoomBehind 36 = .ok (.iload_n 3, 1) := by decide +kernel
theorem dX1_hasRoomBehind_37 : decode cX1_hasRoomBehind 37 = .ok (.iaload, 1) := by decide +kernel
theorem dX1_hasRoomBehind_38 : decode cX1_hasRoomBehind 38 = .ok (.isub, 1) := by decide +kernel
theorem dX1_hasRoomBehind_39 : decode cX1_hasRoomBehind 39 = .ok (.istore 4, 2) := by decide +kernel
theorem dX1_hasRoomBehind_41 : decode cX1_hasRoomBehind 41 = .ok (.aload_n 0, 1) := by decide +kernel
theorem dX1_hasRoomBehind_42 : decode cX1_hasRoomBehind 42 = .ok (.getfield 37, 3) := by decide +kernel
theorem dX1_hasRoomBehind_45 : decode cX1_hasRoomBehind 45 = .ok (.iload_n 1, 1) := by decide +kernel
theorem dX1_hasRoomBehind_46 : decode cX1_hasRoomBehind 46 = .ok (.invokevirtual 113, 3) := by decide +kernel
theorem dX1_hasRoomBehind_49 : decode cX1_hasRoomBehind 49 = .ok (.iload 4, 2) := by decide +kernel
theorem dX1_hasRoomBehind_51 : decode cX1_hasRoomBehind 51 = .ok (.if_icmp .le 14, 3) := by decide +kernel
theorem dX1_hasRoomBehind_54 : decode cX1_hasRoomBehind 54 = .ok (.aload_n 0, 1) := by decide +kernel
theorem dX1_hasRoomBehind_55 : decode cX1_hasRoomBehind 55 = .ok (.iload_n 1, 1) := by decide +kernel
theorem dX1_hasRoomBehind_56 : decode cX1_hasRoomBehind 56 = .ok (.iload_n 3, 1) := by decide +kernel
theorem dX1_hasRoomBehind_57 : decode cX1_hasRoomBehind 57 = .ok (.invokevirtual 116, 3) := by decide +kernel
theorem dX1_hasRoomBehind_60 : decode cX1_hasRoomBehind 60 = .ok (.iload 4, 2) := by decide +kernel
theorem dX1_hasRoomBehind_62 : decode cX1_hasRoomBehind 62 = .ok (.if_icmp .gt 7, 3) := by decide +kernel
theorem dX1_hasRoomBehind_65 : decode cX1_hasRoomBehind 65 = .ok (.iconst 1, 1) := by decide +kernel
theorem dX1_hasRoomBehind_66 : decode cX1_hasRoomBehind 66 = .ok (.goto 4, 3) := by decide +kernel
theorem dX1_hasRoomBehind_69 : decode cX1_hasRoomBehind 69 = .ok (.iconst 0, 1) := by decide +kernel
theorem dX1_hasRoomBehind_70 : decode cX1_hasRoomBehind 70 = .ok (.ireturn, 1) := by decide +kernel
theorem dX1_newBehind_0 : decode cX1_newBehind 0 = .ok (.aload_n 0, 1) := by decide +kernel
theorem dX1_newBehind_1 : decode cX1_newBehind 1 = .ok (.iload_n 1, 1) := by decide +kernel
theorem dX1_newBehind_2 : decode cX1_newBehind 2 = .ok (.iconst 0, 1) := by decide +kernel
theorem dX1_newBehind_3 : decode cX1_newBehind 3 = .ok (.invokevirtual 80, 3) := by decide +kernel
theorem dX1_newBehind_6 : decode cX1_newBehind 6 = .ok (.istore_n 3, 1) := by decide +kernel
theorem dX1_newBehind_7 : decode cX1_newBehind 7 = .ok (.aload_n 0, 1) := by decide +kernel
theorem dX1_newBehind_8 : decode cX1_newBehind 8 = .ok (.iload_n 1, 1) := by decide +kernel
theorem dX1_newBehind_9 : decode cX1_newBehind 9 = .ok (.iconst 0, 1) := by decide +kernel
theorem dX1_newBehind_10 : decode cX1_newBehind 10 = .ok (.invokevirtual 87, 3) := by decide +kernel
theorem dX1_newBehind_13 : decode cX1_newBehind 13 = .ok (.lstore 4, 2) := by decide +kernel
theorem dX1_newBehind_15 : decode cX1_newBehind 15 = .ok (.aload_n 0, 1) := by decide +kernel
theorem dX1_newBehind_16 : decode cX1_newBehind 16 = .ok (.getfield 37, 3) := by decide +kernel
theorem dX1_newBehind_19 : decode cX1_newBehind 19 = .ok (.iload_n 1, 1) := by decide +kernel
theorem dX1_newBehind_20 : decode cX1_newBehind 20 = .ok (.invokevirtual 113, 3) := by decide +kernel
theorem dX1_newBehind_23 : decode cX1_newBehind 23 = .ok (.istore 6, 2) := by decide +kernel
theorem dX1_newBehind_25 : decode cX1_newBehind 25 = .ok (.iconst 0, 1) := by decide +kernel
theorem dX1_newBehind_26 : decode cX1_newBehind 26 = .ok (.istore 7, 2) := by decide +kernel
theorem dX1_newBehind_28 : decode cX1_newBehind 28 = .ok (.bipush (-5), 2) := by decide +kernel
theorem dX1_newBehind_30 : decode cX1_newBehind 30 = .ok (.istore 8, 2) := by decide +kernel
theorem dX1_newBehind_32 : decode cX1_newBehind 32 = .ok (.iconst 0, 1) := by decide +kernel
theorem dX1_newBehind_33 : decode cX1_newBehind 33 = .ok (.istore 9, 2) := by decide +kernel
theorem dX1_newBehind_35 : decode cX1_newBehind 35 = .ok (.iload 9, 2) := by decide +kernel
theorem dX1_newBehind_37 : decode cX1_newBehind 37 = .ok (.iload 6, 2) := by decide +kernel
theorem dX1_newBehind_39 : decode cX1_newBehind 39 = .ok (.if_icmp .ge 78, 3) := by decide +kernel
theorem dX1_newBehind_42 : decode cX1_newBehind 42 = .ok (.aload_n 0, 1) := by decide +kernel
theorem dX1_newBehind_43 : decode cX1_newBehind 43 = .ok (.getfield 37, 3) := by decide +kernel
theorem dX1_newBehind_46 : decode cX1_newBehind 46 = .ok (.iload_n 1, 1) := by decide +kernel
theorem dX1_newBehind_47 : decode cX1_newBehind 47 = .ok (.iload 9, 2) := by decide +kernel
theorem dX1_newBehind_49 : decode cX1_newBehind 49 = .ok (.iload_n 3, 1) := by decide +kernel
theorem dX1_newBehind_50 : decode cX1_newBehind 50 = .ok (.lload 4, 2) := by decide +kernel
theorem dX1_newBehind_52 : decode cX1_newBehind 52 = .ok (.invokevirtual 119, 3) := by decide +kernel
theorem dX1_newBehind_55 : decode cX1_newBehind 55 = .ok (.lconst 0, 1) := by decide +kernel
theorem dX1_newBehind_56 : decode cX1_newBehind 56 = .ok (.lcmp, 1) := by decide +kernel
theorem dX1_newBehind_57 : decode cX1_newBehind 57 = .ok (.ifCond .le 54, 3) := by decide +kernel
theorem dX1_newBehind_60 : decode cX1_newBehind 60 = .ok (.aload_n 0, 1) := by decide +kernel
theorem dX1_newBehind_61 : decode cX1_newBehind 61 = .ok (.getfield 37, 3) := by decide +kernel
theorem dX1_newBehind_64 : decode cX1_newBehind 64 = .ok (.iload_n 1, 1) := by decide +kernel
theorem dX1_newBehind_65 : decode cX1_newBehind 65 = .ok (.iload 9, 2) := by decide +kernel
theorem dX1_newBehind_67 : decode cX1_newBehind 67 = .ok (.iload_n 3, 1) := by decide +kernel
theorem dX1_newBehind_68 : decode cX1_newBehind 68 = .ok (.invokevirtual 123, 3) := by decide +kernel
theorem dX1_newBehind_71 : decode cX1_newBehind 71 = .ok (.aload_n 0, 1) := by decide +kernel
theorem dX1_newBehind_72 : decode cX1_newBehind 72 = .ok (.getfield 34, 3) := by decide +kernel
theorem dX1_newBehind_75 : decode cX1_newBehind 75 = .ok (.iload_n 2, 1) := by decide +kernel
theorem dX1_newBehind_76 : decode cX1_newBehind 76 = .ok (.iaload, 1) := by decide +kernel
theorem dX1_newBehind_77 : decode cX1_newBehind 77 = .ok (.iand, 1) := by decide +kernel
theorem dX1_newBehind_78 : decode cX1_newBehind 78 = .ok (.istore 10, 2) := by decide +kernel
theorem dX1_newBehind_80 : decode cX1_newBehind 80 = .ok (.iload 10, 2) := by decide +kernel
theorem dX1_newBehind_82 : decode cX1_newBehind 82 = .ok (.iload 8, 2) := by decide +kernel
theorem dX1_newBehind_84 : decode cX1_newBehind 84 = .ok (.if_icmp .eq 27, 3) := by decide +kernel
theorem dX1_newBehind_87 : decode cX1_newBehind 87 = .ok (.aload_n 0, 1) := by decide +kernel
theorem dX1_newBehind_88 : decode cX1_newBehind 88 = .ok (.iload_n 2, 1) := by decide +kernel
theorem dX1_newBehind_89 : decode cX1_newBehind 89 = .ok (.iload 10, 2) := by decide +kernel
theorem dX1_newBehind_91 : decode cX1_newBehind 91 = .ok (.aload_n 0, 1) := by decide +kernel
theorem dX1_newBehind_92 : decode cX1_newBehind 92 = .ok (.iload_n 2, 1) := by decide +kernel
theorem dX1_newBehind_93 : decode cX1_newBehind 93 = .ok (.iload 10, 2) := by decide +kernel
theorem dX1_newBehind_95 : decode cX1_newBehind 95 = .ok (.invokevirtual 127, 3) := by decide +kernel
theorem dX1_newBehind_98 : decode cX1_newBehind 98 = .ok (.invokevirtual 130, 3) := by decide +kernel
theorem dX1_newBehind_101 : decode cX1_newBehind 101 = .ok (.ifCond .ne 10, 3) := by decide +kernel
theorem dX1_newBehind_104 : decode cX1_newBehind 104 = .ok (.iinc 7 1, 3) := by decide +kernel
theorem dX1_newBehind_107 : decode cX1_newBehind 107 = .ok (.iload 10, 2) := by decide +kernel
theorem dX1_newBehind_109 : decode cX1_newBehind 109 = .ok (.istore 8, 2) := by decide +kernel
theorem dX1_newBehind_111 : decode cX1_newBehind 111 = .ok (.iinc 9 1, 3) := by decide +kernel
theorem dX1_newBehind_114 : decode cX1_newBehind 114 = .ok (.goto (-79), 3) := by decide +kernel
theorem dX1_newBehind_117 : decode cX1_newBehind 117 = .ok (.iload 7, 2) := by decide +kernel
theorem dX1_newBehind_119 : decode cX1_newBehind 119 = .ok (.ireturn, 1) := by decide +kernel
theorem dX1_moveLeast_0 : decode cX1_moveLeast 0 = .ok (.aload_n 0, 1) := by decide +kernel
theorem dX1_moveLeast_1 : decode cX1_moveLeast 1 = .ok (.iload_n 1, 1) := by decide +kernel
theorem dX1_moveLeast_2 : decode cX1_moveLeast 2 = .ok (.iconst 0, 1) := by decide +kernel
theorem dX1_moveLeast_3 : decode cX1_moveLeast 3 = .ok (.invokevirtual 80, 3) := by decide +kernel
theorem dX1_moveLeast_6 : decode cX1_moveLeast 6 = .ok (.istore_n 2, 1) := by decide +kernel
theorem dX1_moveLeast_7 : decode cX1_moveLeast 7 = .ok (.aload_n 0, 1) := by decide +kernel
theorem dX1_moveLeast_8 : decode cX1_moveLeast 8 = .ok (.iload_n 1, 1) := by decide +kernel
theorem dX1_moveLeast_9 : decode cX1_moveLeast 9 = .ok (.iconst 0, 1) := by decide +kernel
theorem dX1_moveLeast_10 : decode cX1_moveLeast 10 = .ok (.invokevirtual 87, 3) := by decide +kernel
theorem dX1_moveLeast_13 : decode cX1_moveLeast 13 = .ok (.lstore_n 3, 1) := by decide +kernel
theorem dX1_moveLeast_14 : decode cX1_moveLeast 14 = .ok (.aload_n 0, 1) := by decide +kernel
theorem dX1_moveLeast_15 : decode cX1_moveLeast 15 = .ok (.getfield 37, 3) := by decide +kernel
theorem dX1_moveLeast_18 : decode cX1_moveLeast 18 = .ok (.iload_n 1, 1) := by decide +kernel
theorem dX1_moveLeast_19 : decode cX1_moveLeast 19 = .ok (.iload_n 2, 1) := by decide +kernel
theorem dX1_moveLeast_20 : decode cX1_moveLeast 20 = .ok (.invokevirtual 110, 3) := by decide +kernel
theorem dX1_moveLeast_23 : decode cX1_moveLeast 23 = .ok (.istore 5, 2) := by decide +kernel
theorem dX1_moveLeast_25 : decode cX1_moveLeast 25 = .ok (.aload_n 0, 1) := by decide +kernel
theorem dX1_moveLeast_26 : decode cX1_moveLeast 26 = .ok (.getfield 37, 3) := by decide +kernel
theorem dX1_moveLeast_29 : decode cX1_moveLeast 29 = .ok (.iload_n 1, 1) := by decide +kernel
theorem dX1_moveLeast_30 : decode cX1_moveLeast 30 = .ok (.invokevirtual 113, 3) := by decide +kernel
theorem dX1_moveLeast_33 : decode cX1_moveLeast 33 = .ok (.istore 6, 2) := by decide +kernel
theorem dX1_moveLeast_35 : decode cX1_moveLeast 35 = .ok (.aload_n 0, 1) := by decide +kernel
theorem dX1_moveLeast_36 : decode cX1_moveLeast 36 = .ok (.getfield 21, 3) := by decide +kernel
theorem dX1_moveLeast_39 : decode cX1_moveLeast 39 = .ok (.iload_n 1, 1) := by decide +kernel
theorem dX1_moveLeast_40 : decode cX1_moveLeast 40 = .ok (.dup2, 1) := by decide +kernel
theorem dX1_moveLeast_41 : decode cX1_moveLeast 41 = .ok (.iaload, 1) := by decide +kernel
theorem dX1_moveLeast_42 : decode cX1_moveLeast 42 = .ok (.iconst 1, 1) := by decide +kernel
theorem dX1_moveLeast_43 : decode cX1_moveLeast 43 = .ok (.iadd, 1) := by decide +kernel
theorem dX1_moveLeast_44 : decode cX1_moveLeast 44 = .ok (.iastore, 1) := by decide +kernel
theorem dX1_moveLeast_45 : decode cX1_moveLeast 45 = .ok (.aload_n 0, 1) := by decide +kernel
theorem dX1_moveLeast_46 : decode cX1_moveLeast 46 = .ok (.dup, 1) := by decide +kernel
theorem dX1_moveLeast_47 : decode cX1_moveLeast 47 = .ok (.getfield 63, 3) := by decide +kernel
theorem dX1_moveLeast_50 : decode cX1_moveLeast 50 = .ok (.iconst 1, 1) := by decide +kernel
theorem dX1_moveLeast_51 : decode cX1_moveLeast 51 = .ok (.iadd, 1) := by decide +kernel
theorem dX1_moveLeast_52 : decode cX1_moveLeast 52 = .ok (.putfield 63, 3) := by decide +kernel
theorem dX1_moveLeast_55 : decode cX1_moveLeast 55 = .ok (.iconst 0, 1) := by decide +kernel
theorem dX1_moveLeast_56 : decode cX1_moveLeast 56 = .ok (.istore 7, 2) := by decide +kernel
theorem dX1_moveLeast_58 : decode cX1_moveLeast 58 = .ok (.iload 7, 2) := by decide +kernel
theorem dX1_moveLeast_60 : decode cX1_moveLeast 60 = .ok (.iload 6, 2) := by decide +kernel
theorem dX1_moveLeast_62 : decode cX1_moveLeast 62 = .ok (.if_icmp .ge 73, 3) := by decide +kernel
theorem dX1_moveLeast_65 : decode cX1_moveLeast 65 = .ok (.aload_n 0, 1) := by decide +kernel
theorem dX1_moveLeast_66 : decode cX1_moveLeast 66 = .ok (.getfield 37, 3) := by decide +kernel
theorem dX1_moveLeast_69 : decode cX1_moveLeast 69 = .ok (.iload_n 1, 1) := by decide +kernel
theorem dX1_moveLeast_70 : decode cX1_moveLeast 70 = .ok (.iload 7, 2) := by decide +kernel
theorem dX1_moveLeast_72 : decode cX1_moveLeast 72 = .ok (.iload_n 2, 1) := by decide +kernel
theorem dX1_moveLeast_73 : decode cX1_moveLeast 73 = .ok (.lload_n 3, 1) := by decide +kernel
theorem dX1_moveLeast_74 : decode cX1_moveLeast 74 = .ok (.invokevirtual 119, 3) := by decide +kernel
theorem dX1_moveLeast_77 : decode cX1_moveLeast 77 = .ok (.lstore 8, 2) := by decide +kernel
theorem dX1_moveLeast_79 : decode cX1_moveLeast 79 = .ok (.lload 8, 2) := by decide +kernel
theorem dX1_moveLeast_81 : decode cX1_moveLeast 81 = .ok (.lconst 0, 1) := by decide +kernel
theorem dX1_moveLeast_82 : decode cX1_moveLeast 82 = .ok (.lcmp, 1) := by decide +kernel
theorem dX1_moveLeast_83 : decode cX1_moveLeast 83 = .ok (.ifCond .le 25, 3) := by decide +kernel
theorem dX1_moveLeast_86 : decode cX1_moveLeast 86 = .ok (.aload_n 0, 1) := by decide +kernel
theorem dX1_moveLeast_87 : decode cX1_moveLeast 87 = .ok (.iload 5, 2) := by decide +kernel
theorem dX1_moveLeast_89 : decode cX1_moveLeast 89 = .ok (.aload_n 0, 1) := by decide +kernel
theorem dX1_moveLeast_90 : decode cX1_moveLeast 90 = .ok (.getfield 37, 3) := by decide +kernel
theorem dX1_moveLeast_93 : decode cX1_moveLeast 93 = .ok (.iload_n 1, 1) := by decide +kernel
theorem dX1_moveLeast_94 : decode cX1_moveLeast 94 = .ok (.iload 7, 2) := by decide +kernel
theorem dX1_moveLeast_96 : decode cX1_moveLeast 96 = .ok (.iload_n 2, 1) := by decide +kernel
theorem dX1_moveLeast_97 : decode cX1_moveLeast 97 = .ok (.invokevirtual 123, 3) := by decide +kernel
theorem dX1_moveLeast_100 : decode cX1_moveLeast 100 = .ok (.lload 8, 2) := by decide +kernel
theorem dX1_moveLeast_102 : decode cX1_moveLeast 102 = .ok (.invokevirtual 69, 3) := by decide +kernel
theorem dX1_moveLeast_105 : decode cX1_moveLeast 105 = .ok (.goto 24, 3) := by decide +kernel
theorem dX1_moveLeast_108 : decode cX1_moveLeast 108 = .ok (.aload_n 0, 1) := by decide +kernel
theorem dX1_moveLeast_109 : decode cX1_moveLeast 109 = .ok (.getfield 37, 3) := by decide +kernel
theorem dX1_moveLeast_112 : decode cX1_moveLeast 112 = .ok (.iload_n 1, 1) := by decide +kernel
theorem dX1_moveLeast_113 : decode cX1_moveLeast 113 = .ok (.invokevirtual 134, 3) := by decide +kernel
theorem dX1_moveLeast_116 : decode cX1_moveLeast 116 = .ok (.ifCond .ne 13, 3) := by decide +kernel
theorem dX1_moveLeast_119 : decode cX1_moveLeast 119 = .ok (.aload_n 0, 1) := by decide +kernel
theorem dX1_moveLeast_120 : decode cX1_moveLeast 120 = .ok (.dup, 1) := by decide +kernel
theorem dX1_moveLeast_121 : decode cX1_moveLeast 121 = .ok (.getfield 59, 3) := by decide +kernel
theorem dX1_moveLeast_124 : decode cX1_moveLeast 124 = .ok (.lload_n 3, 1) := by decide +kernel
theorem dX1_moveLeast_125 : decode cX1_moveLeast 125 = .ok (.ladd, 1) := by decide +kernel
theorem dX1_moveLeast_126 : decode cX1_moveLeast 126 = .ok (.putfield 59, 3) := by decide +kernel
theorem dX1_moveLeast_129 : decode cX1_moveLeast 129 = .ok (.iinc 7 1, 3) := by decide +kernel
theorem dX1_moveLeast_132 : decode cX1_moveLeast 132 = .ok (.goto (-74), 3) := by decide +kernel
theorem dX1_moveLeast_135 : decode cX1_moveLeast 135 = .ok (.return_, 1) := by decide +kernel
theorem dX1_come_0 : decode cX1_come 0 = .ok (.iload_n 1, 1) := by decide +kernel
theorem dX1_come_1 : decode cX1_come 1 = .ok (.ifCond .lt 9, 3) := by decide +kernel
theorem dX1_come_4 : decode cX1_come 4 = .ok (.iload_n 1, 1) := by decide +kernel
theorem dX1_come_5 : decode cX1_come 5 = .ok (.bipush 31, 2) := by decide +kernel
theorem dX1_come_7 : decode cX1_come 7 = .ok (.if_icmp .lt 4, 3) := by decide +kernel
theorem dX1_come_10 : decode cX1_come 10 = .ok (.return_, 1) := by decide +kernel
theorem dX1_come_11 : decode cX1_come 11 = .ok (.iload_n 2, 1) := by decide +kernel
theorem dX1_come_12 : decode cX1_come 12 = .ok (.aload_n 0, 1) := by decide +kernel
theorem dX1_come_13 : decode cX1_come 13 = .ok (.getfield 34, 3) := by decide +kernel
theorem dX1_come_16 : decode cX1_come 16 = .ok (.iload_n 1, 1) := by decide +kernel
theorem dX1_come_17 : decode cX1_come 17 = .ok (.iaload, 1) := by decide +kernel
theorem dX1_come_18 : decode cX1_come 18 = .ok (.iand, 1) := by decide +kernel
theorem dX1_come_19 : decode cX1_come 19 = .ok (.istore 5, 2) := by decide +kernel
theorem dX1_come_21 : decode cX1_come 21 = .ok (.aload_n 0, 1) := by decide +kernel
theorem dX1_come_22 : decode cX1_come 22 = .ok (.iload_n 1, 1) := by decide +kernel
theorem dX1_come_23 : decode cX1_come 23 = .ok (.iload 5, 2) := by decide +kernel
theorem dX1_come_25 : decode cX1_come 25 = .ok (.invokevirtual 127, 3) := by decide +kernel
theorem dX1_come_28 : decode cX1_come 28 = .ok (.istore 6, 2) := by decide +kernel
theorem dX1_come_30 : decode cX1_come 30 = .ok (.aload_n 0, 1) := by decide +kernel
theorem dX1_come_31 : decode cX1_come 31 = .ok (.getfield 28, 3) := by decide +kernel
theorem dX1_come_34 : decode cX1_come 34 = .ok (.iload_n 1, 1) := by decide +kernel
theorem dX1_come_35 : decode cX1_come 35 = .ok (.dup2, 1) := by decide +kernel
theorem dX1_come_36 : decode cX1_come 36 = .ok (.iaload, 1) := by decide +kernel
theorem dX1_come_37 : decode cX1_come 37 = .ok (.iconst 1, 1) := by decide +kernel
theorem dX1_come_38 : decode cX1_come 38 = .ok (.iadd, 1) := by decide +kernel
theorem dX1_come_39 : decode cX1_come 39 = .ok (.iastore, 1) := by decide +kernel
theorem dX1_come_40 : decode cX1_come 40 = .ok (.aload_n 0, 1) := by decide +kernel
theorem dX1_come_41 : decode cX1_come 41 = .ok (.iload_n 1, 1) := by decide +kernel
theorem dX1_come_42 : decode cX1_come 42 = .ok (.iload 5, 2) := by decide +kernel
theorem dX1_come_44 : decode cX1_come 44 = .ok (.iload 6, 2) := by decide +kernel
theorem dX1_come_46 : decode cX1_come 46 = .ok (.invokevirtual 130, 3) := by decide +kernel
theorem dX1_come_49 : decode cX1_come 49 = .ok (.ifCond .eq 29, 3) := by decide +kernel
theorem dX1_come_52 : decode cX1_come 52 = .ok (.aload_n 0, 1) := by decide +kernel
theorem dX1_come_53 : decode cX1_come 53 = .ok (.getfield 18, 3) := by decide +kernel
theorem dX1_come_56 : decode cX1_come 56 = .ok (.iload_n 1, 1) := by decide +kernel
theorem dX1_come_57 : decode cX1_come 57 = .ok (.aaload, 1) := by decide +kernel
theorem dX1_come_58 : decode cX1_come 58 = .ok (.iload 6, 2) := by decide +kernel
theorem dX1_come_60 : decode cX1_come 60 = .ok (.dup2, 1) := by decide +kernel
theorem dX1_come_61 : decode cX1_come 61 = .ok (.laload, 1) := by decide +kernel
theorem dX1_come_62 : decode cX1_come 62 = .ok (.lload_n 3, 1) := by decide +kernel
theorem dX1_come_63 : decode cX1_come 63 = .ok (.ladd, 1) := by decide +kernel
theorem dX1_come_64 : decode cX1_come 64 = .ok (.lastore, 1) := by decide +kernel
theorem dX1_come_65 : decode cX1_come 65 = .ok (.aload_n 0, 1) := by decide +kernel
theorem dX1_come_66 : decode cX1_come 66 = .ok (.getfield 31, 3) := by decide +kernel
theorem dX1_come_69 : decode cX1_come 69 = .ok (.iload_n 1, 1) := by decide +kernel
theorem dX1_come_70 : decode cX1_come 70 = .ok (.dup2, 1) := by decide +kernel
theorem dX1_come_71 : decode cX1_come 71 = .ok (.iaload, 1) := by decide +kernel
theorem dX1_come_72 : decode cX1_come 72 = .ok (.iconst 1, 1) := by decide +kernel
theorem dX1_come_73 : decode cX1_come 73 = .ok (.iadd, 1) := by decide +kernel
theorem dX1_come_74 : decode cX1_come 74 = .ok (.iastore, 1) := by decide +kernel
theorem dX1_come_75 : decode cX1_come 75 = .ok (.goto 13, 3) := by decide +kernel
theorem dX1_come_78 : decode cX1_come 78 = .ok (.aload_n 0, 1) := by decide +kernel
theorem dX1_come_79 : decode cX1_come 79 = .ok (.iload_n 1, 1) := by decide +kernel
theorem dX1_come_80 : decode cX1_come 80 = .ok (.iload 6, 2) := by decide +kernel
theorem dX1_come_82 : decode cX1_come 82 = .ok (.iload 5, 2) := by decide +kernel
theorem dX1_come_84 : decode cX1_come 84 = .ok (.lload_n 3, 1) := by decide +kernel
theorem dX1_come_85 : decode cX1_come 85 = .ok (.invokevirtual 137, 3) := by decide +kernel
theorem dX1_come_88 : decode cX1_come 88 = .ok (.return_, 1) := by decide +kernel
theorem dX1_insert_0 : decode cX1_insert 0 = .ok (.aload_n 0, 1) := by decide +kernel
theorem dX1_insert_1 : decode cX1_insert 1 = .ok (.getfield 25, 3) := by decide +kernel
theorem dX1_insert_4 : decode cX1_insert 4 = .ok (.iload_n 1, 1) := by decide +kernel
theorem dX1_insert_5 : decode cX1_insert 5 = .ok (.iaload, 1) := by decide +kernel
theorem dX1_insert_6 : decode cX1_insert 6 = .ok (.istore 6, 2) := by decide +kernel
theorem dX1_insert_8 : decode cX1_insert 8 = .ok (.iload_n 2, 1) := by decide +kernel
theorem dX1_insert_9 : decode cX1_insert 9 = .ok (.ifCond .lt 17, 3) := by decide +kernel
theorem dX1_insert_12 : decode cX1_insert 12 = .ok (.iload_n 2, 1) := by decide +kernel
theorem dX1_insert_13 : decode cX1_insert 13 = .ok (.iload 6, 2) := by decide +kernel
theorem dX1_insert_15 : decode cX1_insert 15 = .ok (.if_icmp .gt 11, 3) := by decide +kernel
theorem dX1_insert_18 : decode cX1_insert 18 = .ok (.iload 6, 2) := by decide +kernel
theorem dX1_insert_20 : decode cX1_insert 20 = .ok (.sipush 200, 3) := by decide +kernel
theorem dX1_insert_23 : decode cX1_insert 23 = .ok (.if_icmp .lt 4, 3) := by decide +kernel
theorem dX1_insert_26 : decode cX1_insert 26 = .ok (.return_, 1) := by decide +kernel
theorem dX1_insert_27 : decode cX1_insert 27 = .ok (.aload_n 0, 1) := by decide +kernel
theorem dX1_insert_28 : decode cX1_insert 28 = .ok (.getfield 11, 3) := by decide +kernel
theorem dX1_insert_31 : decode cX1_insert 31 = .ok (.iload_n 1, 1) := by decide +kernel
theorem dX1_insert_32 : decode cX1_insert 32 = .ok (.aaload, 1) := by decide +kernel
theorem dX1_insert_33 : decode cX1_insert 33 = .ok (.iload_n 2, 1) := by decide +kernel
theorem dX1_insert_34 : decode cX1_insert 34 = .ok (.aload_n 0, 1) := by decide +kernel
theorem dX1_insert_35 : decode cX1_insert 35 = .ok (.getfield 11, 3) := by decide +kernel
theorem dX1_insert_38 : decode cX1_insert 38 = .ok (.iload_n 1, 1) := by decide +kernel
theorem dX1_insert_39 : decode cX1_insert 39 = .ok (.aaload, 1) := by decide +kernel
theorem dX1_insert_40 : decode cX1_insert 40 = .ok (.iload_n 2, 1) := by decide +kernel
theorem dX1_insert_41 : decode cX1_insert 41 = .ok (.iconst 1, 1) := by decide +kernel
theorem dX1_insert_42 : decode cX1_insert 42 = .ok (.iadd, 1) := by decide +kernel
theorem dX1_insert_43 : decode cX1_insert 43 = .ok (.iload 6, 2) := by decide +kernel
theorem dX1_insert_45 : decode cX1_insert 45 = .ok (.iload_n 2, 1) := by decide +kernel
theorem dX1_insert_46 : decode cX1_insert 46 = .ok (.isub, 1) := by decide +kernel
theorem dX1_insert_47 : decode cX1_insert 47 = .ok (.invokestatic 141, 3) := by decide +kernel
theorem dX1_insert_50 : decode cX1_insert 50 = .ok (.aload_n 0, 1) := by decide +kernel
theorem dX1_insert_51 : decode cX1_insert 51 = .ok (.getfield 18, 3) := by decide +kernel
theorem dX1_insert_54 : decode cX1_insert 54 = .ok (.iload_n 1, 1) := by decide +kernel
theorem dX1_insert_55 : decode cX1_insert 55 = .ok (.aaload, 1) := by decide +kernel
theorem dX1_insert_56 : decode cX1_insert 56 = .ok (.iload_n 2, 1) := by decide +kernel
theorem dX1_insert_57 : decode cX1_insert 57 = .ok (.aload_n 0, 1) := by decide +kernel
theorem dX1_insert_58 : decode cX1_insert 58 = .ok (.getfield 18, 3) := by decide +kernel
theorem dX1_insert_61 : decode cX1_insert 61 = .ok (.iload_n 1, 1) := by decide +kernel
theorem dX1_insert_62 : decode cX1_insert 62 = .ok (.aaload, 1) := by decide +kernel
theorem dX1_insert_63 : decode cX1_insert 63 = .ok (.iload_n 2, 1) := by decide +kernel
theorem dX1_insert_64 : decode cX1_insert 64 = .ok (.iconst 1, 1) := by decide +kernel
theorem dX1_insert_65 : decode cX1_insert 65 = .ok (.iadd, 1) := by decide +kernel
theorem dX1_insert_66 : decode cX1_insert 66 = .ok (.iload 6, 2) := by decide +kernel
theorem dX1_insert_68 : decode cX1_insert 68 = .ok (.iload_n 2, 1) := by decide +kernel
theorem dX1_insert_69 : decode cX1_insert 69 = .ok (.isub, 1) := by decide +kernel
theorem dX1_insert_70 : decode cX1_insert 70 = .ok (.invokestatic 141, 3) := by decide +kernel
theorem dX1_insert_73 : decode cX1_insert 73 = .ok (.aload_n 0, 1) := by decide +kernel
theorem dX1_insert_74 : decode cX1_insert 74 = .ok (.getfield 11, 3) := by decide +kernel
theorem dX1_insert_77 : decode cX1_insert 77 = .ok (.iload_n 1, 1) := by decide +kernel
theorem dX1_insert_78 : decode cX1_insert 78 = .ok (.aaload, 1) := by decide +kernel
theorem dX1_insert_79 : decode cX1_insert 79 = .ok (.iload_n 2, 1) := by decide +kernel
theorem dX1_insert_80 : decode cX1_insert 80 = .ok (.iload_n 3, 1) := by decide +kernel
theorem dX1_insert_81 : decode cX1_insert 81 = .ok (.iastore, 1) := by decide +kernel
theorem dX1_insert_82 : decode cX1_insert 82 = .ok (.aload_n 0, 1) := by decide +kernel
theorem dX1_insert_83 : decode cX1_insert 83 = .ok (.getfield 18, 3) := by decide +kernel
theorem dX1_insert_86 : decode cX1_insert 86 = .ok (.iload_n 1, 1) := by decide +kernel
theorem dX1_insert_87 : decode cX1_insert 87 = .ok (.aaload, 1) := by decide +kernel
theorem dX1_insert_88 : decode cX1_insert 88 = .ok (.iload_n 2, 1) := by decide +kernel
theorem dX1_insert_89 : decode cX1_insert 89 = .ok (.lload 4, 2) := by decide +kernel
theorem dX1_insert_91 : decode cX1_insert 91 = .ok (.lastore, 1) := by decide +kernel
theorem dX1_insert_92 : decode cX1_insert 92 = .ok (.aload_n 0, 1) := by decide +kernel
theorem dX1_insert_93 : decode cX1_insert 93 = .ok (.getfield 25, 3) := by decide +kernel
theorem dX1_insert_96 : decode cX1_insert 96 = .ok (.iload_n 1, 1) := by decide +kernel
theorem dX1_insert_97 : decode cX1_insert 97 = .ok (.iload 6, 2) := by decide +kernel
theorem dX1_insert_99 : decode cX1_insert 99 = .ok (.iconst 1, 1) := by decide +kernel
theorem dX1_insert_100 : decode cX1_insert 100 = .ok (.iadd, 1) := by decide +kernel
theorem dX1_insert_101 : decode cX1_insert 101 = .ok (.iastore, 1) := by decide +kernel
theorem dX1_insert_102 : decode cX1_insert 102 = .ok (.return_, 1) := by decide +kernel
theorem dX1_isThere_0 : decode cX1_isThere 0 = .ok (.iload_n 3, 1) := by decide +kernel
theorem dX1_isThere_1 : decode cX1_isThere 1 = .ok (.ifCond .lt 29, 3) := by decide +kernel
theorem dX1_isThere_4 : decode cX1_isThere 4 = .ok (.iload_n 3, 1) := by decide +kernel
theorem dX1_isThere_5 : decode cX1_isThere 5 = .ok (.aload_n 0, 1) := by decide +kernel
theorem dX1_isThere_6 : decode cX1_isThere 6 = .ok (.getfield 25, 3) := by decide +kernel
theorem dX1_isThere_9 : decode cX1_isThere 9 = .ok (.iload_n 1, 1) := by decide +kernel
theorem dX1_isThere_10 : decode cX1_isThere 10 = .ok (.iaload, 1) := by decide +kernel
theorem dX1_isThere_11 : decode cX1_isThere 11 = .ok (.if_icmp .ge 19, 3) := by decide +kernel
theorem dX1_isThere_14 : decode cX1_isThere 14 = .ok (.aload_n 0, 1) := by decide +kernel
theorem dX1_isThere_15 : decode cX1_isThere 15 = .ok (.getfield 11, 3) := by decide +kernel
theorem dX1_isThere_18 : decode cX1_isThere 18 = .ok (.iload_n 1, 1) := by decide +kernel
theorem dX1_isThere_19 : decode cX1_isThere 19 = .ok (.aaload, 1) := by decide +kernel
theorem dX1_isThere_20 : decode cX1_isThere 20 = .ok (.iload_n 3, 1) := by decide +kernel
theorem dX1_isThere_21 : decode cX1_isThere 21 = .ok (.iaload, 1) := by decide +kernel
theorem dX1_isThere_22 : decode cX1_isThere 22 = .ok (.iload_n 2, 1) := by decide +kernel
theorem dX1_isThere_23 : decode cX1_isThere 23 = .ok (.if_icmp .ne 7, 3) := by decide +kernel
theorem dX1_isThere_26 : decode cX1_isThere 26 = .ok (.iconst 1, 1) := by decide +kernel
theorem dX1_isThere_27 : decode cX1_isThere 27 = .ok (.goto 4, 3) := by decide +kernel
theorem dX1_isThere_30 : decode cX1_isThere 30 = .ok (.iconst 0, 1) := by decide +kernel
theorem dX1_isThere_31 : decode cX1_isThere 31 = .ok (.ireturn, 1) := by decide +kernel
theorem dX1_seat_0 : decode cX1_seat 0 = .ok (.aload_n 0, 1) := by decide +kernel
theorem dX1_seat_1 : decode cX1_seat 1 = .ok (.getfield 21, 3) := by decide +kernel
theorem dX1_seat_4 : decode cX1_seat 4 = .ok (.iload_n 1, 1) := by decide +kernel
theorem dX1_seat_5 : decode cX1_seat 5 = .ok (.iaload, 1) := by decide +kernel
theorem dX1_seat_6 : decode cX1_seat 6 = .ok (.istore_n 3, 1) := by decide +kernel
theorem dX1_seat_7 : decode cX1_seat 7 = .ok (.aload_n 0, 1) := by decide +kernel
theorem dX1_seat_8 : decode cX1_seat 8 = .ok (.getfield 25, 3) := by decide +kernel
theorem dX1_seat_11 : decode cX1_seat 11 = .ok (.iload_n 1, 1) := by decide +kernel
theorem dX1_seat_12 : decode cX1_seat 12 = .ok (.iaload, 1) := by decide +kernel
theorem dX1_seat_13 : decode cX1_seat 13 = .ok (.istore 4, 2) := by decide +kernel
theorem dX1_seat_15 : decode cX1_seat 15 = .ok (.iconst 0, 1) := by decide +kernel
theorem dX1_seat_16 : decode cX1_seat 16 = .ok (.istore 5, 2) := by decide +kernel
theorem dX1_seat_18 : decode cX1_seat 18 = .ok (.iload 5, 2) := by decide +kernel
theorem dX1_seat_20 : decode cX1_seat 20 = .ok (.sipush 200, 3) := by decide +kernel
theorem dX1_seat_23 : decode cX1_seat 23 = .ok (.if_icmp .ge 48, 3) := by decide +kernel
theorem dX1_seat_26 : decode cX1_seat 26 = .ok (.iload_n 3, 1) := by decide +kernel
theorem dX1_seat_27 : decode cX1_seat 27 = .ok (.iload 4, 2) := by decide +kernel
theorem dX1_seat_29 : decode cX1_seat 29 = .ok (.if_icmp .ge 42, 3) := by decide +kernel
theorem dX1_seat_32 : decode cX1_seat 32 = .ok (.iload_n 3, 1) := by decide +kernel
theorem dX1_seat_33 : decode cX1_seat 33 = .ok (.iload 4, 2) := by decide +kernel
theorem dX1_seat_35 : decode cX1_seat 35 = .ok (.iadd, 1) := by decide +kernel
theorem dX1_seat_36 : decode cX1_seat 36 = .ok (.iconst 1, 1) := by decide +kernel
theorem dX1_seat_37 : decode cX1_seat 37 = .ok (.ishr, 1) := by decide +kernel
theorem dX1_seat_38 : decode cX1_seat 38 = .ok (.istore 6, 2) := by decide +kernel
theorem dX1_seat_40 : decode cX1_seat 40 = .ok (.aload_n 0, 1) := by decide +kernel
theorem dX1_seat_41 : decode cX1_seat 41 = .ok (.getfield 11, 3) := by decide +kernel
theorem dX1_seat_44 : decode cX1_seat 44 = .ok (.iload_n 1, 1) := by decide +kernel
theorem dX1_seat_45 : decode cX1_seat 45 = .ok (.aaload, 1) := by decide +kernel
theorem dX1_seat_46 : decode cX1_seat 46 = .ok (.iload 6, 2) := by decide +kernel
theorem dX1_seat_48 : decode cX1_seat 48 = .ok (.iaload, 1) := by decide +kernel
theorem dX1_seat_49 : decode cX1_seat 49 = .ok (.iload_n 2, 1) := by decide +kernel
theorem dX1_seat_50 : decode cX1_seat 50 = .ok (.if_icmp .ge 11, 3) := by decide +kernel
theorem dX1_seat_53 : decode cX1_seat 53 = .ok (.iload 6, 2) := by decide +kernel
theorem dX1_seat_55 : decode cX1_seat 55 = .ok (.iconst 1, 1) := by decide +kernel
theorem dX1_seat_56 : decode cX1_seat 56 = .ok (.iadd, 1) := by decide +kernel
theorem dX1_seat_57 : decode cX1_seat 57 = .ok (.istore_n 3, 1) := by decide +kernel
theorem dX1_seat_58 : decode cX1_seat 58 = .ok (.goto 7, 3) := by decide +kernel
theorem dX1_seat_61 : decode cX1_seat 61 = .ok (.iload 6, 2) := by decide +kernel
theorem dX1_seat_63 : decode cX1_seat 63 = .ok (.istore 4, 2) := by decide +kernel
theorem dX1_seat_65 : decode cX1_seat 65 = .ok (.iinc 5 1, 3) := by decide +kernel
theorem dX1_seat_68 : decode cX1_seat 68 = .ok (.goto (-50), 3) := by decide +kernel
theorem dX1_seat_71 : decode cX1_seat 71 = .ok (.iload_n 3, 1) := by decide +kernel
theorem dX1_seat_72 : decode cX1_seat 72 = .ok (.ireturn, 1) := by decide +kernel
theorem dX2_init_0 : decode cX2_init 0 = .ok (.aload_n 0, 1) := by decide +kernel
theorem dX2_init_1 : decode cX2_init 1 = .ok (.invokespecial 3, 3) := by decide +kernel
theorem dX2_init_4 : decode cX2_init 4 = .ok (.aload_n 0, 1) := by decide +kernel
theorem dX2_init_5 : decode cX2_init 5 = .ok (.bipush 30, 2) := by decide +kernel
theorem dX2_init_7 : decode cX2_init 7 = .ok (.newarray .int, 2) := by decide +kernel
theorem dX2_init_9 : decode cX2_init 9 = .ok (.putfield 9, 3) := by decide +kernel
theorem dX2_init_12 : decode cX2_init 12 = .ok (.aload_n 0, 1) := by decide +kernel
theorem dX2_init_13 : decode cX2_init 13 = .ok (.bipush 30, 2) := by decide +kernel
theorem dX2_init_15 : decode cX2_init 15 = .ok (.newarray .int, 2) := by decide +kernel
theorem dX2_init_17 : decode cX2_init 17 = .ok (.putfield 15, 3) := by decide +kernel
theorem dX2_init_20 : decode cX2_init 20 = .ok (.aload_n 0, 1) := by decide +kernel
theorem dX2_init_21 : decode cX2_init 21 = .ok (.bipush 30, 2) := by decide +kernel
theorem dX2_init_23 : decode cX2_init 23 = .ok (.newarray .int, 2) := by decide +kernel
theorem dX2_init_25 : decode cX2_init 25 = .ok (.putfield 18, 3) := by decide +kernel
theorem dX2_init_28 : decode cX2_init 28 = .ok (.aload_n 0, 1) := by decide +kernel
theorem dX2_init_29 : decode cX2_init 29 = .ok (.bipush 30, 2) := by decide +kernel
theorem dX2_init_31 : decode cX2_init 31 = .ok (.newarray .int, 2) := by decide +kernel
theorem dX2_init_33 : decode cX2_init 33 = .ok (.putfield 21, 3) := by decide +kernel
theorem dX2_init_36 : decode cX2_init 36 = .ok (.aload_n 0, 1) := by decide +kernel
theorem dX2_init_37 : decode cX2_init 37 = .ok (.bipush 30, 2) := by decide +kernel
theorem dX2_init_39 : decode cX2_init 39 = .ok (.newarray .int, 2) := by decide +kernel
theorem dX2_init_41 : decode cX2_init 41 = .ok (.putfield 24, 3) := by decide +kernel
theorem dX2_init_44 : decode cX2_init 44 = .ok (.aload_n 0, 1) := by decide +kernel
theorem dX2_init_45 : decode cX2_init 45 = .ok (.iconst 4, 1) := by decide +kernel
theorem dX2_init_46 : decode cX2_init 46 = .ok (.bipush 10, 2) := by decide +kernel
theorem dX2_init_48 : decode cX2_init 48 = .ok (.multianewarray 27 2, 4) := by decide +kernel
theorem dX2_init_52 : decode cX2_init 52 = .ok (.putfield 29, 3) := by decide +kernel
theorem dX2_init_55 : decode cX2_init 55 = .ok (.aload_n 0, 1) := by decide +kernel
theorem dX2_init_56 : decode cX2_init 56 = .ok (.bipush 31, 2) := by decide +kernel
theorem dX2_init_58 : decode cX2_init 58 = .ok (.newarray .int, 2) := by decide +kernel
theorem dX2_init_60 : decode cX2_init 60 = .ok (.putfield 32, 3) := by decide +kernel
theorem dX2_init_63 : decode cX2_init 63 = .ok (.aload_n 0, 1) := by decide +kernel
theorem dX2_init_64 : decode cX2_init 64 = .ok (.invokevirtual 35, 3) := by decide +kernel
theorem dX2_init_67 : decode cX2_init 67 = .ok (.return_, 1) := by decide +kernel
theorem dX2_reset_0 : decode cX2_reset 0 = .ok (.aload_n 0, 1) := by decide +kernel
theorem dX2_reset_1 : decode cX2_reset 1 = .ok (.iconst 0, 1) := by decide +kernel
theorem dX2_reset_2 : decode cX2_reset 2 = .ok (.putfield 38, 3) := by decide +kernel
theorem dX2_reset_5 : decode cX2_reset 5 = .ok (.aload_n 0, 1) := by decide +kernel
theorem dX2_reset_6 : decode cX2_reset 6 = .ok (.iconst 0, 1) := by decide +kernel
theorem dX2_reset_7 : decode cX2_reset 7 = .ok (.putfield 42, 3) := by decide +kernel
theorem dX2_reset_10 : decode cX2_reset 10 = .ok (.aload_n 0, 1) := by decide +kernel
theorem dX2_reset_11 : decode cX2_reset 11 = .ok (.iconst 0, 1) := by decide +kernel
theorem dX2_reset_12 : decode cX2_reset 12 = .ok (.putfield 45, 3) := by decide +kernel
theorem dX2_reset_15 : decode cX2_reset 15 = .ok (.aload_n 0, 1) := by decide +kernel
theorem dX2_reset_16 : decode cX2_reset 16 = .ok (.iconst 0, 1) := by decide +kernel
theorem dX2_reset_17 : decode cX2_reset 17 = .ok (.putfield 48, 3) := by decide +kernel
theorem dX2_reset_20 : decode cX2_reset 20 = .ok (.iconst 0, 1) := by decide +kernel
theorem dX2_reset_21 : decode cX2_reset 21 = .ok (.istore_n 1, 1) := by decide +kernel
theorem dX2_reset_22 : decode cX2_reset 22 = .ok (.iload_n 1, 1) := by decide +kernel
theorem dX2_reset_23 : decode cX2_reset 23 = .ok (.iconst 4, 1) := by decide +kernel
theorem dX2_reset_24 : decode cX2_reset 24 = .ok (.if_icmp .ge 41, 3) := by decide +kernel
theorem dX2_reset_27 : decode cX2_reset 27 = .ok (.iconst 0, 1) := by decide +kernel
theorem dX2_reset_28 : decode cX2_reset 28 = .ok (.istore_n 2, 1) := by decide +kernel
theorem dX2_reset_29 : decode cX2_reset 29 = .ok (.iload_n 2, 1) := by decide +kernel
theorem dX2_reset_30 : decode cX2_reset 30 = .ok (.bipush 10, 2) := by decide +kernel
theorem dX2_reset_32 : decode cX2_reset 32 = .ok (.if_icmp .ge 27, 3) := by decide +kernel
theorem dX2_reset_35 : decode cX2_reset 35 = .ok (.aload_n 0, 1) := by decide +kernel
theorem dX2_reset_36 : decode cX2_reset 36 = .ok (.getfield 29, 3) := by decide +kernel
theorem dX2_reset_39 : decode cX2_reset 39 = .ok (.iload_n 1, 1) := by decide +kernel
theorem dX2_reset_40 : decode cX2_reset 40 = .ok (.aaload, 1) := by decide +kernel
theorem dX2_reset_41 : decode cX2_reset 41 = .ok (.iload_n 2, 1) := by decide +kernel
theorem dX2_reset_42 : decode cX2_reset 42 = .ok (.iload_n 2, 1) := by decide +kernel
theorem dX2_reset_43 : decode cX2_reset 43 = .ok (.ifCond .ne 8, 3) := by decide +kernel
theorem dX2_reset_46 : decode cX2_reset 46 = .ok (.bipush 60, 2) := by decide +kernel
theorem dX2_reset_48 : decode cX2_reset 48 = .ok (.goto 4, 3) := by decide +kernel
theorem dX2_reset_51 : decode cX2_reset 51 = .ok (.iconst 0, 1) := by decide +kernel
theorem dX2_reset_52 : decode cX2_reset 52 = .ok (.iastore, 1) := by decide +kernel
theorem dX2_reset_53 : decode cX2_reset 53 = .ok (.iinc 2 1, 3) := by decide +kernel
theorem dX2_reset_56 : decode cX2_reset 56 = .ok (.goto (-27), 3) := by decide +kernel
theorem dX2_reset_59 : decode cX2_reset 59 = .ok (.iinc 1 1, 3) := by decide +kernel
theorem dX2_reset_62 : decode cX2_reset 62 = .ok (.goto (-40), 3) := by decide +kernel
theorem dX2_reset_65 : decode cX2_reset 65 = .ok (.return_, 1) := by decide +kernel
theorem dX2_swapWeight_0 : decode cX2_swapWeight 0 = .ok (.iload_n 1, 1) := by decide +kernel
theorem dX2_swapWeight_1 : decode cX2_swapWeight 1 = .ok (.invokestatic 51, 3) := by decide +kernel
theorem dX2_swapWeight_4 : decode cX2_swapWeight 4 = .ok (.ifCond .eq 10, 3) := by decide +kernel
theorem dX2_swapWeight_7 : decode cX2_swapWeight 7 = .ok (.iload_n 2, 1) := by decide +kernel
theorem dX2_swapWeight_8 : decode cX2_swapWeight 8 = .ok (.invokestatic 55, 3) := by decide +kernel
theorem dX2_swapWeight_11 : decode cX2_swapWeight 11 = .ok (.ifCond .ne 5, 3) := by decide +kernel
theorem dX2_swapWeight_14 : decode cX2_swapWeight 14 = .ok (.iconst (-1), 1) := by decide +kernel
theorem dX2_swapWeight_15 : decode cX2_swapWeight 15 = .ok (.ireturn, 1) := by decide +kernel
theorem dX2_swapWeight_16 : decode cX2_swapWeight 16 = .ok (.aload_n 0, 1) := by decide +kernel
theorem dX2_swapWeight_17 : decode cX2_swapWeight 17 = .ok (.getfield 29, 3) := by decide +kernel
theorem dX2_swapWeight_20 : decode cX2_swapWeight 20 = .ok (.iload_n 1, 1) := by decide +kernel
theorem dX2_swapWeight_21 : decode cX2_swapWeight 21 = .ok (.aaload, 1) := by decide +kernel
theorem dX2_swapWeight_22 : decode cX2_swapWeight 22 = .ok (.iload_n 2, 1) := by decide +kernel
theorem dX2_swapWeight_23 : decode cX2_swapWeight 23 = .ok (.iaload, 1) := by decide +kernel
theorem dX2_swapWeight_24 : decode cX2_swapWeight 24 = .ok (.istore 4, 2) := by decide +kernel
theorem dX2_swapWeight_26 : decode cX2_swapWeight 26 = .ok (.aload_n 0, 1) := by decide +kernel
theorem dX2_swapWeight_27 : decode cX2_swapWeight 27 = .ok (.getfield 29, 3) := by decide +kernel
theorem dX2_swapWeight_30 : decode cX2_swapWeight 30 = .ok (.iload_n 1, 1) := by decide +kernel
theorem dX2_swapWeight_31 : decode cX2_swapWeight 31 = .ok (.aaload, 1) := by decide +kernel
theorem dX2_swapWeight_32 : decode cX2_swapWeight 32 = .ok (.iload_n 2, 1) := by decide +kernel
theorem dX2_swapWeight_33 : decode cX2_swapWeight 33 = .ok (.iload_n 3, 1) := by decide +kernel
theorem dX2_swapWeight_34 : decode cX2_swapWeight 34 = .ok (.iastore, 1) := by decide +kernel
theorem dX2_swapWeight_35 : decode cX2_swapWeight 35 = .ok (.iload 4, 2) := by decide +kernel
theorem dX2_swapWeight_37 : decode cX2_swapWeight 37 = .ok (.ireturn, 1) := by decide +kernel
theorem dX2_isAsked_0 : decode cX2_isAsked 0 = .ok (.aload_n 0, 1) := by decide +kernel
theorem dX2_isAsked_1 : decode cX2_isAsked 1 = .ok (.getfield 48, 3) := by decide +kernel
theorem dX2_isAsked_4 : decode cX2_isAsked 4 = .ok (.iconst 1, 1) := by decide +kernel
theorem dX2_isAsked_5 : decode cX2_isAsked 5 = .ok (.iload_n 1, 1) := by decide +kernel
theorem dX2_isAsked_6 : decode cX2_isAsked 6 = .ok (.ishl, 1) := by decide +kernel
theorem dX2_isAsked_7 : decode cX2_isAsked 7 = .ok (.iand, 1) := by decide +kernel
theorem dX2_isAsked_8 : decode cX2_isAsked 8 = .ok (.ifCond .eq 7, 3) := by decide +kernel
theorem dX2_isAsked_11 : decode cX2_isAsked 11 = .ok (.iconst 1, 1) := by decide +kernel
theorem dX2_isAsked_12 : decode cX2_isAsked 12 = .ok (.goto 4, 3) := by decide +kernel
theorem dX2_isAsked_15 : decode cX2_isAsked 15 = .ok (.iconst 0, 1) := by decide +kernel
theorem dX2_isAsked_16 : decode cX2_isAsked 16 = .ok (.ireturn, 1) := by decide +kernel
theorem dX2_swapAsked_0 : decode cX2_swapAsked 0 = .ok (.aload_n 0, 1) := by decide +kernel
theorem dX2_swapAsked_1 : decode cX2_swapAsked 1 = .ok (.iload_n 1, 1) := by decide +kernel
theorem dX2_swapAsked_2 : decode cX2_swapAsked 2 = .ok (.invokevirtual 58, 3) := by decide +kernel
theorem dX2_swapAsked_5 : decode cX2_swapAsked 5 = .ok (.istore_n 3, 1) := by decide +kernel
theorem dX2_swapAsked_6 : decode cX2_swapAsked 6 = .ok (.aload_n 0, 1) := by decide +kernel
theorem dX2_swapAsked_7 : decode cX2_swapAsked 7 = .ok (.iload_n 2, 1) := by decide +kernel
theorem dX2_swapAsked_8 : decode cX2_swapAsked 8 = .ok (.ifCond .eq 14, 3) := by decide +kernel
theorem dX2_swapAsked_11 : decode cX2_swapAsked 11 = .ok (.aload_n 0, 1) := by decide +kernel
theorem dX2_swapAsked_12 : decode cX2_swapAsked 12 = .ok (.getfield 48, 3) := by decide +kernel
theorem dX2_swapAsked_15 : decode cX2_swapAsked 15 = .ok (.iconst 1, 1) := by decide +kernel
theorem dX2_swapAsked_16 : decode cX2_swapAsked 16 = .ok (.iload_n 1, 1) := by decide +kernel
theorem dX2_swapAsked_17 : decode cX2_swapAsked 17 = .ok (.ishl, 1) := by decide +kernel
theorem dX2_swapAsked_18 : decode cX2_swapAsked 18 = .ok (.ior, 1) := by decide +kernel
theorem dX2_swapAsked_19 : decode cX2_swapAsked 19 = .ok (.goto 13, 3) := by decide +kernel
theorem dX2_swapAsked_22 : decode cX2_swapAsked 22 = .ok (.aload_n 0, 1) := by decide +kernel
theorem dX2_swapAsked_23 : decode cX2_swapAsked 23 = .ok (.getfield 48, 3) := by decide +kernel
theorem dX2_swapAsked_26 : decode cX2_swapAsked 26 = .ok (.iconst 1, 1) := by decide +kernel
theorem dX2_swapAsked_27 : decode cX2_swapAsked 27 = .ok (.iload_n 1, 1) := by decide +kernel
theorem dX2_swapAsked_28 : decode cX2_swapAsked 28 = .ok (.ishl, 1) := by decide +kernel
theorem dX2_swapAsked_29 : decode cX2_swapAsked 29 = .ok (.iconst (-1), 1) := by decide +kernel
theorem dX2_swapAsked_30 : decode cX2_swapAsked 30 = .ok (.ixor, 1) := by decide +kernel
theorem dX2_swapAsked_31 : decode cX2_swapAsked 31 = .ok (.iand, 1) := by decide +kernel
theorem dX2_swapAsked_32 : decode cX2_swapAsked 32 = .ok (.putfield 48, 3) := by decide +kernel
theorem dX2_swapAsked_35 : decode cX2_swapAsked 35 = .ok (.iload_n 3, 1) := by decide +kernel
theorem dX2_swapAsked_36 : decode cX2_swapAsked 36 = .ok (.ireturn, 1) := by decide +kernel
theorem dX2_isFullFor_0 : decode cX2_isFullFor 0 = .ok (.aload_n 0, 1) := by decide +kernel
theorem dX2_isFullFor_1 : decode cX2_isFullFor 1 = .ok (.getfield 38, 3) := by decide +kernel
theorem dX2_isFullFor_4 : decode cX2_isFullFor 4 = .ok (.bipush 30, 2) := by decide +kernel
theorem dX2_isFullFor_6 : decode cX2_isFullFor 6 = .ok (.if_icmp .ge 29, 3) := by decide +kernel
theorem dX2_isFullFor_9 : decode cX2_isFullFor 9 = .ok (.iload_n 1, 1) := by decide +kernel
theorem dX2_isFullFor_10 : decode cX2_isFullFor 10 = .ok (.ifCond .ne 12, 3) := by decide +kernel
theorem dX2_isFullFor_13 : decode cX2_isFullFor 13 = .ok (.aload_n 0, 1) := by decide +kernel
theorem dX2_isFullFor_14 : decode cX2_isFullFor 14 = .ok (.getfield 42, 3) := by decide +kernel
theorem dX2_isFullFor_17 : decode cX2_isFullFor 17 = .ok (.bipush 8, 2) := by decide +kernel
theorem dX2_isFullFor_19 : decode cX2_isFullFor 19 = .ok (.if_icmp .ge 16, 3) := by decide +kernel
theorem dX2_isFullFor_22 : decode cX2_isFullFor 22 = .ok (.iload_n 1, 1) := by decide +kernel
theorem dX2_isFullFor_23 : decode cX2_isFullFor 23 = .ok (.iconst 3, 1) := by decide +kernel
theorem dX2_isFullFor_24 : decode cX2_isFullFor 24 = .ok (.if_icmp .ne 15, 3) := by decide +kernel
theorem dX2_isFullFor_27 : decode cX2_isFullFor 27 = .ok (.aload_n 0, 1) := by decide +kernel
theorem dX2_isFullFor_28 : decode cX2_isFullFor 28 = .ok (.getfield 45, 3) := by decide +kernel
theorem dX2_isFullFor_31 : decode cX2_isFullFor 31 = .ok (.iconst 3, 1) := by decide +kernel
theorem dX2_isFullFor_32 : decode cX2_isFullFor 32 = .ok (.if_icmp .lt 7, 3) := by decide +kernel
theorem dX2_isFullFor_35 : decode cX2_isFullFor 35 = .ok (.iconst 1, 1) := by decide +kernel
theorem dX2_isFullFor_36 : decode cX2_isFullFor 36 = .ok (.goto 4, 3) := by decide +kernel
theorem dX2_isFullFor_39 : decode cX2_isFullFor 39 = .ok (.iconst 0, 1) := by decide +kernel
theorem dX2_isFullFor_40 : decode cX2_isFullFor 40 = .ok (.ireturn, 1) := by decide +kernel
theorem dX2_append_0 : decode cX2_append 0 = .ok (.aload_n 0, 1) := by decide +kernel
theorem dX2_append_1 : decode cX2_append 1 = .ok (.getfield 38, 3) := by decide +kernel
theorem dX2_append_4 : decode cX2_append 4 = .ok (.istore 6, 2) := by decide +kernel
theorem dX2_append_6 : decode cX2_append 6 = .ok (.iload 6, 2) := by decide +kernel
theorem dX2_append_8 : decode cX2_append 8 = .ok (.ifCond .lt 10, 3) := by decide +kernel
theorem dX2_append_11 : decode cX2_append 11 = .ok (.iload 6, 2) := by decide +kernel
theorem dX2_append_13 : decode cX2_append 13 = .ok (.bipush 30, 2) := by decide +kernel
theorem dX2_append_15 : decode cX2_append 15 = .ok (.if_icmp .lt 6, 3) := by decide +kernel
theorem dX2_append_18 : decode cX2_append 18 = .ok (.bipush (-2), 2) := by decide +kernel
theorem dX2_append_20 : decode cX2_append 20 = .ok (.ireturn, 1) := by decide +kernel
theorem dX2_append_21 : decode cX2_append 21 = .ok (.aload_n 0, 1) := by decide +kernel
theorem dX2_append_22 : decode cX2_append 22 = .ok (.getfield 9, 3) := by decide +kernel
theorem dX2_append_25 : decode cX2_append 25 = .ok (.iload 6, 2) := by decide +kernel
theorem dX2_append_27 : decode cX2_append 27 = .ok (.iload_n 1, 1) := by decide +kernel
theorem dX2_append_28 : decode cX2_append 28 = .ok (.iastore, 1) := by decide +kernel
theorem dX2_append_29 : decode cX2_append 29 = .ok (.aload_n 0, 1) := by decide +kernel
theorem dX2_append_30 : decode cX2_append 30 = .ok (.getfield 15, 3) := by decide +kernel
theorem dX2_append_33 : decode cX2_append 33 = .ok (.iload 6, 2) := by decide +kernel
theorem dX2_append_35 : decode cX2_append 35 = .ok (.iload_n 2, 1) := by decide +kernel
theorem dX2_append_36 : decode cX2_append 36 = .ok (.iastore, 1) := by decide +kernel
theorem dX2_append_37 : decode cX2_append 37 = .ok (.aload_n 0, 1) := by decide +kernel
theorem dX2_append_38 : decode cX2_append 38 = .ok (.getfield 18, 3) := by decide +kernel
theorem dX2_append_41 : decode cX2_append 41 = .ok (.iload 6, 2) := by decide +kernel
theorem dX2_append_43 : decode cX2_append 43 = .ok (.iload_n 3, 1) := by decide +kernel
theorem dX2_append_44 : decode cX2_append 44 = .ok (.iastore, 1) := by decide +kernel
theorem dX2_append_45 : decode cX2_append 45 = .ok (.aload_n 0, 1) := by decide +kernel
theorem dX2_append_46 : decode cX2_append 46 = .ok (.getfield 21, 3) := by decide +kernel
theorem dX2_append_49 : decode cX2_append 49 = .ok (.iload 6, 2) := by decide +kernel
theorem dX2_append_51 : decode cX2_append 51 = .ok (.iload 4, 2) := by decide +kernel
theorem dX2_append_53 : decode cX2_append 53 = .ok (.iastore, 1) := by decide +kernel
theorem dX2_append_54 : decode cX2_append 54 = .ok (.aload_n 0, 1) := by decide +kernel
theorem dX2_append_55 : decode cX2_append 55 = .ok (.getfield 24, 3) := by decide +kernel
theorem dX2_append_58 : decode cX2_append 58 = .ok (.iload 6, 2) := by decide +kernel
theorem dX2_append_60 : decode cX2_append 60 = .ok (.iload 5, 2) := by decide +kernel
theorem dX2_append_62 : decode cX2_append 62 = .ok (.iastore, 1) := by decide +kernel
theorem dX2_append_63 : decode cX2_append 63 = .ok (.aload_n 0, 1) := by decide +kernel
theorem dX2_append_64 : decode cX2_append 64 = .ok (.iload 6, 2) := by decide +kernel
theorem dX2_append_66 : decode cX2_append 66 = .ok (.iconst 1, 1) := by decide +kernel
theorem dX2_append_67 : decode cX2_append 67 = .ok (.iadd, 1) := by decide +kernel
theorem dX2_append_68 : decode cX2_append 68 = .ok (.putfield 38, 3) := by decide +kernel
theorem dX2_append_71 : decode cX2_append 71 = .ok (.aload_n 0, 1) := by decide +kernel
theorem dX2_append_72 : decode cX2_append 72 = .ok (.iload_n 1, 1) := by decide +kernel
theorem dX2_append_73 : decode cX2_append 73 = .ok (.iconst 1, 1) := by decide +kernel
theorem dX2_append_74 : decode cX2_append 74 = .ok (.invokevirtual 61, 3) := by decide +kernel
theorem dX2_append_77 : decode cX2_append 77 = .ok (.iload 6, 2) := by decide +kernel
theorem dX2_append_79 : decode cX2_append 79 = .ok (.ireturn, 1) := by decide +kernel
theorem dX2_removeLast_0 : decode cX2_removeLast 0 = .ok (.aload_n 0, 1) := by decide +kernel
theorem dX2_removeLast_1 : decode cX2_removeLast 1 = .ok (.getfield 38, 3) := by decide +kernel
theorem dX2_removeLast_4 : decode cX2_removeLast 4 = .ok (.iconst 1, 1) := by decide +kernel
theorem dX2_removeLast_5 : decode cX2_removeLast 5 = .ok (.isub, 1) := by decide +kernel
theorem dX2_removeLast_6 : decode cX2_removeLast 6 = .ok (.istore_n 1, 1) := by decide +kernel
theorem dX2_removeLast_7 : decode cX2_removeLast 7 = .ok (.aload_n 0, 1) := by decide +kernel
theorem dX2_removeLast_8 : decode cX2_removeLast 8 = .ok (.iload_n 1, 1) := by decide +kernel
theorem dX2_removeLast_9 : decode cX2_removeLast 9 = .ok (.invokevirtual 65, 3) := by decide +kernel
theorem dX2_removeLast_12 : decode cX2_removeLast 12 = .ok (.ifCond .ne 6, 3) := by decide +kernel
theorem dX2_removeLast_15 : decode cX2_removeLast 15 = .ok (.bipush (-3), 2) := by decide +kernel
theorem dX2_removeLast_17 : decode cX2_removeLast 17 = .ok (.ireturn, 1) := by decide +kernel
theorem dX2_removeLast_18 : decode cX2_removeLast 18 = .ok (.aload_n 0, 1) := by decide +kernel
theorem dX2_removeLast_19 : decode cX2_removeLast 19 = .ok (.aload_n 0, 1) := by decide +kernel
theorem dX2_removeLast_20 : decode cX2_removeLast 20 = .ok (.getfield 9, 3) := by decide +kernel
theorem dX2_removeLast_23 : decode cX2_removeLast 23 = .ok (.iload_n 1, 1) := by decide +kernel
theorem dX2_removeLast_24 : decode cX2_removeLast 24 = .ok (.iaload, 1) := by decide +kernel
theorem dX2_removeLast_25 : decode cX2_removeLast 25 = .ok (.iconst (-1), 1) := by decide +kernel
theorem dX2_removeLast_26 : decode cX2_removeLast 26 = .ok (.invokevirtual 61, 3) := by decide +kernel
theorem dX2_removeLast_29 : decode cX2_removeLast 29 = .ok (.aload_n 0, 1) := by decide +kernel
theorem dX2_removeLast_30 : decode cX2_removeLast 30 = .ok (.iload_n 1, 1) := by decide +kernel
theorem dX2_removeLast_31 : decode cX2_removeLast 31 = .ok (.putfield 38, 3) := by decide +kernel
theorem dX2_removeLast_34 : decode cX2_removeLast 34 = .ok (.iload_n 1, 1) := by decide +kernel
theorem dX2_removeLast_35 : decode cX2_removeLast 35 = .ok (.ireturn, 1) := by decide +kernel
theorem dX2_countKind_0 : decode cX2_countKind 0 = .ok (.iload_n 1, 1) := by decide +kernel
theorem dX2_countKind_1 : decode cX2_countKind 1 = .ok (.ifCond .ne 16, 3) := by decide +kernel
theorem dX2_countKind_4 : decode cX2_countKind 4 = .ok (.aload_n 0, 1) := by decide +kernel
theorem dX2_countKind_5 : decode cX2_countKind 5 = .ok (.dup, 1) := by decide +kernel
theorem dX2_countKind_6 : decode cX2_countKind 6 = .ok (.getfield 42, 3) := by decide +kernel
theorem dX2_countKind_9 : decode cX2_countKind 9 = .ok (.iload_n 2, 1) := by decide +kernel
theorem dX2_countKind_10 : decode cX2_countKind 10 = .ok (.iadd, 1) := by decide +kernel
theorem dX2_countKind_11 : decode cX2_countKind 11 = .ok (.putfield 42, 3) := by decide +kernel
theorem dX2_countKind_14 : decode cX2_countKind 14 = .ok (.goto 18, 3) := by decide +kernel
theorem dX2_countKind_17 : decode cX2_countKind 17 = .ok (.iload_n 1, 1) := by decide +kernel
theorem dX2_countKind_18 : decode cX2_countKind 18 = .ok (.iconst 3, 1) := by decide +kernel
theorem dX2_countKind_19 : decode cX2_countKind 19 = .ok (.if_icmp .ne 13, 3) := by decide +kernel
theorem dX2_countKind_22 : decode cX2_countKind 22 = .ok (.aload_n 0, 1) := by decide +kernel
theorem dX2_countKind_23 : decode cX2_countKind 23 = .ok (.dup, 1) := by decide +kernel
theorem dX2_countKind_24 : decode cX2_countKind 24 = .ok (.getfield 45, 3) := by decide +kernel
theorem dX2_countKind_27 : decode cX2_countKind 27 = .ok (.iload_n 2, 1) := by decide +kernel
theorem dX2_countKind_28 : decode cX2_countKind 28 = .ok (.iadd, 1) := by decide +kernel
theorem dX2_countKind_29 : decode cX2_countKind 29 = .ok (.putfield 45, 3) := by decide +kernel
theorem dX2_countKind_32 : decode cX2_countKind 32 = .ok (.return_, 1) := by decide +kernel
theorem dX2_isStep_0 : decode cX2_isStep 0 = .ok (.iload_n 1, 1) := by decide +kernel
theorem dX2_isStep_1 : decode cX2_isStep 1 = .ok (.ifCond .lt 21, 3) := by decide +kernel
theorem dX2_isStep_4 : decode cX2_isStep 4 = .ok (.iload_n 1, 1) := by decide +kernel
theorem dX2_isStep_5 : decode cX2_isStep 5 = .ok (.aload_n 0, 1) := by decide +kernel
theorem dX2_isStep_6 : decode cX2_isStep 6 = .ok (.getfield 38, 3) := by decide +kernel
theorem dX2_isStep_9 : decode cX2_isStep 9 = .ok (.if_icmp .ge 13, 3) := by decide +kernel
theorem dX2_isStep_12 : decode cX2_isStep 12 = .ok (.iload_n 1, 1) := by decide +kernel
theorem dX2_isStep_13 : decode cX2_isStep 13 = .ok (.bipush 30, 2) := by decide +kernel
theorem dX2_isStep_15 : decode cX2_isStep 15 = .ok (.if_icmp .ge 7, 3) := by decide +kernel
theorem dX2_isStep_18 : decode cX2_isStep 18 = .ok (.iconst 1, 1) := by decide +kernel
theorem dX2_isStep_19 : decode cX2_isStep 19 = .ok (.goto 4, 3) := by decide +kernel
theorem dX2_isStep_22 : decode cX2_isStep 22 = .ok (.iconst 0, 1) := by decide +kernel
theorem dX2_isStep_23 : decode cX2_isStep 23 = .ok (.ireturn, 1) := by decide +kernel
theorem dX2_isDraw_0 : decode cX2_isDraw 0 = .ok (.aload_n 0, 1) := by decide +kernel
theorem dX2_isDraw_1 : decode cX2_isDraw 1 = .ok (.iload_n 1, 1) := by decide +kernel
theorem dX2_isDraw_2 : decode cX2_isDraw 2 = .ok (.invokevirtual 65, 3) := by decide +kernel
theorem dX2_isDraw_5 : decode cX2_isDraw 5 = .ok (.ifCond .eq 16, 3) := by decide +kernel
theorem dX2_isDraw_8 : decode cX2_isDraw 8 = .ok (.aload_n 0, 1) := by decide +kernel
theorem dX2_isDraw_9 : decode cX2_isDraw 9 = .ok (.getfield 9, 3) := by decide +kernel
theorem dX2_isDraw_12 : decode cX2_isDraw 12 = .ok (.iload_n 1, 1) := by decide +kernel
theorem dX2_isDraw_13 : decode cX2_isDraw 13 = .ok (.iaload, 1) := by decide +kernel
theorem dX2_isDraw_14 : decode cX2_isDraw 14 = .ok (.ifCond .ne 7, 3) := by decide +kernel
theorem dX2_isDraw_17 : decode cX2_isDraw 17 = .ok (.iconst 1, 1) := by decide +kernel
theorem dX2_isDraw_18 : decode cX2_isDraw 18 = .ok (.goto 4, 3) := by decide +kernel
theorem dX2_isDraw_21 : decode cX2_isDraw 21 = .ok (.iconst 0, 1) := by decide +kernel
theorem dX2_isDraw_22 : decode cX2_isDraw 22 = .ok (.ireturn, 1) := by decide +kernel
theorem dX2_isUneven_0 : decode cX2_isUneven 0 = .ok (.iconst 0, 1) := by decide +kernel
theorem dX2_isUneven_1 : decode cX2_isUneven 1 = .ok (.istore_n 1, 1) := by decide +kernel
theorem dX2_isUneven_2 : decode cX2_isUneven 2 = .ok (.iload_n 1, 1) := by decide +kernel
theorem dX2_isUneven_3 : decode cX2_isUneven 3 = .ok (.aload_n 0, 1) := by decide +kernel
theorem dX2_isUneven_4 : decode cX2_isUneven 4 = .ok (.getfield 38, 3) := by decide +kernel
theorem dX2_isUneven_7 : decode cX2_isUneven 7 = .ok (.if_icmp .ge 34, 3) := by decide +kernel
theorem dX2_isUneven_10 : decode cX2_isUneven 10 = .ok (.aload_n 0, 1) := by decide +kernel
theorem dX2_isUneven_11 : decode cX2_isUneven 11 = .ok (.iload_n 1, 1) := by decide +kernel
theorem dX2_isUneven_12 : decode cX2_isUneven 12 = .ok (.invokevirtual 68, 3) := by decide +kernel
theorem dX2_isUneven_15 : decode cX2_isUneven 15 = .ok (.ifCond .eq 20, 3) := by decide +kernel
theorem dX2_isUneven_18 : decode cX2_isUneven 18 = .ok (.aload_n 0, 1) := by decide +kernel
theorem dX2_isUneven_19 : decode cX2_isUneven 19 = .ok (.aload_n 0, 1) := by decide +kernel
theorem dX2_isUneven_20 : decode cX2_isUneven 20 = .ok (.getfield 18, 3) := by decide +kernel
theorem dX2_isUneven_23 : decode cX2_isUneven 23 = .ok (.iload_n 1, 1) := by decide +kernel
theorem dX2_isUneven_24 : decode cX2_isUneven 24 = .ok (.iaload, 1) := by decide +kernel
theorem dX2_isUneven_25 : decode cX2_isUneven 25 = .ok (.invokevirtual 71, 3) := by decide +kernel
theorem dX2_isUneven_28 : decode cX2_isUneven 28 = .ok (.bipush 60, 2) := by decide +kernel
theorem dX2_isUneven_30 : decode cX2_isUneven 30 = .ok (.if_icmp .eq 5, 3) := by decide +kernel
theorem dX2_isUneven_33 : decode cX2_isUneven 33 = .ok (.iconst 1, 1) := by decide +kernel
theorem dX2_isUneven_34 : decode cX2_isUneven 34 = .ok (.ireturn, 1) := by decide +kernel
theorem dX2_isUneven_35 : decode cX2_isUneven 35 = .ok (.iinc 1 1, 3) := by decide +kernel
theorem dX2_isUneven_38 : decode cX2_isUneven 38 = .ok (.goto (-36), 3) := by decide +kernel
theorem dX2_isUneven_41 : decode cX2_isUneven 41 = .ok (.iconst 0, 1) := by decide +kernel
theorem dX2_isUneven_42 : decode cX2_isUneven 42 = .ok (.ireturn, 1) := by decide +kernel
theorem dX2_rowTotal_0 : decode cX2_rowTotal 0 = .ok (.iconst 0, 1) := by decide +kernel
theorem dX2_rowTotal_1 : decode cX2_rowTotal 1 = .ok (.istore_n 2, 1) := by decide +kernel
theorem dX2_rowTotal_2 : decode cX2_rowTotal 2 = .ok (.iconst 0, 1) := by decide +kernel
theorem dX2_rowTotal_3 : decode cX2_rowTotal 3 = .ok (.istore_n 3, 1) := by decide +kernel
theorem dX2_rowTotal_4 : decode cX2_rowTotal 4 = .ok (.iload_n 3, 1) := by decide +kernel
theorem dX2_rowTotal_5 : decode cX2_rowTotal 5 = .ok (.bipush 10, 2) := by decide +kernel
theorem dX2_rowTotal_7 : decode cX2_rowTotal 7 = .ok (.if_icmp .ge 18, 3) := by decide +kernel
theorem dX2_rowTotal_10 : decode cX2_rowTotal 10 = .ok (.iload_n 2, 1) := by decide +kernel
theorem dX2_rowTotal_11 : decode cX2_rowTotal 11 = .ok (.aload_n 0, 1) := by decide +kernel
theorem dX2_rowTotal_12 : decode cX2_rowTotal 12 = .ok (.iload_n 1, 1) := by decide +kernel
theorem dX2_rowTotal_13 : decode cX2_rowTotal 13 = .ok (.iload_n 3, 1) := by decide +kernel
theorem dX2_rowTotal_14 : decode cX2_rowTotal 14 = .ok (.invokevirtual 75, 3) := by decide +kernel
theorem dX2_rowTotal_17 : decode cX2_rowTotal 17 = .ok (.iadd, 1) := by decide +kernel
theorem dX2_rowTotal_18 : decode cX2_rowTotal 18 = .ok (.istore_n 2, 1) := by decide +kernel
theorem dX2_rowTotal_19 : decode cX2_rowTotal 19 = .ok (.iinc 3 1, 3) := by decide +kernel
theorem dX2_rowTotal_22 : decode cX2_rowTotal 22 = .ok (.goto (-18), 3) := by decide +kernel
theorem dX2_rowTotal_25 : decode cX2_rowTotal 25 = .ok (.iload_n 2, 1) := by decide +kernel
theorem dX2_rowTotal_26 : decode cX2_rowTotal 26 = .ok (.ireturn, 1) := by decide +kernel
theorem dX2_weightOf_0 : decode cX2_weightOf 0 = .ok (.iload_n 1, 1) := by decide +kernel
theorem dX2_weightOf_1 : decode cX2_weightOf 1 = .ok (.invokestatic 51, 3) := by decide +kernel
theorem dX2_weightOf_4 : decode cX2_weightOf 4 = .ok (.ifCond .eq 21, 3) := by decide +kernel
theorem dX2_weightOf_7 : decode cX2_weightOf 7 = .ok (.iload_n 2, 1) := by decide +kernel
theorem dX2_weightOf_8 : decode cX2_weightOf 8 = .ok (.invokestatic 55, 3) := by decide +kernel
theorem dX2_weightOf_11 : decode cX2_weightOf 11 = .ok (.ifCond .eq 14, 3) := by decide +kernel
theorem dX2_weightOf_14 : decode cX2_weightOf 14 = .ok (.aload_n 0, 1) := by decide +kernel
theorem dX2_weightOf_15 : decode cX2_weightOf 15 = .ok (.getfield 29, 3) := by decide +kernel
theorem dX2_weightOf_18 : decode cX2_weightOf 18 = .ok (.iload_n 1, 1) := by decide +kernel
theorem dX2_weightOf_19 : decode cX2_weightOf 19 = .ok (.aaload, 1) := by decide +kernel
theorem dX2_weightOf_20 : decode cX2_weightOf 20 = .ok (.iload_n 2, 1) := by decide +kernel
theorem dX2_weightOf_21 : decode cX2_weightOf 21 = .ok (.iaload, 1) := by decide +kernel
theorem dX2_weightOf_22 : decode cX2_weightOf 22 = .ok (.goto 4, 3) := by decide +kernel
theorem dX2_weightOf_25 : decode cX2_weightOf 25 = .ok (.iconst 0, 1) := by decide +kernel
theorem dX2_weightOf_26 : decode cX2_weightOf 26 = .ok (.ireturn, 1) := by decide +kernel
theorem dX2_markLive_0 : decode cX2_markLive 0 = .ok (.aload_n 0, 1) := by decide +kernel
theorem dX2_markLive_1 : decode cX2_markLive 1 = .ok (.getfield 38, 3) := by decide +kernel
theorem dX2_markLive_4 : decode cX2_markLive 4 = .ok (.istore_n 1, 1) := by decide +kernel
theorem dX2_markLive_5 : decode cX2_markLive 5 = .ok (.iload_n 1, 1) := by decide +kernel
theorem dX2_markLive_6 : decode cX2_markLive 6 = .ok (.ifCond .lt 41, 3) := by decide +kernel
theorem dX2_markLive_9 : decode cX2_markLive 9 = .ok (.iload_n 1, 1) := by decide +kernel
theorem dX2_markLive_10 : decode cX2_markLive 10 = .ok (.bipush 31, 2) := by decide +kernel
theorem dX2_markLive_12 : decode cX2_markLive 12 = .ok (.if_icmp .ge 29, 3) := by decide +kernel
theorem dX2_markLive_15 : decode cX2_markLive 15 = .ok (.aload_n 0, 1) := by decide +kernel
theorem dX2_markLive_16 : decode cX2_markLive 16 = .ok (.getfield 32, 3) := by decide +kernel
theorem dX2_markLive_19 : decode cX2_markLive 19 = .ok (.iload_n 1, 1) := by decide +kernel
theorem dX2_markLive_20 : decode cX2_markLive 20 = .ok (.aload_n 0, 1) := by decide +kernel
theorem dX2_markLive_21 : decode cX2_markLive 21 = .ok (.iload_n 1, 1) := by decide +kernel
theorem dX2_markLive_22 : decode cX2_markLive 22 = .ok (.invokevirtual 65, 3) := by decide +kernel
theorem dX2_markLive_25 : decode cX2_markLive 25 = .ok (.ifCond .eq 11, 3) := by decide +kernel
theorem dX2_markLive_28 : decode cX2_markLive 28 = .ok (.aload_n 0, 1) := by decide +kernel
theorem dX2_markLive_29 : decode cX2_markLive 29 = .ok (.iload_n 1, 1) := by decide +kernel
theorem dX2_markLive_30 : decode cX2_markLive 30 = .ok (.invokevirtual 79, 3) := by decide +kernel
end
section
theorem dX2_markLive_33 : decode cX2_markLive 33 = .ok (.goto 7, 3) := by decide +kernel
theorem dX2_markLive_36 : decode cX2_markLive 36 = .ok (.aload_n 0, 1) := by decide +kernel
theorem dX2_markLive_37 : decode cX2_markLive 37 = .ok (.getfield 48, 3) := by decide +kernel
theorem dX2_markLive_40 : decode cX2_markLive 40 = .ok (.iastore, 1) := by decide +kernel
theorem dX2_markLive_41 : decode cX2_markLive 41 = .ok (.iinc 1 (-1), 3) := by decide +kernel
theorem dX2_markLive_44 : decode cX2_markLive 44 = .ok (.goto (-39), 3) := by decide +kernel
theorem dX2_markLive_47 : decode cX2_markLive 47 = .ok (.return_, 1) := by decide +kernel
theorem dX2_liveAt_0 : decode cX2_liveAt 0 = .ok (.iload_n 1, 1) := by decide +kernel
theorem dX2_liveAt_1 : decode cX2_liveAt 1 = .ok (.ifCond .lt 18, 3) := by decide +kernel
theorem dX2_liveAt_4 : decode cX2_liveAt 4 = .ok (.iload_n 1, 1) := by decide +kernel
theorem dX2_liveAt_5 : decode cX2_liveAt 5 = .ok (.bipush 31, 2) := by decide +kernel
theorem dX2_liveAt_7 : decode cX2_liveAt 7 = .ok (.if_icmp .ge 12, 3) := by decide +kernel
theorem dX2_liveAt_10 : decode cX2_liveAt 10 = .ok (.aload_n 0, 1) := by decide +kernel
theorem dX2_liveAt_11 : decode cX2_liveAt 11 = .ok (.getfield 32, 3) := by decide +kernel
theorem dX2_liveAt_14 : decode cX2_liveAt 14 = .ok (.iload_n 1, 1) := by decide +kernel
theorem dX2_liveAt_15 : decode cX2_liveAt 15 = .ok (.iaload, 1) := by decide +kernel
theorem dX2_liveAt_16 : decode cX2_liveAt 16 = .ok (.goto 4, 3) := by decide +kernel
theorem dX2_liveAt_19 : decode cX2_liveAt 19 = .ok (.iconst 0, 1) := by decide +kernel
theorem dX2_liveAt_20 : decode cX2_liveAt 20 = .ok (.ireturn, 1) := by decide +kernel
theorem dX2_liveAtStep_0 : decode cX2_liveAtStep 0 = .ok (.aload_n 0, 1) := by decide +kernel
theorem dX2_liveAtStep_1 : decode cX2_liveAtStep 1 = .ok (.iload_n 1, 1) := by decide +kernel
theorem dX2_liveAtStep_2 : decode cX2_liveAtStep 2 = .ok (.iconst 1, 1) := by decide +kernel
theorem dX2_liveAtStep_3 : decode cX2_liveAtStep 3 = .ok (.iadd, 1) := by decide +kernel
theorem dX2_liveAtStep_4 : decode cX2_liveAtStep 4 = .ok (.invokevirtual 82, 3) := by decide +kernel
theorem dX2_liveAtStep_7 : decode cX2_liveAtStep 7 = .ok (.istore_n 2, 1) := by decide +kernel
theorem dX2_liveAtStep_8 : decode cX2_liveAtStep 8 = .ok (.aload_n 0, 1) := by decide +kernel
theorem dX2_liveAtStep_9 : decode cX2_liveAtStep 9 = .ok (.getfield 9, 3) := by decide +kernel
theorem dX2_liveAtStep_12 : decode cX2_liveAtStep 12 = .ok (.iload_n 1, 1) := by decide +kernel
theorem dX2_liveAtStep_13 : decode cX2_liveAtStep 13 = .ok (.iaload, 1) := by decide +kernel
theorem dX2_liveAtStep_14 : decode cX2_liveAtStep 14 = .ok (.istore_n 3, 1) := by decide +kernel
theorem dX2_liveAtStep_15 : decode cX2_liveAtStep 15 = .ok (.iconst 1, 1) := by decide +kernel
theorem dX2_liveAtStep_16 : decode cX2_liveAtStep 16 = .ok (.aload_n 0, 1) := by decide +kernel
theorem dX2_liveAtStep_17 : decode cX2_liveAtStep 17 = .ok (.getfield 15, 3) := by decide +kernel
theorem dX2_liveAtStep_20 : decode cX2_liveAtStep 20 = .ok (.iload_n 1, 1) := by decide +kernel
theorem dX2_liveAtStep_21 : decode cX2_liveAtStep 21 = .ok (.iaload, 1) := by decide +kernel
theorem dX2_liveAtStep_22 : decode cX2_liveAtStep 22 = .ok (.ishl, 1) := by decide +kernel
theorem dX2_liveAtStep_23 : decode cX2_liveAtStep 23 = .ok (.istore 4, 2) := by decide +kernel
theorem dX2_liveAtStep_25 : decode cX2_liveAtStep 25 = .ok (.iload_n 3, 1) := by decide +kernel
theorem dX2_liveAtStep_26 : decode cX2_liveAtStep 26 = .ok (.iconst 4, 1) := by decide +kernel
theorem dX2_liveAtStep_27 : decode cX2_liveAtStep 27 = .ok (.if_icmp .ne 18, 3) := by decide +kernel
theorem dX2_liveAtStep_30 : decode cX2_liveAtStep 30 = .ok (.iload_n 2, 1) := by decide +kernel
theorem dX2_liveAtStep_31 : decode cX2_liveAtStep 31 = .ok (.aload_n 0, 1) := by decide +kernel
theorem dX2_liveAtStep_32 : decode cX2_liveAtStep 32 = .ok (.aload_n 0, 1) := by decide +kernel
theorem dX2_liveAtStep_33 : decode cX2_liveAtStep 33 = .ok (.iload_n 1, 1) := by decide +kernel
theorem dX2_liveAtStep_34 : decode cX2_liveAtStep 34 = .ok (.invokevirtual 85, 3) := by decide +kernel
theorem dX2_liveAtStep_37 : decode cX2_liveAtStep 37 = .ok (.invokevirtual 82, 3) := by decide +kernel
theorem dX2_liveAtStep_40 : decode cX2_liveAtStep 40 = .ok (.ior, 1) := by decide +kernel
theorem dX2_liveAtStep_41 : decode cX2_liveAtStep 41 = .ok (.istore_n 2, 1) := by decide +kernel
theorem dX2_liveAtStep_42 : decode cX2_liveAtStep 42 = .ok (.goto 43, 3) := by decide +kernel
theorem dX2_liveAtStep_45 : decode cX2_liveAtStep 45 = .ok (.iload_n 3, 1) := by decide +kernel
theorem dX2_liveAtStep_46 : decode cX2_liveAtStep 46 = .ok (.iconst 1, 1) := by decide +kernel
theorem dX2_liveAtStep_47 : decode cX2_liveAtStep 47 = .ok (.if_icmp .ne 22, 3) := by decide +kernel
theorem dX2_liveAtStep_50 : decode cX2_liveAtStep 50 = .ok (.aload_n 0, 1) := by decide +kernel
theorem dX2_liveAtStep_51 : decode cX2_liveAtStep 51 = .ok (.getfield 18, 3) := by decide +kernel
theorem dX2_liveAtStep_54 : decode cX2_liveAtStep 54 = .ok (.iload_n 1, 1) := by decide +kernel
theorem dX2_liveAtStep_55 : decode cX2_liveAtStep 55 = .ok (.iaload, 1) := by decide +kernel
theorem dX2_liveAtStep_56 : decode cX2_liveAtStep 56 = .ok (.bipush 6, 2) := by decide +kernel
theorem dX2_liveAtStep_58 : decode cX2_liveAtStep 58 = .ok (.if_icmp .ne 11, 3) := by decide +kernel
theorem dX2_liveAtStep_61 : decode cX2_liveAtStep 61 = .ok (.iload_n 2, 1) := by decide +kernel
theorem dX2_liveAtStep_62 : decode cX2_liveAtStep 62 = .ok (.iload 4, 2) := by decide +kernel
theorem dX2_liveAtStep_64 : decode cX2_liveAtStep 64 = .ok (.ior, 1) := by decide +kernel
theorem dX2_liveAtStep_65 : decode cX2_liveAtStep 65 = .ok (.istore_n 2, 1) := by decide +kernel
theorem dX2_liveAtStep_66 : decode cX2_liveAtStep 66 = .ok (.goto 19, 3) := by decide +kernel
theorem dX2_liveAtStep_69 : decode cX2_liveAtStep 69 = .ok (.iload_n 3, 1) := by decide +kernel
theorem dX2_liveAtStep_70 : decode cX2_liveAtStep 70 = .ok (.iconst 1, 1) := by decide +kernel
theorem dX2_liveAtStep_71 : decode cX2_liveAtStep 71 = .ok (.if_icmp .eq 7, 3) := by decide +kernel
theorem dX2_liveAtStep_74 : decode cX2_liveAtStep 74 = .ok (.iload_n 3, 1) := by decide +kernel
theorem dX2_liveAtStep_75 : decode cX2_liveAtStep 75 = .ok (.ifCond .ne 10, 3) := by decide +kernel
theorem dX2_liveAtStep_78 : decode cX2_liveAtStep 78 = .ok (.iload_n 2, 1) := by decide +kernel
theorem dX2_liveAtStep_79 : decode cX2_liveAtStep 79 = .ok (.iload 4, 2) := by decide +kernel
theorem dX2_liveAtStep_81 : decode cX2_liveAtStep 81 = .ok (.iconst (-1), 1) := by decide +kernel
theorem dX2_liveAtStep_82 : decode cX2_liveAtStep 82 = .ok (.ixor, 1) := by decide +kernel
theorem dX2_liveAtStep_83 : decode cX2_liveAtStep 83 = .ok (.iand, 1) := by decide +kernel
theorem dX2_liveAtStep_84 : decode cX2_liveAtStep 84 = .ok (.istore_n 2, 1) := by decide +kernel
theorem dX2_liveAtStep_85 : decode cX2_liveAtStep 85 = .ok (.iload_n 2, 1) := by decide +kernel
theorem dX2_liveAtStep_86 : decode cX2_liveAtStep 86 = .ok (.aload_n 0, 1) := by decide +kernel
theorem dX2_liveAtStep_87 : decode cX2_liveAtStep 87 = .ok (.getfield 21, 3) := by decide +kernel
theorem dX2_liveAtStep_90 : decode cX2_liveAtStep 90 = .ok (.iload_n 1, 1) := by decide +kernel
theorem dX2_liveAtStep_91 : decode cX2_liveAtStep 91 = .ok (.iaload, 1) := by decide +kernel
theorem dX2_liveAtStep_92 : decode cX2_liveAtStep 92 = .ok (.invokestatic 88, 3) := by decide +kernel
theorem dX2_liveAtStep_95 : decode cX2_liveAtStep 95 = .ok (.ior, 1) := by decide +kernel
theorem dX2_liveAtStep_96 : decode cX2_liveAtStep 96 = .ok (.aload_n 0, 1) := by decide +kernel
theorem dX2_liveAtStep_97 : decode cX2_liveAtStep 97 = .ok (.getfield 24, 3) := by decide +kernel
theorem dX2_liveAtStep_100 : decode cX2_liveAtStep 100 = .ok (.iload_n 1, 1) := by decide +kernel
theorem dX2_liveAtStep_101 : decode cX2_liveAtStep 101 = .ok (.iaload, 1) := by decide +kernel
theorem dX2_liveAtStep_102 : decode cX2_liveAtStep 102 = .ok (.invokestatic 88, 3) := by decide +kernel
theorem dX2_liveAtStep_105 : decode cX2_liveAtStep 105 = .ok (.ior, 1) := by decide +kernel
theorem dX2_liveAtStep_106 : decode cX2_liveAtStep 106 = .ok (.ireturn, 1) := by decide +kernel
theorem dX2_variableOf_0 : decode cX2_variableOf 0 = .ok (.iload_n 0, 1) := by decide +kernel
theorem dX2_variableOf_1 : decode cX2_variableOf 1 = .ok (.invokestatic 91, 3) := by decide +kernel
theorem dX2_variableOf_4 : decode cX2_variableOf 4 = .ok (.ifCond .eq 9, 3) := by decide +kernel
theorem dX2_variableOf_7 : decode cX2_variableOf 7 = .ok (.iconst 1, 1) := by decide +kernel
theorem dX2_variableOf_8 : decode cX2_variableOf 8 = .ok (.iload_n 0, 1) := by decide +kernel
theorem dX2_variableOf_9 : decode cX2_variableOf 9 = .ok (.ishl, 1) := by decide +kernel
theorem dX2_variableOf_10 : decode cX2_variableOf 10 = .ok (.goto 4, 3) := by decide +kernel
theorem dX2_variableOf_13 : decode cX2_variableOf 13 = .ok (.iconst 0, 1) := by decide +kernel
theorem dX2_variableOf_14 : decode cX2_variableOf 14 = .ok (.ireturn, 1) := by decide +kernel
theorem dX2_termValue_0 : decode cX2_termValue 0 = .ok (.iload_n 0, 1) := by decide +kernel
theorem dX2_termValue_1 : decode cX2_termValue 1 = .ok (.invokestatic 91, 3) := by decide +kernel
theorem dX2_termValue_4 : decode cX2_termValue 4 = .ok (.ifCond .eq 11, 3) := by decide +kernel
theorem dX2_termValue_7 : decode cX2_termValue 7 = .ok (.iload_n 1, 1) := by decide +kernel
theorem dX2_termValue_8 : decode cX2_termValue 8 = .ok (.iload_n 0, 1) := by decide +kernel
theorem dX2_termValue_9 : decode cX2_termValue 9 = .ok (.invokestatic 94, 3) := by decide +kernel
theorem dX2_termValue_12 : decode cX2_termValue 12 = .ok (.goto 7, 3) := by decide +kernel
theorem dX2_termValue_15 : decode cX2_termValue 15 = .ok (.iload_n 0, 1) := by decide +kernel
theorem dX2_termValue_16 : decode cX2_termValue 16 = .ok (.bipush 10, 2) := by decide +kernel
theorem dX2_termValue_18 : decode cX2_termValue 18 = .ok (.isub, 1) := by decide +kernel
theorem dX2_termValue_19 : decode cX2_termValue 19 = .ok (.ireturn, 1) := by decide +kernel
theorem dX2_placeSkippedTo_0 : decode cX2_placeSkippedTo 0 = .ok (.iload_n 1, 1) := by decide +kernel
theorem dX2_placeSkippedTo_1 : decode cX2_placeSkippedTo 1 = .ok (.iconst 1, 1) := by decide +kernel
theorem dX2_placeSkippedTo_2 : decode cX2_placeSkippedTo 2 = .ok (.iadd, 1) := by decide +kernel
theorem dX2_placeSkippedTo_3 : decode cX2_placeSkippedTo 3 = .ok (.aload_n 0, 1) := by decide +kernel
theorem dX2_placeSkippedTo_4 : decode cX2_placeSkippedTo 4 = .ok (.getfield 18, 3) := by decide +kernel
theorem dX2_placeSkippedTo_7 : decode cX2_placeSkippedTo 7 = .ok (.iload_n 1, 1) := by decide +kernel
theorem dX2_placeSkippedTo_8 : decode cX2_placeSkippedTo 8 = .ok (.iaload, 1) := by decide +kernel
theorem dX2_placeSkippedTo_9 : decode cX2_placeSkippedTo 9 = .ok (.iadd, 1) := by decide +kernel
theorem dX2_placeSkippedTo_10 : decode cX2_placeSkippedTo 10 = .ok (.aload_n 0, 1) := by decide +kernel
theorem dX2_placeSkippedTo_11 : decode cX2_placeSkippedTo 11 = .ok (.getfield 38, 3) := by decide +kernel
theorem dX2_placeSkippedTo_14 : decode cX2_placeSkippedTo 14 = .ok (.invokestatic 99, 3) := by decide +kernel
theorem dX2_placeSkippedTo_17 : decode cX2_placeSkippedTo 17 = .ok (.ireturn, 1) := by decide +kernel
theorem dX2_ways_0 : decode cX2_ways 0 = .ok (.aload_n 0, 1) := by decide +kernel
theorem dX2_ways_1 : decode cX2_ways 1 = .ok (.iload_n 1, 1) := by decide +kernel
theorem dX2_ways_2 : decode cX2_ways 2 = .ok (.invokevirtual 68, 3) := by decide +kernel
theorem dX2_ways_5 : decode cX2_ways 5 = .ok (.ifCond .eq 8, 3) := by decide +kernel
theorem dX2_ways_8 : decode cX2_ways 8 = .ok (.bipush 10, 2) := by decide +kernel
theorem dX2_ways_10 : decode cX2_ways 10 = .ok (.goto 4, 3) := by decide +kernel
theorem dX2_ways_13 : decode cX2_ways 13 = .ok (.iconst 1, 1) := by decide +kernel
theorem dX2_ways_14 : decode cX2_ways 14 = .ok (.ireturn, 1) := by decide +kernel
theorem dX2_placeBehind_0 : decode cX2_placeBehind 0 = .ok (.aload_n 0, 1) := by decide +kernel
theorem dX2_placeBehind_1 : decode cX2_placeBehind 1 = .ok (.iload_n 1, 1) := by decide +kernel
theorem dX2_placeBehind_2 : decode cX2_placeBehind 2 = .ok (.invokevirtual 65, 3) := by decide +kernel
theorem dX2_placeBehind_5 : decode cX2_placeBehind 5 = .ok (.ifCond .eq 32, 3) := by decide +kernel
theorem dX2_placeBehind_8 : decode cX2_placeBehind 8 = .ok (.aload_n 0, 1) := by decide +kernel
theorem dX2_placeBehind_9 : decode cX2_placeBehind 9 = .ok (.getfield 9, 3) := by decide +kernel
theorem dX2_placeBehind_12 : decode cX2_placeBehind 12 = .ok (.iload_n 1, 1) := by decide +kernel
theorem dX2_placeBehind_13 : decode cX2_placeBehind 13 = .ok (.iaload, 1) := by decide +kernel
theorem dX2_placeBehind_14 : decode cX2_placeBehind 14 = .ok (.iconst 4, 1) := by decide +kernel
theorem dX2_placeBehind_15 : decode cX2_placeBehind 15 = .ok (.if_icmp .ne 22, 3) := by decide +kernel
theorem dX2_placeBehind_18 : decode cX2_placeBehind 18 = .ok (.aload_n 0, 1) := by decide +kernel
theorem dX2_placeBehind_19 : decode cX2_placeBehind 19 = .ok (.getfield 21, 3) := by decide +kernel
theorem dX2_placeBehind_22 : decode cX2_placeBehind 22 = .ok (.iload_n 1, 1) := by decide +kernel
theorem dX2_placeBehind_23 : decode cX2_placeBehind 23 = .ok (.iaload, 1) := by decide +kernel
theorem dX2_placeBehind_24 : decode cX2_placeBehind 24 = .ok (.iload_n 2, 1) := by decide +kernel
theorem dX2_placeBehind_25 : decode cX2_placeBehind 25 = .ok (.invokestatic 104, 3) := by decide +kernel
theorem dX2_placeBehind_28 : decode cX2_placeBehind 28 = .ok (.ifCond .ne 9, 3) := by decide +kernel
theorem dX2_placeBehind_31 : decode cX2_placeBehind 31 = .ok (.aload_n 0, 1) := by decide +kernel
theorem dX2_placeBehind_32 : decode cX2_placeBehind 32 = .ok (.iload_n 1, 1) := by decide +kernel
theorem dX2_placeBehind_33 : decode cX2_placeBehind 33 = .ok (.invokevirtual 85, 3) := by decide +kernel
theorem dX2_placeBehind_36 : decode cX2_placeBehind 36 = .ok (.ireturn, 1) := by decide +kernel
theorem dX2_placeBehind_37 : decode cX2_placeBehind 37 = .ok (.iload_n 1, 1) := by decide +kernel
theorem dX2_placeBehind_38 : decode cX2_placeBehind 38 = .ok (.iconst 1, 1) := by decide +kernel
theorem dX2_placeBehind_39 : decode cX2_placeBehind 39 = .ok (.iadd, 1) := by decide +kernel
theorem dX2_placeBehind_40 : decode cX2_placeBehind 40 = .ok (.ireturn, 1) := by decide +kernel
theorem dX2_massBehind_0 : decode cX2_massBehind 0 = .ok (.aload_n 0, 1) := by decide +kernel
theorem dX2_massBehind_1 : decode cX2_massBehind 1 = .ok (.iload_n 1, 1) := by decide +kernel
theorem dX2_massBehind_2 : decode cX2_massBehind 2 = .ok (.invokevirtual 65, 3) := by decide +kernel
theorem dX2_massBehind_5 : decode cX2_massBehind 5 = .ok (.ifCond .ne 6, 3) := by decide +kernel
theorem dX2_massBehind_8 : decode cX2_massBehind 8 = .ok (.lload 4, 2) := by decide +kernel
theorem dX2_massBehind_10 : decode cX2_massBehind 10 = .ok (.lreturn, 1) := by decide +kernel
theorem dX2_massBehind_11 : decode cX2_massBehind 11 = .ok (.aload_n 0, 1) := by decide +kernel
theorem dX2_massBehind_12 : decode cX2_massBehind 12 = .ok (.getfield 21, 3) := by decide +kernel
theorem dX2_massBehind_15 : decode cX2_massBehind 15 = .ok (.iload_n 1, 1) := by decide +kernel
theorem dX2_massBehind_16 : decode cX2_massBehind 16 = .ok (.iaload, 1) := by decide +kernel
theorem dX2_massBehind_17 : decode cX2_massBehind 17 = .ok (.iload_n 3, 1) := by decide +kernel
theorem dX2_massBehind_18 : decode cX2_massBehind 18 = .ok (.invokestatic 104, 3) := by decide +kernel
theorem dX2_massBehind_21 : decode cX2_massBehind 21 = .ok (.istore 6, 2) := by decide +kernel
theorem dX2_massBehind_23 : decode cX2_massBehind 23 = .ok (.aload_n 0, 1) := by decide +kernel
theorem dX2_massBehind_24 : decode cX2_massBehind 24 = .ok (.getfield 9, 3) := by decide +kernel
theorem dX2_massBehind_27 : decode cX2_massBehind 27 = .ok (.iload_n 1, 1) := by decide +kernel
theorem dX2_massBehind_28 : decode cX2_massBehind 28 = .ok (.iaload, 1) := by decide +kernel
theorem dX2_massBehind_29 : decode cX2_massBehind 29 = .ok (.tableswitch 89 0 3 #[31, 89, 51, 82], 31) := by decide +kernel
theorem dX2_massBehind_60 : decode cX2_massBehind 60 = .ok (.lload 4, 2) := by decide +kernel
theorem dX2_massBehind_62 : decode cX2_massBehind 62 = .ok (.aload_n 0, 1) := by decide +kernel
theorem dX2_massBehind_63 : decode cX2_massBehind 63 = .ok (.aload_n 0, 1) := by decide +kernel
theorem dX2_massBehind_64 : decode cX2_massBehind 64 = .ok (.getfield 18, 3) := by decide +kernel
theorem dX2_massBehind_67 : decode cX2_massBehind 67 = .ok (.iload_n 1, 1) := by decide +kernel
theorem dX2_massBehind_68 : decode cX2_massBehind 68 = .ok (.iaload, 1) := by decide +kernel
theorem dX2_massBehind_69 : decode cX2_massBehind 69 = .ok (.iload_n 2, 1) := by decide +kernel
theorem dX2_massBehind_70 : decode cX2_massBehind 70 = .ok (.invokevirtual 75, 3) := by decide +kernel
theorem dX2_massBehind_73 : decode cX2_massBehind 73 = .ok (.i2l, 1) := by decide +kernel
theorem dX2_massBehind_74 : decode cX2_massBehind 74 = .ok (.lmul, 1) := by decide +kernel
theorem dX2_massBehind_75 : decode cX2_massBehind 75 = .ok (.ldc2_w 107, 3) := by decide +kernel
theorem dX2_massBehind_78 : decode cX2_massBehind 78 = .ok (.ldiv, 1) := by decide +kernel
theorem dX2_massBehind_79 : decode cX2_massBehind 79 = .ok (.lreturn, 1) := by decide +kernel
theorem dX2_massBehind_80 : decode cX2_massBehind 80 = .ok (.aload_n 0, 1) := by decide +kernel
theorem dX2_massBehind_81 : decode cX2_massBehind 81 = .ok (.getfield 18, 3) := by decide +kernel
theorem dX2_massBehind_84 : decode cX2_massBehind 84 = .ok (.iload_n 1, 1) := by decide +kernel
theorem dX2_massBehind_85 : decode cX2_massBehind 85 = .ok (.iaload, 1) := by decide +kernel
theorem dX2_massBehind_86 : decode cX2_massBehind 86 = .ok (.iload 6, 2) := by decide +kernel
theorem dX2_massBehind_88 : decode cX2_massBehind 88 = .ok (.aload_n 0, 1) := by decide +kernel
theorem dX2_massBehind_89 : decode cX2_massBehind 89 = .ok (.getfield 24, 3) := by decide +kernel
theorem dX2_massBehind_92 : decode cX2_massBehind 92 = .ok (.iload_n 1, 1) := by decide +kernel
theorem dX2_massBehind_93 : decode cX2_massBehind 93 = .ok (.iaload, 1) := by decide +kernel
theorem dX2_massBehind_94 : decode cX2_massBehind 94 = .ok (.iload_n 3, 1) := by decide +kernel
theorem dX2_massBehind_95 : decode cX2_massBehind 95 = .ok (.invokestatic 104, 3) := by decide +kernel
theorem dX2_massBehind_98 : decode cX2_massBehind 98 = .ok (.invokestatic 109, 3) := by decide +kernel
theorem dX2_massBehind_101 : decode cX2_massBehind 101 = .ok (.ifCond .eq 8, 3) := by decide +kernel
theorem dX2_massBehind_104 : decode cX2_massBehind 104 = .ok (.lload 4, 2) := by decide +kernel
theorem dX2_massBehind_106 : decode cX2_massBehind 106 = .ok (.goto 4, 3) := by decide +kernel
theorem dX2_massBehind_109 : decode cX2_massBehind 109 = .ok (.lconst 0, 1) := by decide +kernel
theorem dX2_massBehind_110 : decode cX2_massBehind 110 = .ok (.lreturn, 1) := by decide +kernel
theorem dX2_massBehind_111 : decode cX2_massBehind 111 = .ok (.lload 4, 2) := by decide +kernel
theorem dX2_massBehind_113 : decode cX2_massBehind 113 = .ok (.iload 6, 2) := by decide +kernel
theorem dX2_massBehind_115 : decode cX2_massBehind 115 = .ok (.i2l, 1) := by decide +kernel
theorem dX2_massBehind_116 : decode cX2_massBehind 116 = .ok (.lmul, 1) := by decide +kernel
theorem dX2_massBehind_117 : decode cX2_massBehind 117 = .ok (.lreturn, 1) := by decide +kernel
theorem dX2_massBehind_118 : decode cX2_massBehind 118 = .ok (.lload 4, 2) := by decide +kernel
theorem dX2_massBehind_120 : decode cX2_massBehind 120 = .ok (.lreturn, 1) := by decide +kernel
theorem dX2_heldBehind_0 : decode cX2_heldBehind 0 = .ok (.aload_n 0, 1) := by decide +kernel
theorem dX2_heldBehind_1 : decode cX2_heldBehind 1 = .ok (.iload_n 1, 1) := by decide +kernel
theorem dX2_heldBehind_2 : decode cX2_heldBehind 2 = .ok (.invokevirtual 65, 3) := by decide +kernel
theorem dX2_heldBehind_5 : decode cX2_heldBehind 5 = .ok (.ifCond .ne 5, 3) := by decide +kernel
theorem dX2_heldBehind_8 : decode cX2_heldBehind 8 = .ok (.iload_n 3, 1) := by decide +kernel
theorem dX2_heldBehind_9 : decode cX2_heldBehind 9 = .ok (.ireturn, 1) := by decide +kernel
theorem dX2_heldBehind_10 : decode cX2_heldBehind 10 = .ok (.aload_n 0, 1) := by decide +kernel
theorem dX2_heldBehind_11 : decode cX2_heldBehind 11 = .ok (.getfield 15, 3) := by decide +kernel
theorem dX2_heldBehind_14 : decode cX2_heldBehind 14 = .ok (.iload_n 1, 1) := by decide +kernel
theorem dX2_heldBehind_15 : decode cX2_heldBehind 15 = .ok (.iaload, 1) := by decide +kernel
theorem dX2_heldBehind_16 : decode cX2_heldBehind 16 = .ok (.istore 4, 2) := by decide +kernel
theorem dX2_heldBehind_18 : decode cX2_heldBehind 18 = .ok (.aload_n 0, 1) := by decide +kernel
theorem dX2_heldBehind_19 : decode cX2_heldBehind 19 = .ok (.getfield 9, 3) := by decide +kernel
theorem dX2_heldBehind_22 : decode cX2_heldBehind 22 = .ok (.iload_n 1, 1) := by decide +kernel
theorem dX2_heldBehind_23 : decode cX2_heldBehind 23 = .ok (.iaload, 1) := by decide +kernel
theorem dX2_heldBehind_24 : decode cX2_heldBehind 24 = .ok (.ifCond .ne 11, 3) := by decide +kernel
theorem dX2_heldBehind_27 : decode cX2_heldBehind 27 = .ok (.iload_n 3, 1) := by decide +kernel
theorem dX2_heldBehind_28 : decode cX2_heldBehind 28 = .ok (.iload 4, 2) := by decide +kernel
theorem dX2_heldBehind_30 : decode cX2_heldBehind 30 = .ok (.iload_n 2, 1) := by decide +kernel
theorem dX2_heldBehind_31 : decode cX2_heldBehind 31 = .ok (.invokestatic 113, 3) := by decide +kernel
theorem dX2_heldBehind_34 : decode cX2_heldBehind 34 = .ok (.ireturn, 1) := by decide +kernel
theorem dX2_heldBehind_35 : decode cX2_heldBehind 35 = .ok (.aload_n 0, 1) := by decide +kernel
theorem dX2_heldBehind_36 : decode cX2_heldBehind 36 = .ok (.getfield 9, 3) := by decide +kernel
theorem dX2_heldBehind_39 : decode cX2_heldBehind 39 = .ok (.iload_n 1, 1) := by decide +kernel
theorem dX2_heldBehind_40 : decode cX2_heldBehind 40 = .ok (.iaload, 1) := by decide +kernel
theorem dX2_heldBehind_41 : decode cX2_heldBehind 41 = .ok (.iconst 1, 1) := by decide +kernel
theorem dX2_heldBehind_42 : decode cX2_heldBehind 42 = .ok (.if_icmp .eq 5, 3) := by decide +kernel
theorem dX2_heldBehind_45 : decode cX2_heldBehind 45 = .ok (.iload_n 3, 1) := by decide +kernel
theorem dX2_heldBehind_46 : decode cX2_heldBehind 46 = .ok (.ireturn, 1) := by decide +kernel
theorem dX2_heldBehind_47 : decode cX2_heldBehind 47 = .ok (.aload_n 0, 1) := by decide +kernel
theorem dX2_heldBehind_48 : decode cX2_heldBehind 48 = .ok (.getfield 21, 3) := by decide +kernel
theorem dX2_heldBehind_51 : decode cX2_heldBehind 51 = .ok (.iload_n 1, 1) := by decide +kernel
theorem dX2_heldBehind_52 : decode cX2_heldBehind 52 = .ok (.iaload, 1) := by decide +kernel
theorem dX2_heldBehind_53 : decode cX2_heldBehind 53 = .ok (.iload_n 3, 1) := by decide +kernel
theorem dX2_heldBehind_54 : decode cX2_heldBehind 54 = .ok (.invokestatic 104, 3) := by decide +kernel
theorem dX2_heldBehind_57 : decode cX2_heldBehind 57 = .ok (.istore 5, 2) := by decide +kernel
theorem dX2_heldBehind_59 : decode cX2_heldBehind 59 = .ok (.aload_n 0, 1) := by decide +kernel
theorem dX2_heldBehind_60 : decode cX2_heldBehind 60 = .ok (.getfield 24, 3) := by decide +kernel
theorem dX2_heldBehind_63 : decode cX2_heldBehind 63 = .ok (.iload_n 1, 1) := by decide +kernel
theorem dX2_heldBehind_64 : decode cX2_heldBehind 64 = .ok (.iaload, 1) := by decide +kernel
theorem dX2_heldBehind_65 : decode cX2_heldBehind 65 = .ok (.iload_n 3, 1) := by decide +kernel
theorem dX2_heldBehind_66 : decode cX2_heldBehind 66 = .ok (.invokestatic 104, 3) := by decide +kernel
theorem dX2_heldBehind_69 : decode cX2_heldBehind 69 = .ok (.istore 6, 2) := by decide +kernel
theorem dX2_heldBehind_71 : decode cX2_heldBehind 71 = .ok (.iload_n 3, 1) := by decide +kernel
theorem dX2_heldBehind_72 : decode cX2_heldBehind 72 = .ok (.iload 4, 2) := by decide +kernel
theorem dX2_heldBehind_74 : decode cX2_heldBehind 74 = .ok (.invokestatic 94, 3) := by decide +kernel
theorem dX2_heldBehind_77 : decode cX2_heldBehind 77 = .ok (.istore 7, 2) := by decide +kernel
theorem dX2_heldBehind_79 : decode cX2_heldBehind 79 = .ok (.iload_n 3, 1) := by decide +kernel
theorem dX2_heldBehind_80 : decode cX2_heldBehind 80 = .ok (.iload 4, 2) := by decide +kernel
theorem dX2_heldBehind_82 : decode cX2_heldBehind 82 = .ok (.aload_n 0, 1) := by decide +kernel
theorem dX2_heldBehind_83 : decode cX2_heldBehind 83 = .ok (.getfield 18, 3) := by decide +kernel
theorem dX2_heldBehind_86 : decode cX2_heldBehind 86 = .ok (.iload_n 1, 1) := by decide +kernel
theorem dX2_heldBehind_87 : decode cX2_heldBehind 87 = .ok (.iaload, 1) := by decide +kernel
theorem dX2_heldBehind_88 : decode cX2_heldBehind 88 = .ok (.iload 5, 2) := by decide +kernel
theorem dX2_heldBehind_90 : decode cX2_heldBehind 90 = .ok (.iload 6, 2) := by decide +kernel
theorem dX2_heldBehind_92 : decode cX2_heldBehind 92 = .ok (.iload 7, 2) := by decide +kernel
theorem dX2_heldBehind_94 : decode cX2_heldBehind 94 = .ok (.invokestatic 117, 3) := by decide +kernel
theorem dX2_heldBehind_97 : decode cX2_heldBehind 97 = .ok (.invokestatic 113, 3) := by decide +kernel
theorem dX2_heldBehind_100 : decode cX2_heldBehind 100 = .ok (.ireturn, 1) := by decide +kernel
theorem dX2_isSeen_0 : decode cX2_isSeen 0 = .ok (.iload_n 0, 1) := by decide +kernel
theorem dX2_isSeen_1 : decode cX2_isSeen 1 = .ok (.tableswitch 60 0 2 #[27, 38, 49], 27) := by decide +kernel
theorem dX2_isSeen_28 : decode cX2_isSeen 28 = .ok (.iload_n 1, 1) := by decide +kernel
theorem dX2_isSeen_29 : decode cX2_isSeen 29 = .ok (.iload_n 2, 1) := by decide +kernel
theorem dX2_isSeen_30 : decode cX2_isSeen 30 = .ok (.if_icmp .ne 7, 3) := by decide +kernel
theorem dX2_isSeen_33 : decode cX2_isSeen 33 = .ok (.iconst 1, 1) := by decide +kernel
theorem dX2_isSeen_34 : decode cX2_isSeen 34 = .ok (.goto 4, 3) := by decide +kernel
theorem dX2_isSeen_37 : decode cX2_isSeen 37 = .ok (.iconst 0, 1) := by decide +kernel
theorem dX2_isSeen_38 : decode cX2_isSeen 38 = .ok (.ireturn, 1) := by decide +kernel
theorem dX2_isSeen_39 : decode cX2_isSeen 39 = .ok (.iload_n 1, 1) := by decide +kernel
theorem dX2_isSeen_40 : decode cX2_isSeen 40 = .ok (.iload_n 2, 1) := by decide +kernel
theorem dX2_isSeen_41 : decode cX2_isSeen 41 = .ok (.if_icmp .eq 7, 3) := by decide +kernel
theorem dX2_isSeen_44 : decode cX2_isSeen 44 = .ok (.iconst 1, 1) := by decide +kernel
theorem dX2_isSeen_45 : decode cX2_isSeen 45 = .ok (.goto 4, 3) := by decide +kernel
theorem dX2_isSeen_48 : decode cX2_isSeen 48 = .ok (.iconst 0, 1) := by decide +kernel
theorem dX2_isSeen_49 : decode cX2_isSeen 49 = .ok (.ireturn, 1) := by decide +kernel
theorem dX2_isSeen_50 : decode cX2_isSeen 50 = .ok (.iload_n 1, 1) := by decide +kernel
theorem dX2_isSeen_51 : decode cX2_isSeen 51 = .ok (.iload_n 2, 1) := by decide +kernel
theorem dX2_isSeen_52 : decode cX2_isSeen 52 = .ok (.if_icmp .ge 7, 3) := by decide +kernel
theorem dX2_isSeen_55 : decode cX2_isSeen 55 = .ok (.iconst 1, 1) := by decide +kernel
theorem dX2_isSeen_56 : decode cX2_isSeen 56 = .ok (.goto 4, 3) := by decide +kernel
theorem dX2_isSeen_59 : decode cX2_isSeen 59 = .ok (.iconst 0, 1) := by decide +kernel
theorem dX2_isSeen_60 : decode cX2_isSeen 60 = .ok (.ireturn, 1) := by decide +kernel
theorem dX2_isSeen_61 : decode cX2_isSeen 61 = .ok (.iload_n 1, 1) := by decide +kernel
theorem dX2_isSeen_62 : decode cX2_isSeen 62 = .ok (.iload_n 2, 1) := by decide +kernel
theorem dX2_isSeen_63 : decode cX2_isSeen 63 = .ok (.if_icmp .le 7, 3) := by decide +kernel
theorem dX2_isSeen_66 : decode cX2_isSeen 66 = .ok (.iconst 1, 1) := by decide +kernel
theorem dX2_isSeen_67 : decode cX2_isSeen 67 = .ok (.goto 4, 3) := by decide +kernel
theorem dX2_isSeen_70 : decode cX2_isSeen 70 = .ok (.iconst 0, 1) := by decide +kernel
theorem dX2_isSeen_71 : decode cX2_isSeen 71 = .ok (.ireturn, 1) := by decide +kernel
theorem dX2_combined_0 : decode cX2_combined 0 = .ok (.iload_n 0, 1) := by decide +kernel
theorem dX2_combined_1 : decode cX2_combined 1 = .ok (.tableswitch 86 0 5 #[39, 46, 56, 63, 69, 75], 39) := by decide +kernel
theorem dX2_combined_40 : decode cX2_combined 40 = .ok (.iload_n 1, 1) := by decide +kernel
theorem dX2_combined_41 : decode cX2_combined 41 = .ok (.iload_n 2, 1) := by decide +kernel
theorem dX2_combined_42 : decode cX2_combined 42 = .ok (.iadd, 1) := by decide +kernel
theorem dX2_combined_43 : decode cX2_combined 43 = .ok (.bipush 10, 2) := by decide +kernel
theorem dX2_combined_45 : decode cX2_combined 45 = .ok (.irem, 1) := by decide +kernel
theorem dX2_combined_46 : decode cX2_combined 46 = .ok (.ireturn, 1) := by decide +kernel
theorem dX2_combined_47 : decode cX2_combined 47 = .ok (.iload_n 1, 1) := by decide +kernel
theorem dX2_combined_48 : decode cX2_combined 48 = .ok (.iload_n 2, 1) := by decide +kernel
theorem dX2_combined_49 : decode cX2_combined 49 = .ok (.isub, 1) := by decide +kernel
theorem dX2_combined_50 : decode cX2_combined 50 = .ok (.bipush 10, 2) := by decide +kernel
theorem dX2_combined_52 : decode cX2_combined 52 = .ok (.iadd, 1) := by decide +kernel
theorem dX2_combined_53 : decode cX2_combined 53 = .ok (.bipush 10, 2) := by decide +kernel
theorem dX2_combined_55 : decode cX2_combined 55 = .ok (.irem, 1) := by decide +kernel
theorem dX2_combined_56 : decode cX2_combined 56 = .ok (.ireturn, 1) := by decide +kernel
theorem dX2_combined_57 : decode cX2_combined 57 = .ok (.iload_n 1, 1) := by decide +kernel
theorem dX2_combined_58 : decode cX2_combined 58 = .ok (.iload_n 2, 1) := by decide +kernel
theorem dX2_combined_59 : decode cX2_combined 59 = .ok (.imul, 1) := by decide +kernel
theorem dX2_combined_60 : decode cX2_combined 60 = .ok (.bipush 10, 2) := by decide +kernel
theorem dX2_combined_62 : decode cX2_combined 62 = .ok (.irem, 1) := by decide +kernel
theorem dX2_combined_63 : decode cX2_combined 63 = .ok (.ireturn, 1) := by decide +kernel
theorem dX2_combined_64 : decode cX2_combined 64 = .ok (.iload_n 1, 1) := by decide +kernel
theorem dX2_combined_65 : decode cX2_combined 65 = .ok (.iload_n 2, 1) := by decide +kernel
theorem dX2_combined_66 : decode cX2_combined 66 = .ok (.invokestatic 99, 3) := by decide +kernel
theorem dX2_combined_69 : decode cX2_combined 69 = .ok (.ireturn, 1) := by decide +kernel
theorem dX2_combined_70 : decode cX2_combined 70 = .ok (.iload_n 1, 1) := by decide +kernel
theorem dX2_combined_71 : decode cX2_combined 71 = .ok (.iload_n 2, 1) := by decide +kernel
theorem dX2_combined_72 : decode cX2_combined 72 = .ok (.invokestatic 121, 3) := by decide +kernel
theorem dX2_combined_75 : decode cX2_combined 75 = .ok (.ireturn, 1) := by decide +kernel
theorem dX2_combined_76 : decode cX2_combined 76 = .ok (.iload_n 1, 1) := by decide +kernel
theorem dX2_combined_77 : decode cX2_combined 77 = .ok (.iload_n 2, 1) := by decide +kernel
theorem dX2_combined_78 : decode cX2_combined 78 = .ok (.if_icmp .ne 7, 3) := by decide +kernel
theorem dX2_combined_81 : decode cX2_combined 81 = .ok (.iconst 1, 1) := by decide +kernel
theorem dX2_combined_82 : decode cX2_combined 82 = .ok (.goto 4, 3) := by decide +kernel
theorem dX2_combined_85 : decode cX2_combined 85 = .ok (.iconst 0, 1) := by decide +kernel
theorem dX2_combined_86 : decode cX2_combined 86 = .ok (.ireturn, 1) := by decide +kernel
theorem dX2_combined_87 : decode cX2_combined 87 = .ok (.iload_n 2, 1) := by decide +kernel
theorem dX2_combined_88 : decode cX2_combined 88 = .ok (.ifCond .ne 7, 3) := by decide +kernel
theorem dX2_combined_91 : decode cX2_combined 91 = .ok (.iload_n 1, 1) := by decide +kernel
theorem dX2_combined_92 : decode cX2_combined 92 = .ok (.goto 4, 3) := by decide +kernel
theorem dX2_combined_95 : decode cX2_combined 95 = .ok (.iload_n 3, 1) := by decide +kernel
theorem dX2_combined_96 : decode cX2_combined 96 = .ok (.ireturn, 1) := by decide +kernel
theorem dX3_init_0 : decode cX3_init 0 = .ok (.aload_n 0, 1) := by decide +kernel
theorem dX3_init_1 : decode cX3_init 1 = .ok (.invokespecial 3, 3) := by decide +kernel
theorem dX3_init_4 : decode cX3_init 4 = .ok (.aload_n 0, 1) := by decide +kernel
theorem dX3_init_5 : decode cX3_init 5 = .ok (.bipush 6, 2) := by decide +kernel
theorem dX3_init_7 : decode cX3_init 7 = .ok (.bipush 10, 2) := by decide +kernel
theorem dX3_init_9 : decode cX3_init 9 = .ok (.multianewarray 9 2, 4) := by decide +kernel
theorem dX3_init_13 : decode cX3_init 13 = .ok (.putfield 11, 3) := by decide +kernel
theorem dX3_init_16 : decode cX3_init 16 = .ok (.aload_n 0, 1) := by decide +kernel
theorem dX3_init_17 : decode cX3_init 17 = .ok (.aload_n 1, 1) := by decide +kernel
theorem dX3_init_18 : decode cX3_init 18 = .ok (.putfield 16, 3) := by decide +kernel
theorem dX3_init_21 : decode cX3_init 21 = .ok (.return_, 1) := by decide +kernel
theorem dX3_forget_0 : decode cX3_forget 0 = .ok (.aload_n 0, 1) := by decide +kernel
theorem dX3_forget_1 : decode cX3_forget 1 = .ok (.iconst 0, 1) := by decide +kernel
theorem dX3_forget_2 : decode cX3_forget 2 = .ok (.putfield 20, 3) := by decide +kernel
theorem dX3_forget_5 : decode cX3_forget 5 = .ok (.return_, 1) := by decide +kernel
theorem dX3_tally_0 : decode cX3_tally 0 = .ok (.aload_n 0, 1) := by decide +kernel
theorem dX3_tally_1 : decode cX3_tally 1 = .ok (.getfield 16, 3) := by decide +kernel
theorem dX3_tally_4 : decode cX3_tally 4 = .ok (.invokevirtual 24, 3) := by decide +kernel
theorem dX3_tally_7 : decode cX3_tally 7 = .ok (.ifCond .eq 6, 3) := by decide +kernel
theorem dX3_tally_10 : decode cX3_tally 10 = .ok (.bipush (-4), 2) := by decide +kernel
theorem dX3_tally_12 : decode cX3_tally 12 = .ok (.ireturn, 1) := by decide +kernel
theorem dX3_tally_13 : decode cX3_tally 13 = .ok (.aload_n 0, 1) := by decide +kernel
theorem dX3_tally_14 : decode cX3_tally 14 = .ok (.getfield 20, 3) := by decide +kernel
theorem dX3_tally_17 : decode cX3_tally 17 = .ok (.ifCond .ne 22, 3) := by decide +kernel
theorem dX3_tally_20 : decode cX3_tally 20 = .ok (.aload_n 0, 1) := by decide +kernel
theorem dX3_tally_21 : decode cX3_tally 21 = .ok (.invokevirtual 30, 3) := by decide +kernel
theorem dX3_tally_24 : decode cX3_tally 24 = .ok (.aload_n 0, 1) := by decide +kernel
theorem dX3_tally_25 : decode cX3_tally 25 = .ok (.iconst 0, 1) := by decide +kernel
theorem dX3_tally_26 : decode cX3_tally 26 = .ok (.iconst 0, 1) := by decide +kernel
theorem dX3_tally_27 : decode cX3_tally 27 = .ok (.ldc2_w 33, 3) := by decide +kernel
theorem dX3_tally_30 : decode cX3_tally 30 = .ok (.iconst 0, 1) := by decide +kernel
theorem dX3_tally_31 : decode cX3_tally 31 = .ok (.invokevirtual 35, 3) := by decide +kernel
theorem dX3_tally_34 : decode cX3_tally 34 = .ok (.aload_n 0, 1) := by decide +kernel
theorem dX3_tally_35 : decode cX3_tally 35 = .ok (.iconst 1, 1) := by decide +kernel
theorem dX3_tally_36 : decode cX3_tally 36 = .ok (.putfield 20, 3) := by decide +kernel
theorem dX3_tally_39 : decode cX3_tally 39 = .ok (.aload_n 0, 1) := by decide +kernel
theorem dX3_tally_40 : decode cX3_tally 40 = .ok (.getfield 39, 3) := by decide +kernel
theorem dX3_tally_43 : decode cX3_tally 43 = .ok (.sipush 20000, 3) := by decide +kernel
theorem dX3_tally_46 : decode cX3_tally 46 = .ok (.if_icmp .le 8, 3) := by decide +kernel
theorem dX3_tally_49 : decode cX3_tally 49 = .ok (.bipush (-2), 2) := by decide +kernel
theorem dX3_tally_51 : decode cX3_tally 51 = .ok (.goto 7, 3) := by decide +kernel
theorem dX3_tally_54 : decode cX3_tally 54 = .ok (.aload_n 0, 1) := by decide +kernel
theorem dX3_tally_55 : decode cX3_tally 55 = .ok (.getfield 39, 3) := by decide +kernel
theorem dX3_tally_58 : decode cX3_tally 58 = .ok (.ireturn, 1) := by decide +kernel
theorem dX3_empty_0 : decode cX3_empty 0 = .ok (.iconst 0, 1) := by decide +kernel
theorem dX3_empty_1 : decode cX3_empty 1 = .ok (.istore_n 1, 1) := by decide +kernel
theorem dX3_empty_2 : decode cX3_empty 2 = .ok (.iload_n 1, 1) := by decide +kernel
theorem dX3_empty_3 : decode cX3_empty 3 = .ok (.bipush 6, 2) := by decide +kernel
theorem dX3_empty_5 : decode cX3_empty 5 = .ok (.if_icmp .ge 32, 3) := by decide +kernel
theorem dX3_empty_8 : decode cX3_empty 8 = .ok (.iconst 0, 1) := by decide +kernel
theorem dX3_empty_9 : decode cX3_empty 9 = .ok (.istore_n 2, 1) := by decide +kernel
theorem dX3_empty_10 : decode cX3_empty 10 = .ok (.iload_n 2, 1) := by decide +kernel
theorem dX3_empty_11 : decode cX3_empty 11 = .ok (.bipush 10, 2) := by decide +kernel
theorem dX3_empty_13 : decode cX3_empty 13 = .ok (.if_icmp .ge 18, 3) := by decide +kernel
theorem dX3_empty_16 : decode cX3_empty 16 = .ok (.aload_n 0, 1) := by decide +kernel
theorem dX3_empty_17 : decode cX3_empty 17 = .ok (.getfield 11, 3) := by decide +kernel
theorem dX3_empty_20 : decode cX3_empty 20 = .ok (.iload_n 1, 1) := by decide +kernel
theorem dX3_empty_21 : decode cX3_empty 21 = .ok (.aaload, 1) := by decide +kernel
theorem dX3_empty_22 : decode cX3_empty 22 = .ok (.iload_n 2, 1) := by decide +kernel
theorem dX3_empty_23 : decode cX3_empty 23 = .ok (.lconst 0, 1) := by decide +kernel
theorem dX3_empty_24 : decode cX3_empty 24 = .ok (.lastore, 1) := by decide +kernel
theorem dX3_empty_25 : decode cX3_empty 25 = .ok (.iinc 2 1, 3) := by decide +kernel
theorem dX3_empty_28 : decode cX3_empty 28 = .ok (.goto (-18), 3) := by decide +kernel
theorem dX3_empty_31 : decode cX3_empty 31 = .ok (.iinc 1 1, 3) := by decide +kernel
theorem dX3_empty_34 : decode cX3_empty 34 = .ok (.goto (-32), 3) := by decide +kernel
theorem dX3_empty_37 : decode cX3_empty 37 = .ok (.aload_n 0, 1) := by decide +kernel
theorem dX3_empty_38 : decode cX3_empty 38 = .ok (.lconst 0, 1) := by decide +kernel
theorem dX3_empty_39 : decode cX3_empty 39 = .ok (.putfield 43, 3) := by decide +kernel
theorem dX3_empty_42 : decode cX3_empty 42 = .ok (.aload_n 0, 1) := by decide +kernel
theorem dX3_empty_43 : decode cX3_empty 43 = .ok (.iconst 0, 1) := by decide +kernel
theorem dX3_empty_44 : decode cX3_empty 44 = .ok (.putfield 39, 3) := by decide +kernel
theorem dX3_empty_47 : decode cX3_empty 47 = .ok (.return_, 1) := by decide +kernel
theorem dX3_follow_0 : decode cX3_follow 0 = .ok (.iload_n 1, 1) := by decide +kernel
theorem dX3_follow_1 : decode cX3_follow 1 = .ok (.istore 6, 2) := by decide +kernel
theorem dX3_follow_3 : decode cX3_follow 3 = .ok (.iload_n 2, 1) := by decide +kernel
theorem dX3_follow_4 : decode cX3_follow 4 = .ok (.istore 7, 2) := by decide +kernel
theorem dX3_follow_6 : decode cX3_follow 6 = .ok (.lload_n 3, 1) := by decide +kernel
theorem dX3_follow_7 : decode cX3_follow 7 = .ok (.lstore 8, 2) := by decide +kernel
theorem dX3_follow_9 : decode cX3_follow 9 = .ok (.iconst 0, 1) := by decide +kernel
theorem dX3_follow_10 : decode cX3_follow 10 = .ok (.istore 10, 2) := by decide +kernel
theorem dX3_follow_12 : decode cX3_follow 12 = .ok (.iload 10, 2) := by decide +kernel
theorem dX3_follow_14 : decode cX3_follow 14 = .ok (.bipush 30, 2) := by decide +kernel
theorem dX3_follow_16 : decode cX3_follow 16 = .ok (.if_icmp .ge 100, 3) := by decide +kernel
theorem dX3_follow_19 : decode cX3_follow 19 = .ok (.aload_n 0, 1) := by decide +kernel
theorem dX3_follow_20 : decode cX3_follow 20 = .ok (.getfield 16, 3) := by decide +kernel
theorem dX3_follow_23 : decode cX3_follow 23 = .ok (.iload 6, 2) := by decide +kernel
theorem dX3_follow_25 : decode cX3_follow 25 = .ok (.invokevirtual 47, 3) := by decide +kernel
theorem dX3_follow_28 : decode cX3_follow 28 = .ok (.ifCond .eq 88, 3) := by decide +kernel
theorem dX3_follow_31 : decode cX3_follow 31 = .ok (.lload 8, 2) := by decide +kernel
theorem dX3_follow_33 : decode cX3_follow 33 = .ok (.lconst 0, 1) := by decide +kernel
theorem dX3_follow_34 : decode cX3_follow 34 = .ok (.lcmp, 1) := by decide +kernel
theorem dX3_follow_35 : decode cX3_follow 35 = .ok (.ifCond .le 81, 3) := by decide +kernel
theorem dX3_follow_38 : decode cX3_follow 38 = .ok (.aload_n 0, 1) := by decide +kernel
theorem dX3_follow_39 : decode cX3_follow 39 = .ok (.getfield 16, 3) := by decide +kernel
theorem dX3_follow_42 : decode cX3_follow 42 = .ok (.iload 6, 2) := by decide +kernel
theorem dX3_follow_44 : decode cX3_follow 44 = .ok (.invokevirtual 51, 3) := by decide +kernel
theorem dX3_follow_47 : decode cX3_follow 47 = .ok (.ifCond .eq 16, 3) := by decide +kernel
theorem dX3_follow_50 : decode cX3_follow 50 = .ok (.aload_n 0, 1) := by decide +kernel
theorem dX3_follow_51 : decode cX3_follow 51 = .ok (.iload 6, 2) := by decide +kernel
theorem dX3_follow_53 : decode cX3_follow 53 = .ok (.iload 7, 2) := by decide +kernel
theorem dX3_follow_55 : decode cX3_follow 55 = .ok (.lload 8, 2) := by decide +kernel
theorem dX3_follow_57 : decode cX3_follow 57 = .ok (.iload 5, 2) := by decide +kernel
theorem dX3_follow_59 : decode cX3_follow 59 = .ok (.invokevirtual 54, 3) := by decide +kernel
theorem dX3_follow_62 : decode cX3_follow 62 = .ok (.return_, 1) := by decide +kernel
theorem dX3_follow_63 : decode cX3_follow 63 = .ok (.aload_n 0, 1) := by decide +kernel
theorem dX3_follow_64 : decode cX3_follow 64 = .ok (.getfield 16, 3) := by decide +kernel
theorem dX3_follow_67 : decode cX3_follow 67 = .ok (.iload 6, 2) := by decide +kernel
theorem dX3_follow_69 : decode cX3_follow 69 = .ok (.iload 7, 2) := by decide +kernel
theorem dX3_follow_71 : decode cX3_follow 71 = .ok (.invokevirtual 57, 3) := by decide +kernel
theorem dX3_follow_74 : decode cX3_follow 74 = .ok (.istore 11, 2) := by decide +kernel
theorem dX3_follow_76 : decode cX3_follow 76 = .ok (.aload_n 0, 1) := by decide +kernel
theorem dX3_follow_77 : decode cX3_follow 77 = .ok (.getfield 16, 3) := by decide +kernel
theorem dX3_follow_80 : decode cX3_follow 80 = .ok (.iload 6, 2) := by decide +kernel
theorem dX3_follow_82 : decode cX3_follow 82 = .ok (.iconst 0, 1) := by decide +kernel
theorem dX3_follow_83 : decode cX3_follow 83 = .ok (.iload 7, 2) := by decide +kernel
theorem dX3_follow_85 : decode cX3_follow 85 = .ok (.lload 8, 2) := by decide +kernel
theorem dX3_follow_87 : decode cX3_follow 87 = .ok (.invokevirtual 61, 3) := by decide +kernel
theorem dX3_follow_90 : decode cX3_follow 90 = .ok (.lstore 8, 2) := by decide +kernel
theorem dX3_follow_92 : decode cX3_follow 92 = .ok (.aload_n 0, 1) := by decide +kernel
theorem dX3_follow_93 : decode cX3_follow 93 = .ok (.getfield 16, 3) := by decide +kernel
theorem dX3_follow_96 : decode cX3_follow 96 = .ok (.iload 6, 2) := by decide +kernel
theorem dX3_follow_98 : decode cX3_follow 98 = .ok (.iconst 0, 1) := by decide +kernel
theorem dX3_follow_99 : decode cX3_follow 99 = .ok (.iload 7, 2) := by decide +kernel
theorem dX3_follow_101 : decode cX3_follow 101 = .ok (.invokevirtual 65, 3) := by decide +kernel
theorem dX3_follow_104 : decode cX3_follow 104 = .ok (.istore 7, 2) := by decide +kernel
theorem dX3_follow_106 : decode cX3_follow 106 = .ok (.iload 11, 2) := by decide +kernel
theorem dX3_follow_108 : decode cX3_follow 108 = .ok (.istore 6, 2) := by decide +kernel
theorem dX3_follow_110 : decode cX3_follow 110 = .ok (.iinc 10 1, 3) := by decide +kernel
theorem dX3_follow_113 : decode cX3_follow 113 = .ok (.goto (-101), 3) := by decide +kernel
theorem dX3_follow_116 : decode cX3_follow 116 = .ok (.aload_n 0, 1) := by decide +kernel
theorem dX3_follow_117 : decode cX3_follow 117 = .ok (.dup, 1) := by decide +kernel
theorem dX3_follow_118 : decode cX3_follow 118 = .ok (.getfield 39, 3) := by decide +kernel
theorem dX3_follow_121 : decode cX3_follow 121 = .ok (.iconst 1, 1) := by decide +kernel
theorem dX3_follow_122 : decode cX3_follow 122 = .ok (.iadd, 1) := by decide +kernel
theorem dX3_follow_123 : decode cX3_follow 123 = .ok (.putfield 39, 3) := by decide +kernel
theorem dX3_follow_126 : decode cX3_follow 126 = .ok (.lload 8, 2) := by decide +kernel
theorem dX3_follow_128 : decode cX3_follow 128 = .ok (.lconst 0, 1) := by decide +kernel
theorem dX3_follow_129 : decode cX3_follow 129 = .ok (.lcmp, 1) := by decide +kernel
theorem dX3_follow_130 : decode cX3_follow 130 = .ok (.ifCond .le 11, 3) := by decide +kernel
theorem dX3_follow_133 : decode cX3_follow 133 = .ok (.aload_n 0, 1) := by decide +kernel
theorem dX3_follow_134 : decode cX3_follow 134 = .ok (.iload 7, 2) := by decide +kernel
theorem dX3_follow_136 : decode cX3_follow 136 = .ok (.lload 8, 2) := by decide +kernel
theorem dX3_follow_138 : decode cX3_follow 138 = .ok (.invokevirtual 69, 3) := by decide +kernel
theorem dX3_follow_141 : decode cX3_follow 141 = .ok (.return_, 1) := by decide +kernel
theorem dX3_branch_0 : decode cX3_branch 0 = .ok (.iload 5, 2) := by decide +kernel
theorem dX3_branch_2 : decode cX3_branch 2 = .ok (.bipush 8, 2) := by decide +kernel
theorem dX3_branch_4 : decode cX3_branch 4 = .ok (.if_icmp .lt 4, 3) := by decide +kernel
theorem dX3_branch_7 : decode cX3_branch 7 = .ok (.return_, 1) := by decide +kernel
theorem dX3_branch_8 : decode cX3_branch 8 = .ok (.iconst 0, 1) := by decide +kernel
theorem dX3_branch_9 : decode cX3_branch 9 = .ok (.istore 6, 2) := by decide +kernel
theorem dX3_branch_11 : decode cX3_branch 11 = .ok (.iload 6, 2) := by decide +kernel
theorem dX3_branch_13 : decode cX3_branch 13 = .ok (.bipush 10, 2) := by decide +kernel
theorem dX3_branch_15 : decode cX3_branch 15 = .ok (.if_icmp .ge 64, 3) := by decide +kernel
theorem dX3_branch_18 : decode cX3_branch 18 = .ok (.aload_n 0, 1) := by decide +kernel
theorem dX3_branch_19 : decode cX3_branch 19 = .ok (.getfield 39, 3) := by decide +kernel
theorem dX3_branch_22 : decode cX3_branch 22 = .ok (.sipush 20000, 3) := by decide +kernel
theorem dX3_branch_25 : decode cX3_branch 25 = .ok (.if_icmp .gt 54, 3) := by decide +kernel
theorem dX3_branch_28 : decode cX3_branch 28 = .ok (.aload_n 0, 1) := by decide +kernel
theorem dX3_branch_29 : decode cX3_branch 29 = .ok (.getfield 16, 3) := by decide +kernel
theorem dX3_branch_32 : decode cX3_branch 32 = .ok (.iload_n 1, 1) := by decide +kernel
theorem dX3_branch_33 : decode cX3_branch 33 = .ok (.iload 6, 2) := by decide +kernel
theorem dX3_branch_35 : decode cX3_branch 35 = .ok (.iload_n 2, 1) := by decide +kernel
theorem dX3_branch_36 : decode cX3_branch 36 = .ok (.lload_n 3, 1) := by decide +kernel
theorem dX3_branch_37 : decode cX3_branch 37 = .ok (.invokevirtual 61, 3) := by decide +kernel
theorem dX3_branch_40 : decode cX3_branch 40 = .ok (.lstore 7, 2) := by decide +kernel
theorem dX3_branch_42 : decode cX3_branch 42 = .ok (.lload 7, 2) := by decide +kernel
theorem dX3_branch_44 : decode cX3_branch 44 = .ok (.lconst 0, 1) := by decide +kernel
theorem dX3_branch_45 : decode cX3_branch 45 = .ok (.lcmp, 1) := by decide +kernel
theorem dX3_branch_46 : decode cX3_branch 46 = .ok (.ifCond .le 27, 3) := by decide +kernel
theorem dX3_branch_49 : decode cX3_branch 49 = .ok (.aload_n 0, 1) := by decide +kernel
theorem dX3_branch_50 : decode cX3_branch 50 = .ok (.iload_n 1, 1) := by decide +kernel
theorem dX3_branch_51 : decode cX3_branch 51 = .ok (.iconst 1, 1) := by decide +kernel
theorem dX3_branch_52 : decode cX3_branch 52 = .ok (.iadd, 1) := by decide +kernel
theorem dX3_branch_53 : decode cX3_branch 53 = .ok (.aload_n 0, 1) := by decide +kernel
theorem dX3_branch_54 : decode cX3_branch 54 = .ok (.getfield 16, 3) := by decide +kernel
theorem dX3_branch_57 : decode cX3_branch 57 = .ok (.iload_n 1, 1) := by decide +kernel
theorem dX3_branch_58 : decode cX3_branch 58 = .ok (.iload 6, 2) := by decide +kernel
theorem dX3_branch_60 : decode cX3_branch 60 = .ok (.iload_n 2, 1) := by decide +kernel
theorem dX3_branch_61 : decode cX3_branch 61 = .ok (.invokevirtual 65, 3) := by decide +kernel
theorem dX3_branch_64 : decode cX3_branch 64 = .ok (.lload 7, 2) := by decide +kernel
theorem dX3_branch_66 : decode cX3_branch 66 = .ok (.iload 5, 2) := by decide +kernel
theorem dX3_branch_68 : decode cX3_branch 68 = .ok (.iconst 1, 1) := by decide +kernel
theorem dX3_branch_69 : decode cX3_branch 69 = .ok (.iadd, 1) := by decide +kernel
theorem dX3_branch_70 : decode cX3_branch 70 = .ok (.invokevirtual 35, 3) := by decide +kernel
theorem dX3_branch_73 : decode cX3_branch 73 = .ok (.iinc 6 1, 3) := by decide +kernel
theorem dX3_branch_76 : decode cX3_branch 76 = .ok (.goto (-65), 3) := by decide +kernel
theorem dX3_branch_79 : decode cX3_branch 79 = .ok (.return_, 1) := by decide +kernel
theorem dX3_addAtEnd_0 : decode cX3_addAtEnd 0 = .ok (.aload_n 0, 1) := by decide +kernel
theorem dX3_addAtEnd_1 : decode cX3_addAtEnd 1 = .ok (.dup, 1) := by decide +kernel
theorem dX3_addAtEnd_2 : decode cX3_addAtEnd 2 = .ok (.getfield 43, 3) := by decide +kernel
theorem dX3_addAtEnd_5 : decode cX3_addAtEnd 5 = .ok (.lload_n 2, 1) := by decide +kernel
theorem dX3_addAtEnd_6 : decode cX3_addAtEnd 6 = .ok (.ladd, 1) := by decide +kernel
theorem dX3_addAtEnd_7 : decode cX3_addAtEnd 7 = .ok (.putfield 43, 3) := by decide +kernel
theorem dX3_addAtEnd_10 : decode cX3_addAtEnd 10 = .ok (.iconst 0, 1) := by decide +kernel
theorem dX3_addAtEnd_11 : decode cX3_addAtEnd 11 = .ok (.istore 4, 2) := by decide +kernel
theorem dX3_addAtEnd_13 : decode cX3_addAtEnd 13 = .ok (.iload 4, 2) := by decide +kernel
theorem dX3_addAtEnd_15 : decode cX3_addAtEnd 15 = .ok (.bipush 6, 2) := by decide +kernel
theorem dX3_addAtEnd_17 : decode cX3_addAtEnd 17 = .ok (.if_icmp .ge 39, 3) := by decide +kernel
theorem dX3_addAtEnd_20 : decode cX3_addAtEnd 20 = .ok (.iload_n 1, 1) := by decide +kernel
theorem dX3_addAtEnd_21 : decode cX3_addAtEnd 21 = .ok (.iload 4, 2) := by decide +kernel
theorem dX3_addAtEnd_23 : decode cX3_addAtEnd 23 = .ok (.invokestatic 73, 3) := by decide +kernel
theorem dX3_addAtEnd_26 : decode cX3_addAtEnd 26 = .ok (.istore 5, 2) := by decide +kernel
theorem dX3_addAtEnd_28 : decode cX3_addAtEnd 28 = .ok (.iload 5, 2) := by decide +kernel
theorem dX3_addAtEnd_30 : decode cX3_addAtEnd 30 = .ok (.invokestatic 78, 3) := by decide +kernel
theorem dX3_addAtEnd_33 : decode cX3_addAtEnd 33 = .ok (.ifCond .eq 17, 3) := by decide +kernel
theorem dX3_addAtEnd_36 : decode cX3_addAtEnd 36 = .ok (.aload_n 0, 1) := by decide +kernel
theorem dX3_addAtEnd_37 : decode cX3_addAtEnd 37 = .ok (.getfield 11, 3) := by decide +kernel
theorem dX3_addAtEnd_40 : decode cX3_addAtEnd 40 = .ok (.iload 4, 2) := by decide +kernel
theorem dX3_addAtEnd_42 : decode cX3_addAtEnd 42 = .ok (.aaload, 1) := by decide +kernel
theorem dX3_addAtEnd_43 : decode cX3_addAtEnd 43 = .ok (.iload 5, 2) := by decide +kernel
theorem dX3_addAtEnd_45 : decode cX3_addAtEnd 45 = .ok (.dup2, 1) := by decide +kernel
theorem dX3_addAtEnd_46 : decode cX3_addAtEnd 46 = .ok (.laload, 1) := by decide +kernel
theorem dX3_addAtEnd_47 : decode cX3_addAtEnd 47 = .ok (.lload_n 2, 1) := by decide +kernel
theorem dX3_addAtEnd_48 : decode cX3_addAtEnd 48 = .ok (.ladd, 1) := by decide +kernel
theorem dX3_addAtEnd_49 : decode cX3_addAtEnd 49 = .ok (.lastore, 1) := by decide +kernel
theorem dX3_addAtEnd_50 : decode cX3_addAtEnd 50 = .ok (.iinc 4 1, 3) := by decide +kernel
theorem dX3_addAtEnd_53 : decode cX3_addAtEnd 53 = .ok (.goto (-40), 3) := by decide +kernel
theorem dX3_addAtEnd_56 : decode cX3_addAtEnd 56 = .ok (.return_, 1) := by decide +kernel
theorem dX4_init_0 : decode cX4_init 0 = .ok (.aload_n 0, 1) := by decide +kernel
theorem dX4_init_1 : decode cX4_init 1 = .ok (.invokespecial 3, 3) := by decide +kernel
theorem dX4_init_4 : decode cX4_init 4 = .ok (.aload_n 0, 1) := by decide +kernel
theorem dX4_init_5 : decode cX4_init 5 = .ok (.new 9, 3) := by decide +kernel
theorem dX4_init_8 : decode cX4_init 8 = .ok (.dup, 1) := by decide +kernel
theorem dX4_init_9 : decode cX4_init 9 = .ok (.invokespecial 11, 3) := by decide +kernel
theorem dX4_init_12 : decode cX4_init 12 = .ok (.putfield 12, 3) := by decide +kernel
theorem dX4_init_15 : decode cX4_init 15 = .ok (.aload_n 0, 1) := by decide +kernel
theorem dX4_init_16 : decode cX4_init 16 = .ok (.new 16, 3) := by decide +kernel
theorem dX4_init_19 : decode cX4_init 19 = .ok (.dup, 1) := by decide +kernel
theorem dX4_init_20 : decode cX4_init 20 = .ok (.aload_n 0, 1) := by decide +kernel
theorem dX4_init_21 : decode cX4_init 21 = .ok (.getfield 12, 3) := by decide +kernel
theorem dX4_init_24 : decode cX4_init 24 = .ok (.invokespecial 18, 3) := by decide +kernel
theorem dX4_init_27 : decode cX4_init 27 = .ok (.putfield 21, 3) := by decide +kernel
theorem dX4_init_30 : decode cX4_init 30 = .ok (.aload_n 0, 1) := by decide +kernel
theorem dX4_init_31 : decode cX4_init 31 = .ok (.new 25, 3) := by decide +kernel
theorem dX4_init_34 : decode cX4_init 34 = .ok (.dup, 1) := by decide +kernel
theorem dX4_init_35 : decode cX4_init 35 = .ok (.aload_n 0, 1) := by decide +kernel
theorem dX4_init_36 : decode cX4_init 36 = .ok (.getfield 12, 3) := by decide +kernel
theorem dX4_init_39 : decode cX4_init 39 = .ok (.invokespecial 27, 3) := by decide +kernel
theorem dX4_init_42 : decode cX4_init 42 = .ok (.putfield 28, 3) := by decide +kernel
theorem dX4_init_45 : decode cX4_init 45 = .ok (.return_, 1) := by decide +kernel
theorem dX4_weight_0 : decode cX4_weight 0 = .ok (.iload_n 1, 1) := by decide +kernel
theorem dX4_weight_1 : decode cX4_weight 1 = .ok (.invokestatic 32, 3) := by decide +kernel
theorem dX4_weight_4 : decode cX4_weight 4 = .ok (.ifCond .eq 20, 3) := by decide +kernel
theorem dX4_weight_7 : decode cX4_weight 7 = .ok (.iload_n 2, 1) := by decide +kernel
theorem dX4_weight_8 : decode cX4_weight 8 = .ok (.invokestatic 36, 3) := by decide +kernel
theorem dX4_weight_11 : decode cX4_weight 11 = .ok (.ifCond .eq 13, 3) := by decide +kernel
theorem dX4_weight_14 : decode cX4_weight 14 = .ok (.iload_n 3, 1) := by decide +kernel
theorem dX4_weight_15 : decode cX4_weight 15 = .ok (.ifCond .lt 9, 3) := by decide +kernel
theorem dX4_weight_18 : decode cX4_weight 18 = .ok (.iload_n 3, 1) := by decide +kernel
theorem dX4_weight_19 : decode cX4_weight 19 = .ok (.bipush 60, 2) := by decide +kernel
theorem dX4_weight_21 : decode cX4_weight 21 = .ok (.if_icmp .le 5, 3) := by decide +kernel
theorem dX4_weight_24 : decode cX4_weight 24 = .ok (.iconst (-1), 1) := by decide +kernel
theorem dX4_weight_25 : decode cX4_weight 25 = .ok (.ireturn, 1) := by decide +kernel
theorem dX4_weight_26 : decode cX4_weight 26 = .ok (.aload_n 0, 1) := by decide +kernel
theorem dX4_weight_27 : decode cX4_weight 27 = .ok (.invokevirtual 39, 3) := by decide +kernel
theorem dX4_weight_30 : decode cX4_weight 30 = .ok (.aload_n 0, 1) := by decide +kernel
theorem dX4_weight_31 : decode cX4_weight 31 = .ok (.getfield 12, 3) := by decide +kernel
theorem dX4_weight_34 : decode cX4_weight 34 = .ok (.iload_n 1, 1) := by decide +kernel
theorem dX4_weight_35 : decode cX4_weight 35 = .ok (.iload_n 2, 1) := by decide +kernel
theorem dX4_weight_36 : decode cX4_weight 36 = .ok (.iload_n 3, 1) := by decide +kernel
theorem dX4_weight_37 : decode cX4_weight 37 = .ok (.invokevirtual 42, 3) := by decide +kernel
theorem dX4_weight_40 : decode cX4_weight 40 = .ok (.ireturn, 1) := by decide +kernel
theorem dX4_draw_0 : decode cX4_draw 0 = .ok (.iload_n 1, 1) := by decide +kernel
theorem dX4_draw_1 : decode cX4_draw 1 = .ok (.invokestatic 46, 3) := by decide +kernel
theorem dX4_draw_4 : decode cX4_draw 4 = .ok (.ifCond .eq 10, 3) := by decide +kernel
theorem dX4_draw_7 : decode cX4_draw 7 = .ok (.iload_n 2, 1) := by decide +kernel
theorem dX4_draw_8 : decode cX4_draw 8 = .ok (.invokestatic 32, 3) := by decide +kernel
theorem dX4_draw_11 : decode cX4_draw 11 = .ok (.ifCond .ne 5, 3) := by decide +kernel
theorem dX4_draw_14 : decode cX4_draw 14 = .ok (.iconst (-1), 1) := by decide +kernel
theorem dX4_draw_15 : decode cX4_draw 15 = .ok (.ireturn, 1) := by decide +kernel
theorem dX4_draw_16 : decode cX4_draw 16 = .ok (.aload_n 0, 1) := by decide +kernel
theorem dX4_draw_17 : decode cX4_draw 17 = .ok (.iconst 0, 1) := by decide +kernel
theorem dX4_draw_18 : decode cX4_draw 18 = .ok (.iload_n 1, 1) := by decide +kernel
theorem dX4_draw_19 : decode cX4_draw 19 = .ok (.iload_n 2, 1) := by decide +kernel
theorem dX4_draw_20 : decode cX4_draw 20 = .ok (.bipush 10, 2) := by decide +kernel
theorem dX4_draw_22 : decode cX4_draw 22 = .ok (.bipush 10, 2) := by decide +kernel
theorem dX4_draw_24 : decode cX4_draw 24 = .ok (.invokevirtual 49, 3) := by decide +kernel
theorem dX4_draw_27 : decode cX4_draw 27 = .ok (.ireturn, 1) := by decide +kernel
theorem dX4_set_0 : decode cX4_set 0 = .ok (.iload_n 1, 1) := by decide +kernel
theorem dX4_set_1 : decode cX4_set 1 = .ok (.invokestatic 46, 3) := by decide +kernel
theorem dX4_set_4 : decode cX4_set 4 = .ok (.ifCond .eq 28, 3) := by decide +kernel
theorem dX4_set_7 : decode cX4_set 7 = .ok (.iload_n 2, 1) := by decide +kernel
theorem dX4_set_8 : decode cX4_set 8 = .ok (.ifCond .lt 24, 3) := by decide +kernel
theorem dX4_set_11 : decode cX4_set 11 = .ok (.iload_n 2, 1) := by decide +kernel
theorem dX4_set_12 : decode cX4_set 12 = .ok (.bipush 6, 2) := by decide +kernel
theorem dX4_set_14 : decode cX4_set 14 = .ok (.if_icmp .gt 18, 3) := by decide +kernel
theorem dX4_set_17 : decode cX4_set 17 = .ok (.iload_n 3, 1) := by decide +kernel
theorem dX4_set_18 : decode cX4_set 18 = .ok (.invokestatic 53, 3) := by decide +kernel
theorem dX4_set_21 : decode cX4_set 21 = .ok (.ifCond .eq 11, 3) := by decide +kernel
theorem dX4_set_24 : decode cX4_set 24 = .ok (.iload 4, 2) := by decide +kernel
theorem dX4_set_26 : decode cX4_set 26 = .ok (.invokestatic 53, 3) := by decide +kernel
theorem dX4_set_29 : decode cX4_set 29 = .ok (.ifCond .ne 5, 3) := by decide +kernel
theorem dX4_set_32 : decode cX4_set 32 = .ok (.iconst (-1), 1) := by decide +kernel
theorem dX4_set_33 : decode cX4_set 33 = .ok (.ireturn, 1) := by decide +kernel
theorem dX4_set_34 : decode cX4_set 34 = .ok (.aload_n 0, 1) := by decide +kernel
theorem dX4_set_35 : decode cX4_set 35 = .ok (.iconst 1, 1) := by decide +kernel
theorem dX4_set_36 : decode cX4_set 36 = .ok (.iload_n 1, 1) := by decide +kernel
theorem dX4_set_37 : decode cX4_set 37 = .ok (.iload_n 2, 1) := by decide +kernel
theorem dX4_set_38 : decode cX4_set 38 = .ok (.iload_n 3, 1) := by decide +kernel
theorem dX4_set_39 : decode cX4_set 39 = .ok (.iload 4, 2) := by decide +kernel
theorem dX4_set_41 : decode cX4_set 41 = .ok (.invokevirtual 49, 3) := by decide +kernel
theorem dX4_set_44 : decode cX4_set 44 = .ok (.ireturn, 1) := by decide +kernel
theorem dX4_observe_0 : decode cX4_observe 0 = .ok (.iload_n 1, 1) := by decide +kernel
theorem dX4_observe_1 : decode cX4_observe 1 = .ok (.invokestatic 53, 3) := by decide +kernel
theorem dX4_observe_4 : decode cX4_observe 4 = .ok (.ifCond .eq 19, 3) := by decide +kernel
theorem dX4_observe_7 : decode cX4_observe 7 = .ok (.iload_n 2, 1) := by decide +kernel
theorem dX4_observe_8 : decode cX4_observe 8 = .ok (.ifCond .lt 15, 3) := by decide +kernel
theorem dX4_observe_11 : decode cX4_observe 11 = .ok (.iload_n 2, 1) := by decide +kernel
theorem dX4_observe_12 : decode cX4_observe 12 = .ok (.iconst 3, 1) := by decide +kernel
theorem dX4_observe_13 : decode cX4_observe 13 = .ok (.if_icmp .gt 10, 3) := by decide +kernel
theorem dX4_observe_16 : decode cX4_observe 16 = .ok (.iload_n 3, 1) := by decide +kernel
theorem dX4_observe_17 : decode cX4_observe 17 = .ok (.invokestatic 53, 3) := by decide +kernel
theorem dX4_observe_20 : decode cX4_observe 20 = .ok (.ifCond .ne 5, 3) := by decide +kernel
theorem dX4_observe_23 : decode cX4_observe 23 = .ok (.iconst (-1), 1) := by decide +kernel
theorem dX4_observe_24 : decode cX4_observe 24 = .ok (.ireturn, 1) := by decide +kernel
theorem dX4_observe_25 : decode cX4_observe 25 = .ok (.aload_n 0, 1) := by decide +kernel
theorem dX4_observe_26 : decode cX4_observe 26 = .ok (.iconst 2, 1) := by decide +kernel
theorem dX4_observe_27 : decode cX4_observe 27 = .ok (.iconst 0, 1) := by decide +kernel
theorem dX4_observe_28 : decode cX4_observe 28 = .ok (.iload_n 2, 1) := by decide +kernel
theorem dX4_observe_29 : decode cX4_observe 29 = .ok (.iload_n 1, 1) := by decide +kernel
theorem dX4_observe_30 : decode cX4_observe 30 = .ok (.iload_n 3, 1) := by decide +kernel
theorem dX4_observe_31 : decode cX4_observe 31 = .ok (.invokevirtual 49, 3) := by decide +kernel
theorem dX4_observe_34 : decode cX4_observe 34 = .ok (.ireturn, 1) := by decide +kernel
theorem dX4_weigh_0 : decode cX4_weigh 0 = .ok (.iload_n 1, 1) := by decide +kernel
theorem dX4_weigh_1 : decode cX4_weigh 1 = .ok (.invokestatic 53, 3) := by decide +kernel
theorem dX4_weigh_4 : decode cX4_weigh 4 = .ok (.ifCond .ne 5, 3) := by decide +kernel
theorem dX4_weigh_7 : decode cX4_weigh 7 = .ok (.iconst (-1), 1) := by decide +kernel
theorem dX4_weigh_8 : decode cX4_weigh 8 = .ok (.ireturn, 1) := by decide +kernel
theorem dX4_weigh_9 : decode cX4_weigh 9 = .ok (.aload_n 0, 1) := by decide +kernel
theorem dX4_weigh_10 : decode cX4_weigh 10 = .ok (.iconst 3, 1) := by decide +kernel
theorem dX4_weigh_11 : decode cX4_weigh 11 = .ok (.iconst 0, 1) := by decide +kernel
theorem dX4_weigh_12 : decode cX4_weigh 12 = .ok (.iconst 0, 1) := by decide +kernel
theorem dX4_weigh_13 : decode cX4_weigh 13 = .ok (.iload_n 1, 1) := by decide +kernel
theorem dX4_weigh_14 : decode cX4_weigh 14 = .ok (.bipush 10, 2) := by decide +kernel
theorem dX4_weigh_16 : decode cX4_weigh 16 = .ok (.invokevirtual 49, 3) := by decide +kernel
theorem dX4_weigh_19 : decode cX4_weigh 19 = .ok (.ireturn, 1) := by decide +kernel
theorem dX4_skip_0 : decode cX4_skip 0 = .ok (.iload_n 1, 1) := by decide +kernel
theorem dX4_skip_1 : decode cX4_skip 1 = .ok (.invokestatic 53, 3) := by decide +kernel
theorem dX4_skip_4 : decode cX4_skip 4 = .ok (.ifCond .eq 14, 3) := by decide +kernel
theorem dX4_skip_7 : decode cX4_skip 7 = .ok (.iload_n 2, 1) := by decide +kernel
theorem dX4_skip_8 : decode cX4_skip 8 = .ok (.iconst 1, 1) := by decide +kernel
theorem dX4_skip_9 : decode cX4_skip 9 = .ok (.if_icmp .lt 9, 3) := by decide +kernel
theorem dX4_skip_12 : decode cX4_skip 12 = .ok (.iload_n 2, 1) := by decide +kernel
theorem dX4_skip_13 : decode cX4_skip 13 = .ok (.bipush 9, 2) := by decide +kernel
theorem dX4_skip_15 : decode cX4_skip 15 = .ok (.if_icmp .le 5, 3) := by decide +kernel
theorem dX4_skip_18 : decode cX4_skip 18 = .ok (.iconst (-1), 1) := by decide +kernel
theorem dX4_skip_19 : decode cX4_skip 19 = .ok (.ireturn, 1) := by decide +kernel
theorem dX4_skip_20 : decode cX4_skip 20 = .ok (.aload_n 0, 1) := by decide +kernel
theorem dX4_skip_21 : decode cX4_skip 21 = .ok (.iconst 4, 1) := by decide +kernel
theorem dX4_skip_22 : decode cX4_skip 22 = .ok (.iconst 0, 1) := by decide +kernel
theorem dX4_skip_23 : decode cX4_skip 23 = .ok (.iload_n 2, 1) := by decide +kernel
theorem dX4_skip_24 : decode cX4_skip 24 = .ok (.iload_n 1, 1) := by decide +kernel
theorem dX4_skip_25 : decode cX4_skip 25 = .ok (.bipush 10, 2) := by decide +kernel
theorem dX4_skip_27 : decode cX4_skip 27 = .ok (.invokevirtual 49, 3) := by decide +kernel
theorem dX4_skip_30 : decode cX4_skip 30 = .ok (.ireturn, 1) := by decide +kernel
theorem dX4_drop_0 : decode cX4_drop 0 = .ok (.aload_n 0, 1) := by decide +kernel
theorem dX4_drop_1 : decode cX4_drop 1 = .ok (.getfield 12, 3) := by decide +kernel
theorem dX4_drop_4 : decode cX4_drop 4 = .ok (.getfield 56, 3) := by decide +kernel
theorem dX4_drop_7 : decode cX4_drop 7 = .ok (.ifCond .ne 6, 3) := by decide +kernel
theorem dX4_drop_10 : decode cX4_drop 10 = .ok (.bipush (-3), 2) := by decide +kernel
theorem dX4_drop_12 : decode cX4_drop 12 = .ok (.ireturn, 1) := by decide +kernel
theorem dX4_drop_13 : decode cX4_drop 13 = .ok (.aload_n 0, 1) := by decide +kernel
theorem dX4_drop_14 : decode cX4_drop 14 = .ok (.invokevirtual 39, 3) := by decide +kernel
theorem dX4_drop_17 : decode cX4_drop 17 = .ok (.aload_n 0, 1) := by decide +kernel
theorem dX4_drop_18 : decode cX4_drop 18 = .ok (.getfield 12, 3) := by decide +kernel
theorem dX4_drop_21 : decode cX4_drop 21 = .ok (.invokevirtual 60, 3) := by decide +kernel
theorem dX4_drop_24 : decode cX4_drop 24 = .ok (.ireturn, 1) := by decide +kernel
theorem dX4_ask_0 : decode cX4_ask 0 = .ok (.iload_n 1, 1) := by decide +kernel
theorem dX4_ask_1 : decode cX4_ask 1 = .ok (.invokestatic 46, 3) := by decide +kernel
theorem dX4_ask_4 : decode cX4_ask 4 = .ok (.ifCond .ne 5, 3) := by decide +kernel
theorem dX4_ask_7 : decode cX4_ask 7 = .ok (.iconst (-1), 1) := by decide +kernel
theorem dX4_ask_8 : decode cX4_ask 8 = .ok (.ireturn, 1) := by decide +kernel
theorem dX4_ask_9 : decode cX4_ask 9 = .ok (.aload_n 0, 1) := by decide +kernel
theorem dX4_ask_10 : decode cX4_ask 10 = .ok (.getfield 21, 3) := by decide +kernel
theorem dX4_ask_13 : decode cX4_ask 13 = .ok (.invokevirtual 64, 3) := by decide +kernel
theorem dX4_ask_16 : decode cX4_ask 16 = .ok (.aload_n 0, 1) := by decide +kernel
theorem dX4_ask_17 : decode cX4_ask 17 = .ok (.getfield 12, 3) := by decide +kernel
theorem dX4_ask_20 : decode cX4_ask 20 = .ok (.iload_n 1, 1) := by decide +kernel
theorem dX4_ask_21 : decode cX4_ask 21 = .ok (.iload_n 2, 1) := by decide +kernel
theorem dX4_ask_22 : decode cX4_ask 22 = .ok (.invokevirtual 67, 3) := by decide +kernel
theorem dX4_ask_25 : decode cX4_ask 25 = .ok (.ifCond .eq 7, 3) := by decide +kernel
theorem dX4_ask_28 : decode cX4_ask 28 = .ok (.iconst 1, 1) := by decide +kernel
theorem dX4_ask_29 : decode cX4_ask 29 = .ok (.goto 4, 3) := by decide +kernel
theorem dX4_ask_32 : decode cX4_ask 32 = .ok (.iconst 0, 1) := by decide +kernel
theorem dX4_ask_33 : decode cX4_ask 33 = .ok (.ireturn, 1) := by decide +kernel
theorem dX4_live_0 : decode cX4_live 0 = .ok (.aload_n 0, 1) := by decide +kernel
theorem dX4_live_1 : decode cX4_live 1 = .ok (.iload_n 1, 1) := by decide +kernel
theorem dX4_live_2 : decode cX4_live 2 = .ok (.invokevirtual 71, 3) := by decide +kernel
theorem dX4_live_5 : decode cX4_live 5 = .ok (.ifCond .ne 5, 3) := by decide +kernel
theorem dX4_live_8 : decode cX4_live 8 = .ok (.iconst (-1), 1) := by decide +kernel
theorem dX4_live_9 : decode cX4_live 9 = .ok (.ireturn, 1) := by decide +kernel
theorem dX4_live_10 : decode cX4_live 10 = .ok (.aload_n 0, 1) := by decide +kernel
theorem dX4_live_11 : decode cX4_live 11 = .ok (.getfield 12, 3) := by decide +kernel
theorem dX4_live_14 : decode cX4_live 14 = .ok (.invokevirtual 74, 3) := by decide +kernel
theorem dX4_live_17 : decode cX4_live 17 = .ok (.aload_n 0, 1) := by decide +kernel
theorem dX4_live_18 : decode cX4_live 18 = .ok (.getfield 12, 3) := by decide +kernel
theorem dX4_live_21 : decode cX4_live 21 = .ok (.iload_n 1, 1) := by decide +kernel
theorem dX4_live_22 : decode cX4_live 22 = .ok (.invokevirtual 77, 3) := by decide +kernel
theorem dX4_live_25 : decode cX4_live 25 = .ok (.ireturn, 1) := by decide +kernel
theorem dX4_begin_0 : decode cX4_begin 0 = .ok (.aload_n 0, 1) := by decide +kernel
theorem dX4_begin_1 : decode cX4_begin 1 = .ok (.getfield 12, 3) := by decide +kernel
theorem dX4_begin_4 : decode cX4_begin 4 = .ok (.invokevirtual 81, 3) := by decide +kernel
theorem dX4_begin_7 : decode cX4_begin 7 = .ok (.ifCond .eq 6, 3) := by decide +kernel
theorem dX4_begin_10 : decode cX4_begin 10 = .ok (.bipush (-4), 2) := by decide +kernel
theorem dX4_begin_12 : decode cX4_begin 12 = .ok (.ireturn, 1) := by decide +kernel
theorem dX4_begin_13 : decode cX4_begin 13 = .ok (.aload_n 0, 1) := by decide +kernel
theorem dX4_begin_14 : decode cX4_begin 14 = .ok (.getfield 21, 3) := by decide +kernel
theorem dX4_begin_17 : decode cX4_begin 17 = .ok (.invokevirtual 85, 3) := by decide +kernel
theorem dX4_begin_20 : decode cX4_begin 20 = .ok (.iconst 1, 1) := by decide +kernel
theorem dX4_begin_21 : decode cX4_begin 21 = .ok (.ireturn, 1) := by decide +kernel
theorem dX4_list_0 : decode cX4_list 0 = .ok (.iload_n 1, 1) := by decide +kernel
theorem dX4_list_1 : decode cX4_list 1 = .ok (.iconst 1, 1) := by decide +kernel
theorem dX4_list_2 : decode cX4_list 2 = .ok (.if_icmp .lt 10, 3) := by decide +kernel
theorem dX4_list_5 : decode cX4_list 5 = .ok (.iload_n 1, 1) := by decide +kernel
theorem dX4_list_6 : decode cX4_list 6 = .ok (.sipush 1000, 3) := by decide +kernel
theorem dX4_list_9 : decode cX4_list 9 = .ok (.if_icmp .le 5, 3) := by decide +kernel
theorem dX4_list_12 : decode cX4_list 12 = .ok (.iconst (-1), 1) := by decide +kernel
theorem dX4_list_13 : decode cX4_list 13 = .ok (.ireturn, 1) := by decide +kernel
theorem dX4_list_14 : decode cX4_list 14 = .ok (.aload_n 0, 1) := by decide +kernel
theorem dX4_list_15 : decode cX4_list 15 = .ok (.getfield 21, 3) := by decide +kernel
theorem dX4_list_18 : decode cX4_list 18 = .ok (.getfield 88, 3) := by decide +kernel
theorem dX4_list_21 : decode cX4_list 21 = .ok (.ifCond .eq 14, 3) := by decide +kernel
theorem dX4_list_24 : decode cX4_list 24 = .ok (.aload_n 0, 1) := by decide +kernel
theorem dX4_list_25 : decode cX4_list 25 = .ok (.getfield 21, 3) := by decide +kernel
theorem dX4_list_28 : decode cX4_list 28 = .ok (.iload_n 1, 1) := by decide +kernel
theorem dX4_list_29 : decode cX4_list 29 = .ok (.invokevirtual 92, 3) := by decide +kernel
theorem dX4_list_32 : decode cX4_list 32 = .ok (.goto 5, 3) := by decide +kernel
theorem dX4_list_35 : decode cX4_list 35 = .ok (.bipush (-3), 2) := by decide +kernel
theorem dX4_list_37 : decode cX4_list 37 = .ok (.ireturn, 1) := by decide +kernel
theorem dX4_done_0 : decode cX4_done 0 = .ok (.aload_n 0, 1) := by decide +kernel
theorem dX4_done_1 : decode cX4_done 1 = .ok (.getfield 21, 3) := by decide +kernel
theorem dX4_done_4 : decode cX4_done 4 = .ok (.getfield 88, 3) := by decide +kernel
theorem dX4_done_7 : decode cX4_done 7 = .ok (.ifCond .ne 6, 3) := by decide +kernel
theorem dX4_done_10 : decode cX4_done 10 = .ok (.bipush (-3), 2) := by decide +kernel
theorem dX4_done_12 : decode cX4_done 12 = .ok (.ireturn, 1) := by decide +kernel
theorem dX4_done_13 : decode cX4_done 13 = .ok (.aload_n 0, 1) := by decide +kernel
theorem dX4_done_14 : decode cX4_done 14 = .ok (.getfield 21, 3) := by decide +kernel
theorem dX4_done_17 : decode cX4_done 17 = .ok (.invokevirtual 95, 3) := by decide +kernel
theorem dX4_done_20 : decode cX4_done 20 = .ok (.istore_n 1, 1) := by decide +kernel
theorem dX4_done_21 : decode cX4_done 21 = .ok (.iload_n 1, 1) := by decide +kernel
theorem dX4_done_22 : decode cX4_done 22 = .ok (.bipush (-5), 2) := by decide +kernel
theorem dX4_done_24 : decode cX4_done 24 = .ok (.if_icmp .ne 5, 3) := by decide +kernel
theorem dX4_done_27 : decode cX4_done 27 = .ok (.iconst 1, 1) := by decide +kernel
theorem dX4_done_28 : decode cX4_done 28 = .ok (.ireturn, 1) := by decide +kernel
theorem dX4_done_29 : decode cX4_done 29 = .ok (.aload_n 0, 1) := by decide +kernel
theorem dX4_done_30 : decode cX4_done 30 = .ok (.getfield 21, 3) := by decide +kernel
theorem dX4_done_33 : decode cX4_done 33 = .ok (.iload_n 1, 1) := by decide +kernel
theorem dX4_done_34 : decode cX4_done 34 = .ok (.invokevirtual 98, 3) := by decide +kernel
theorem dX4_done_37 : decode cX4_done 37 = .ok (.ifCond .eq 7, 3) := by decide +kernel
theorem dX4_done_40 : decode cX4_done 40 = .ok (.iconst 0, 1) := by decide +kernel
theorem dX4_done_41 : decode cX4_done 41 = .ok (.goto 4, 3) := by decide +kernel
theorem dX4_done_44 : decode cX4_done 44 = .ok (.iconst 2, 1) := by decide +kernel
theorem dX4_done_45 : decode cX4_done 45 = .ok (.ireturn, 1) := by decide +kernel
theorem dX4_states_0 : decode cX4_states 0 = .ok (.aload_n 0, 1) := by decide +kernel
theorem dX4_states_1 : decode cX4_states 1 = .ok (.iload_n 1, 1) := by decide +kernel
theorem dX4_states_2 : decode cX4_states 2 = .ok (.invokevirtual 71, 3) := by decide +kernel
theorem dX4_states_5 : decode cX4_states 5 = .ok (.ifCond .eq 12, 3) := by decide +kernel
theorem dX4_states_8 : decode cX4_states 8 = .ok (.iload_n 2, 1) := by decide +kernel
theorem dX4_states_9 : decode cX4_states 9 = .ok (.ifCond .lt 8, 3) := by decide +kernel
theorem dX4_states_12 : decode cX4_states 12 = .ok (.iload_n 2, 1) := by decide +kernel
theorem dX4_states_13 : decode cX4_states 13 = .ok (.iconst 2, 1) := by decide +kernel
theorem dX4_states_14 : decode cX4_states 14 = .ok (.if_icmp .le 5, 3) := by decide +kernel
theorem dX4_states_17 : decode cX4_states 17 = .ok (.iconst (-1), 1) := by decide +kernel
theorem dX4_states_18 : decode cX4_states 18 = .ok (.ireturn, 1) := by decide +kernel
theorem dX4_states_19 : decode cX4_states 19 = .ok (.aload_n 0, 1) := by decide +kernel
theorem dX4_states_20 : decode cX4_states 20 = .ok (.getfield 21, 3) := by decide +kernel
theorem dX4_states_23 : decode cX4_states 23 = .ok (.getfield 88, 3) := by decide +kernel
theorem dX4_states_26 : decode cX4_states 26 = .ok (.ifCond .ne 6, 3) := by decide +kernel
theorem dX4_states_29 : decode cX4_states 29 = .ok (.bipush (-3), 2) := by decide +kernel
theorem dX4_states_31 : decode cX4_states 31 = .ok (.ireturn, 1) := by decide +kernel
theorem dX4_states_32 : decode cX4_states 32 = .ok (.iload_n 2, 1) := by decide +kernel
theorem dX4_states_33 : decode cX4_states 33 = .ok (.ifCond .ne 12, 3) := by decide +kernel
theorem dX4_states_36 : decode cX4_states 36 = .ok (.aload_n 0, 1) := by decide +kernel
theorem dX4_states_37 : decode cX4_states 37 = .ok (.getfield 21, 3) := by decide +kernel
theorem dX4_states_40 : decode cX4_states 40 = .ok (.iload_n 1, 1) := by decide +kernel
theorem dX4_states_41 : decode cX4_states 41 = .ok (.invokevirtual 101, 3) := by decide +kernel
theorem dX4_states_44 : decode cX4_states 44 = .ok (.ireturn, 1) := by decide +kernel
theorem dX4_states_45 : decode cX4_states 45 = .ok (.iload_n 2, 1) := by decide +kernel
theorem dX4_states_46 : decode cX4_states 46 = .ok (.iconst 1, 1) := by decide +kernel
theorem dX4_states_47 : decode cX4_states 47 = .ok (.if_icmp .ne 15, 3) := by decide +kernel
theorem dX4_states_50 : decode cX4_states 50 = .ok (.aload_n 0, 1) := by decide +kernel
theorem dX4_states_51 : decode cX4_states 51 = .ok (.getfield 21, 3) := by decide +kernel
theorem dX4_states_54 : decode cX4_states 54 = .ok (.getfield 104, 3) := by decide +kernel
theorem dX4_states_57 : decode cX4_states 57 = .ok (.iload_n 1, 1) := by decide +kernel
theorem dX4_states_58 : decode cX4_states 58 = .ok (.iaload, 1) := by decide +kernel
theorem dX4_states_59 : decode cX4_states 59 = .ok (.goto 12, 3) := by decide +kernel
theorem dX4_states_62 : decode cX4_states 62 = .ok (.aload_n 0, 1) := by decide +kernel
theorem dX4_states_63 : decode cX4_states 63 = .ok (.getfield 21, 3) := by decide +kernel
theorem dX4_states_66 : decode cX4_states 66 = .ok (.getfield 108, 3) := by decide +kernel
theorem dX4_states_69 : decode cX4_states 69 = .ok (.iload_n 1, 1) := by decide +kernel
theorem dX4_states_70 : decode cX4_states 70 = .ok (.iaload, 1) := by decide +kernel
theorem dX4_states_71 : decode cX4_states 71 = .ok (.ireturn, 1) := by decide +kernel
theorem dX4_code_0 : decode cX4_code 0 = .ok (.aload_n 0, 1) := by decide +kernel
theorem dX4_code_1 : decode cX4_code 1 = .ok (.iload_n 1, 1) := by decide +kernel
theorem dX4_code_2 : decode cX4_code 2 = .ok (.invokevirtual 71, 3) := by decide +kernel
theorem dX4_code_5 : decode cX4_code 5 = .ok (.ifCond .ne 5, 3) := by decide +kernel
theorem dX4_code_8 : decode cX4_code 8 = .ok (.iconst (-1), 1) := by decide +kernel
theorem dX4_code_9 : decode cX4_code 9 = .ok (.ireturn, 1) := by decide +kernel
theorem dX4_code_10 : decode cX4_code 10 = .ok (.aload_n 0, 1) := by decide +kernel
theorem dX4_code_11 : decode cX4_code 11 = .ok (.getfield 21, 3) := by decide +kernel
theorem dX4_code_14 : decode cX4_code 14 = .ok (.getfield 88, 3) := by decide +kernel
theorem dX4_code_17 : decode cX4_code 17 = .ok (.ifCond .ne 6, 3) := by decide +kernel
theorem dX4_code_20 : decode cX4_code 20 = .ok (.bipush (-3), 2) := by decide +kernel
theorem dX4_code_22 : decode cX4_code 22 = .ok (.ireturn, 1) := by decide +kernel
theorem dX4_code_23 : decode cX4_code 23 = .ok (.aload_n 0, 1) := by decide +kernel
theorem dX4_code_24 : decode cX4_code 24 = .ok (.getfield 21, 3) := by decide +kernel
theorem dX4_code_27 : decode cX4_code 27 = .ok (.iload_n 1, 1) := by decide +kernel
theorem dX4_code_28 : decode cX4_code 28 = .ok (.iload_n 2, 1) := by decide +kernel
theorem dX4_code_29 : decode cX4_code 29 = .ok (.invokevirtual 111, 3) := by decide +kernel
theorem dX4_code_32 : decode cX4_code 32 = .ok (.ifCond .eq 18, 3) := by decide +kernel
theorem dX4_code_35 : decode cX4_code 35 = .ok (.aload_n 0, 1) := by decide +kernel
theorem dX4_code_36 : decode cX4_code 36 = .ok (.getfield 21, 3) := by decide +kernel
theorem dX4_code_39 : decode cX4_code 39 = .ok (.iload_n 1, 1) := by decide +kernel
theorem dX4_code_40 : decode cX4_code 40 = .ok (.iload_n 2, 1) := by decide +kernel
theorem dX4_code_41 : decode cX4_code 41 = .ok (.invokevirtual 115, 3) := by decide +kernel
theorem dX4_code_44 : decode cX4_code 44 = .ok (.invokestatic 119, 3) := by decide +kernel
theorem dX4_code_47 : decode cX4_code 47 = .ok (.goto 5, 3) := by decide +kernel
theorem dX4_code_50 : decode cX4_code 50 = .ok (.bipush (-5), 2) := by decide +kernel
theorem dX4_code_52 : decode cX4_code 52 = .ok (.ireturn, 1) := by decide +kernel
theorem dX4_mass_0 : decode cX4_mass 0 = .ok (.aload_n 0, 1) := by decide +kernel
theorem dX4_mass_1 : decode cX4_mass 1 = .ok (.iload_n 1, 1) := by decide +kernel
theorem dX4_mass_2 : decode cX4_mass 2 = .ok (.invokevirtual 71, 3) := by decide +kernel
theorem dX4_mass_5 : decode cX4_mass 5 = .ok (.ifCond .eq 25, 3) := by decide +kernel
theorem dX4_mass_8 : decode cX4_mass 8 = .ok (.aload_n 0, 1) := by decide +kernel
theorem dX4_mass_9 : decode cX4_mass 9 = .ok (.getfield 21, 3) := by decide +kernel
theorem dX4_mass_12 : decode cX4_mass 12 = .ok (.getfield 88, 3) := by decide +kernel
theorem dX4_mass_15 : decode cX4_mass 15 = .ok (.ifCond .eq 15, 3) := by decide +kernel
theorem dX4_mass_18 : decode cX4_mass 18 = .ok (.aload_n 0, 1) := by decide +kernel
theorem dX4_mass_19 : decode cX4_mass 19 = .ok (.getfield 21, 3) := by decide +kernel
theorem dX4_mass_22 : decode cX4_mass 22 = .ok (.iload_n 1, 1) := by decide +kernel
theorem dX4_mass_23 : decode cX4_mass 23 = .ok (.iload_n 2, 1) := by decide +kernel
theorem dX4_mass_24 : decode cX4_mass 24 = .ok (.invokevirtual 111, 3) := by decide +kernel
theorem dX4_mass_27 : decode cX4_mass 27 = .ok (.ifCond .ne 5, 3) := by decide +kernel
theorem dX4_mass_30 : decode cX4_mass 30 = .ok (.lconst 0, 1) := by decide +kernel
theorem dX4_mass_31 : decode cX4_mass 31 = .ok (.lreturn, 1) := by decide +kernel
theorem dX4_mass_32 : decode cX4_mass 32 = .ok (.aload_n 0, 1) := by decide +kernel
theorem dX4_mass_33 : decode cX4_mass 33 = .ok (.getfield 21, 3) := by decide +kernel
theorem dX4_mass_36 : decode cX4_mass 36 = .ok (.iload_n 1, 1) := by decide +kernel
theorem dX4_mass_37 : decode cX4_mass 37 = .ok (.iload_n 2, 1) := by decide +kernel
theorem dX4_mass_38 : decode cX4_mass 38 = .ok (.invokevirtual 124, 3) := by decide +kernel
theorem dX4_mass_41 : decode cX4_mass 41 = .ok (.lreturn, 1) := by decide +kernel
theorem dX4_sum_0 : decode cX4_sum 0 = .ok (.iload_n 1, 1) := by decide +kernel
theorem dX4_sum_1 : decode cX4_sum 1 = .ok (.ifCond .lt 26, 3) := by decide +kernel
theorem dX4_sum_4 : decode cX4_sum 4 = .ok (.iload_n 1, 1) := by decide +kernel
theorem dX4_sum_5 : decode cX4_sum 5 = .ok (.iconst 2, 1) := by decide +kernel
theorem dX4_sum_6 : decode cX4_sum 6 = .ok (.if_icmp .gt 21, 3) := by decide +kernel
theorem dX4_sum_9 : decode cX4_sum 9 = .ok (.iload_n 2, 1) := by decide +kernel
theorem dX4_sum_10 : decode cX4_sum 10 = .ok (.iload_n 3, 1) := by decide +kernel
theorem dX4_sum_11 : decode cX4_sum 11 = .ok (.invokestatic 128, 3) := by decide +kernel
theorem dX4_sum_14 : decode cX4_sum 14 = .ok (.ifCond .eq 13, 3) := by decide +kernel
theorem dX4_sum_17 : decode cX4_sum 17 = .ok (.iload_n 2, 1) := by decide +kernel
theorem dX4_sum_18 : decode cX4_sum 18 = .ok (.iconst (-1), 1) := by decide +kernel
theorem dX4_sum_19 : decode cX4_sum 19 = .ok (.if_icmp .eq 12, 3) := by decide +kernel
theorem dX4_sum_22 : decode cX4_sum 22 = .ok (.iload_n 1, 1) := by decide +kernel
theorem dX4_sum_23 : decode cX4_sum 23 = .ok (.iconst 1, 1) := by decide +kernel
theorem dX4_sum_24 : decode cX4_sum 24 = .ok (.if_icmp .ne 7, 3) := by decide +kernel
theorem dX4_sum_27 : decode cX4_sum 27 = .ok (.ldc2_w 131, 3) := by decide +kernel
theorem dX4_sum_30 : decode cX4_sum 30 = .ok (.lreturn, 1) := by decide +kernel
theorem dX4_sum_31 : decode cX4_sum 31 = .ok (.aload_n 0, 1) := by decide +kernel
theorem dX4_sum_32 : decode cX4_sum 32 = .ok (.getfield 21, 3) := by decide +kernel
theorem dX4_sum_35 : decode cX4_sum 35 = .ok (.getfield 88, 3) := by decide +kernel
theorem dX4_sum_38 : decode cX4_sum 38 = .ok (.ifCond .ne 7, 3) := by decide +kernel
theorem dX4_sum_41 : decode cX4_sum 41 = .ok (.ldc2_w 133, 3) := by decide +kernel
theorem dX4_sum_44 : decode cX4_sum 44 = .ok (.lreturn, 1) := by decide +kernel
theorem dX4_sum_45 : decode cX4_sum 45 = .ok (.iload_n 1, 1) := by decide +kernel
theorem dX4_sum_46 : decode cX4_sum 46 = .ok (.iconst 1, 1) := by decide +kernel
theorem dX4_sum_47 : decode cX4_sum 47 = .ok (.if_icmp .ne 11, 3) := by decide +kernel
theorem dX4_sum_50 : decode cX4_sum 50 = .ok (.aload_n 0, 1) := by decide +kernel
theorem dX4_sum_51 : decode cX4_sum 51 = .ok (.getfield 21, 3) := by decide +kernel
theorem dX4_sum_54 : decode cX4_sum 54 = .ok (.getfield 135, 3) := by decide +kernel
theorem dX4_sum_57 : decode cX4_sum 57 = .ok (.lreturn, 1) := by decide +kernel
theorem dX4_sum_58 : decode cX4_sum 58 = .ok (.iload_n 1, 1) := by decide +kernel
theorem dX4_sum_59 : decode cX4_sum 59 = .ok (.ifCond .ne 22, 3) := by decide +kernel
theorem dX4_sum_62 : decode cX4_sum 62 = .ok (.aload_n 0, 1) := by decide +kernel
theorem dX4_sum_63 : decode cX4_sum 63 = .ok (.getfield 21, 3) := by decide +kernel
theorem dX4_sum_66 : decode cX4_sum 66 = .ok (.aload_n 0, 1) := by decide +kernel
theorem dX4_sum_67 : decode cX4_sum 67 = .ok (.getfield 12, 3) := by decide +kernel
theorem dX4_sum_70 : decode cX4_sum 70 = .ok (.getfield 56, 3) := by decide +kernel
theorem dX4_sum_73 : decode cX4_sum 73 = .ok (.iload_n 2, 1) := by decide +kernel
theorem dX4_sum_74 : decode cX4_sum 74 = .ok (.iload_n 3, 1) := by decide +kernel
theorem dX4_sum_75 : decode cX4_sum 75 = .ok (.invokevirtual 139, 3) := by decide +kernel
theorem dX4_sum_78 : decode cX4_sum 78 = .ok (.goto 12, 3) := by decide +kernel
theorem dX4_sum_81 : decode cX4_sum 81 = .ok (.aload_n 0, 1) := by decide +kernel
theorem dX4_sum_82 : decode cX4_sum 82 = .ok (.getfield 21, 3) := by decide +kernel
theorem dX4_sum_85 : decode cX4_sum 85 = .ok (.iload_n 2, 1) := by decide +kernel
theorem dX4_sum_86 : decode cX4_sum 86 = .ok (.iload_n 3, 1) := by decide +kernel
theorem dX4_sum_87 : decode cX4_sum 87 = .ok (.invokevirtual 143, 3) := by decide +kernel
theorem dX4_sum_90 : decode cX4_sum 90 = .ok (.lreturn, 1) := by decide +kernel
theorem dX4_odds_0 : decode cX4_odds 0 = .ok (.iload_n 1, 1) := by decide +kernel
theorem dX4_odds_1 : decode cX4_odds 1 = .ok (.invokestatic 46, 3) := by decide +kernel
theorem dX4_odds_4 : decode cX4_odds 4 = .ok (.ifCond .eq 30, 3) := by decide +kernel
theorem dX4_odds_7 : decode cX4_odds 7 = .ok (.iload_n 2, 1) := by decide +kernel
theorem dX4_odds_8 : decode cX4_odds 8 = .ok (.invokestatic 36, 3) := by decide +kernel
theorem dX4_odds_11 : decode cX4_odds 11 = .ok (.ifCond .eq 23, 3) := by decide +kernel
theorem dX4_odds_14 : decode cX4_odds 14 = .ok (.iload_n 3, 1) := by decide +kernel
theorem dX4_odds_15 : decode cX4_odds 15 = .ok (.ifCond .lt 19, 3) := by decide +kernel
theorem dX4_odds_18 : decode cX4_odds 18 = .ok (.iload_n 3, 1) := by decide +kernel
theorem dX4_odds_19 : decode cX4_odds 19 = .ok (.iconst 1, 1) := by decide +kernel
theorem dX4_odds_20 : decode cX4_odds 20 = .ok (.if_icmp .gt 14, 3) := by decide +kernel
theorem dX4_odds_23 : decode cX4_odds 23 = .ok (.aload_n 0, 1) := by decide +kernel
theorem dX4_odds_24 : decode cX4_odds 24 = .ok (.getfield 12, 3) := by decide +kernel
theorem dX4_odds_27 : decode cX4_odds 27 = .ok (.iload_n 1, 1) := by decide +kernel
theorem dX4_odds_28 : decode cX4_odds 28 = .ok (.invokevirtual 146, 3) := by decide +kernel
theorem dX4_odds_31 : decode cX4_odds 31 = .ok (.ifCond .ne 7, 3) := by decide +kernel
theorem dX4_odds_34 : decode cX4_odds 34 = .ok (.ldc2_w 131, 3) := by decide +kernel
theorem dX4_odds_37 : decode cX4_odds 37 = .ok (.lreturn, 1) := by decide +kernel
theorem dX4_odds_38 : decode cX4_odds 38 = .ok (.aload_n 0, 1) := by decide +kernel
theorem dX4_odds_39 : decode cX4_odds 39 = .ok (.getfield 21, 3) := by decide +kernel
theorem dX4_odds_42 : decode cX4_odds 42 = .ok (.getfield 88, 3) := by decide +kernel
theorem dX4_odds_45 : decode cX4_odds 45 = .ok (.ifCond .eq 15, 3) := by decide +kernel
theorem dX4_odds_48 : decode cX4_odds 48 = .ok (.aload_n 0, 1) := by decide +kernel
theorem dX4_odds_49 : decode cX4_odds 49 = .ok (.getfield 21, 3) := by decide +kernel
theorem dX4_odds_52 : decode cX4_odds 52 = .ok (.invokevirtual 95, 3) := by decide +kernel
theorem dX4_odds_55 : decode cX4_odds 55 = .ok (.bipush (-5), 2) := by decide +kernel
theorem dX4_odds_57 : decode cX4_odds 57 = .ok (.if_icmp .eq 7, 3) := by decide +kernel
theorem dX4_odds_60 : decode cX4_odds 60 = .ok (.ldc2_w 133, 3) := by decide +kernel
theorem dX4_odds_63 : decode cX4_odds 63 = .ok (.lreturn, 1) := by decide +kernel
theorem dX4_odds_64 : decode cX4_odds 64 = .ok (.aload_n 0, 1) := by decide +kernel
theorem dX4_odds_65 : decode cX4_odds 65 = .ok (.getfield 21, 3) := by decide +kernel
theorem dX4_odds_68 : decode cX4_odds 68 = .ok (.aload_n 0, 1) := by decide +kernel
theorem dX4_odds_69 : decode cX4_odds 69 = .ok (.getfield 12, 3) := by decide +kernel
theorem dX4_odds_72 : decode cX4_odds 72 = .ok (.getfield 56, 3) := by decide +kernel
theorem dX4_odds_75 : decode cX4_odds 75 = .ok (.iload_n 1, 1) := by decide +kernel
theorem dX4_odds_76 : decode cX4_odds 76 = .ok (.iload_n 2, 1) := by decide +kernel
theorem dX4_odds_77 : decode cX4_odds 77 = .ok (.invokevirtual 139, 3) := by decide +kernel
theorem dX4_odds_80 : decode cX4_odds 80 = .ok (.lstore 4, 2) := by decide +kernel
theorem dX4_odds_82 : decode cX4_odds 82 = .ok (.aload_n 0, 1) := by decide +kernel
theorem dX4_odds_83 : decode cX4_odds 83 = .ok (.getfield 21, 3) := by decide +kernel
theorem dX4_odds_86 : decode cX4_odds 86 = .ok (.aload_n 0, 1) := by decide +kernel
theorem dX4_odds_87 : decode cX4_odds 87 = .ok (.getfield 12, 3) := by decide +kernel
theorem dX4_odds_90 : decode cX4_odds 90 = .ok (.getfield 56, 3) := by decide +kernel
theorem dX4_odds_93 : decode cX4_odds 93 = .ok (.iconst (-1), 1) := by decide +kernel
theorem dX4_odds_94 : decode cX4_odds 94 = .ok (.iconst 0, 1) := by decide +kernel
theorem dX4_odds_95 : decode cX4_odds 95 = .ok (.invokevirtual 139, 3) := by decide +kernel
theorem dX4_odds_98 : decode cX4_odds 98 = .ok (.lstore 6, 2) := by decide +kernel
theorem dX4_odds_100 : decode cX4_odds 100 = .ok (.lload 4, 2) := by decide +kernel
theorem dX4_odds_102 : decode cX4_odds 102 = .ok (.lload 6, 2) := by decide +kernel
theorem dX4_odds_104 : decode cX4_odds 104 = .ok (.invokestatic 149, 3) := by decide +kernel
theorem dX4_odds_107 : decode cX4_odds 107 = .ok (.lstore 8, 2) := by decide +kernel
theorem dX4_odds_109 : decode cX4_odds 109 = .ok (.lload 6, 2) := by decide +kernel
theorem dX4_odds_111 : decode cX4_odds 111 = .ok (.lconst 0, 1) := by decide +kernel
theorem dX4_odds_112 : decode cX4_odds 112 = .ok (.lcmp, 1) := by decide +kernel
theorem dX4_odds_113 : decode cX4_odds 113 = .ok (.ifCond .le 10, 3) := by decide +kernel
theorem dX4_odds_116 : decode cX4_odds 116 = .ok (.lload 8, 2) := by decide +kernel
theorem dX4_odds_118 : decode cX4_odds 118 = .ok (.lconst 0, 1) := by decide +kernel
theorem dX4_odds_119 : decode cX4_odds 119 = .ok (.lcmp, 1) := by decide +kernel
theorem dX4_odds_120 : decode cX4_odds 120 = .ok (.ifCond .gt 13, 3) := by decide +kernel
theorem dX4_odds_123 : decode cX4_odds 123 = .ok (.new 153, 3) := by decide +kernel
theorem dX4_odds_126 : decode cX4_odds 126 = .ok (.dup, 1) := by decide +kernel
theorem dX4_odds_127 : decode cX4_odds 127 = .ok (.ldc 155, 2) := by decide +kernel
theorem dX4_odds_129 : decode cX4_odds 129 = .ok (.invokespecial 157, 3) := by decide +kernel
theorem dX4_odds_132 : decode cX4_odds 132 = .ok (.athrow, 1) := by decide +kernel
theorem dX4_odds_133 : decode cX4_odds 133 = .ok (.iload_n 3, 1) := by decide +kernel
theorem dX4_odds_134 : decode cX4_odds 134 = .ok (.ifCond .ne 11, 3) := by decide +kernel
theorem dX4_odds_137 : decode cX4_odds 137 = .ok (.lload 4, 2) := by decide +kernel
theorem dX4_odds_139 : decode cX4_odds 139 = .ok (.lload 8, 2) := by decide +kernel
theorem dX4_odds_141 : decode cX4_odds 141 = .ok (.ldiv, 1) := by decide +kernel
theorem dX4_odds_142 : decode cX4_odds 142 = .ok (.goto 8, 3) := by decide +kernel
theorem dX4_odds_145 : decode cX4_odds 145 = .ok (.lload 6, 2) := by decide +kernel
theorem dX4_odds_147 : decode cX4_odds 147 = .ok (.lload 8, 2) := by decide +kernel
theorem dX4_odds_149 : decode cX4_odds 149 = .ok (.ldiv, 1) := by decide +kernel
theorem dX4_odds_150 : decode cX4_odds 150 = .ok (.lreturn, 1) := by decide +kernel
theorem dX4_runs_0 : decode cX4_runs 0 = .ok (.aload_n 0, 1) := by decide +kernel
theorem dX4_runs_1 : decode cX4_runs 1 = .ok (.getfield 28, 3) := by decide +kernel
theorem dX4_runs_4 : decode cX4_runs 4 = .ok (.invokevirtual 160, 3) := by decide +kernel
theorem dX4_runs_7 : decode cX4_runs 7 = .ok (.ireturn, 1) := by decide +kernel
theorem dX4_plain_0 : decode cX4_plain 0 = .ok (.iload_n 1, 1) := by decide +kernel
theorem dX4_plain_1 : decode cX4_plain 1 = .ok (.iload_n 2, 1) := by decide +kernel
theorem dX4_plain_2 : decode cX4_plain 2 = .ok (.invokestatic 128, 3) := by decide +kernel
theorem dX4_plain_5 : decode cX4_plain 5 = .ok (.ifCond .ne 7, 3) := by decide +kernel
theorem dX4_plain_8 : decode cX4_plain 8 = .ok (.ldc2_w 131, 3) := by decide +kernel
theorem dX4_plain_11 : decode cX4_plain 11 = .ok (.lreturn, 1) := by decide +kernel
theorem dX4_plain_12 : decode cX4_plain 12 = .ok (.aload_n 0, 1) := by decide +kernel
theorem dX4_plain_13 : decode cX4_plain 13 = .ok (.getfield 28, 3) := by decide +kernel
theorem dX4_plain_16 : decode cX4_plain 16 = .ok (.invokevirtual 160, 3) := by decide +kernel
theorem dX4_plain_19 : decode cX4_plain 19 = .ok (.istore_n 3, 1) := by decide +kernel
theorem dX4_plain_20 : decode cX4_plain 20 = .ok (.iload_n 3, 1) := by decide +kernel
theorem dX4_plain_21 : decode cX4_plain 21 = .ok (.ifCond .ge 6, 3) := by decide +kernel
theorem dX4_plain_24 : decode cX4_plain 24 = .ok (.iload_n 3, 1) := by decide +kernel
theorem dX4_plain_25 : decode cX4_plain 25 = .ok (.i2l, 1) := by decide +kernel
theorem dX4_plain_26 : decode cX4_plain 26 = .ok (.lreturn, 1) := by decide +kernel
theorem dX4_plain_27 : decode cX4_plain 27 = .ok (.iload_n 1, 1) := by decide +kernel
theorem dX4_plain_28 : decode cX4_plain 28 = .ok (.iconst (-1), 1) := by decide +kernel
theorem dX4_plain_29 : decode cX4_plain 29 = .ok (.if_icmp .ne 13, 3) := by decide +kernel
theorem dX4_plain_32 : decode cX4_plain 32 = .ok (.aload_n 0, 1) := by decide +kernel
theorem dX4_plain_33 : decode cX4_plain 33 = .ok (.getfield 28, 3) := by decide +kernel
theorem dX4_plain_36 : decode cX4_plain 36 = .ok (.getfield 163, 3) := by decide +kernel
theorem dX4_plain_39 : decode cX4_plain 39 = .ok (.goto 14, 3) := by decide +kernel
theorem dX4_plain_42 : decode cX4_plain 42 = .ok (.aload_n 0, 1) := by decide +kernel
theorem dX4_plain_43 : decode cX4_plain 43 = .ok (.getfield 28, 3) := by decide +kernel
theorem dX4_plain_46 : decode cX4_plain 46 = .ok (.getfield 166, 3) := by decide +kernel
theorem dX4_plain_49 : decode cX4_plain 49 = .ok (.iload_n 1, 1) := by decide +kernel
theorem dX4_plain_50 : decode cX4_plain 50 = .ok (.aaload, 1) := by decide +kernel
theorem dX4_plain_51 : decode cX4_plain 51 = .ok (.iload_n 2, 1) := by decide +kernel
theorem dX4_plain_52 : decode cX4_plain 52 = .ok (.laload, 1) := by decide +kernel
theorem dX4_plain_53 : decode cX4_plain 53 = .ok (.lreturn, 1) := by decide +kernel
theorem dX4_count_0 : decode cX4_count 0 = .ok (.iload_n 1, 1) := by decide +kernel
theorem dX4_count_1 : decode cX4_count 1 = .ok (.tableswitch 77 0 3 #[31, 39, 47, 55], 31) := by decide +kernel
theorem dX4_count_32 : decode cX4_count 32 = .ok (.aload_n 0, 1) := by decide +kernel
theorem dX4_count_33 : decode cX4_count 33 = .ok (.getfield 12, 3) := by decide +kernel
theorem dX4_count_36 : decode cX4_count 36 = .ok (.getfield 56, 3) := by decide +kernel
theorem dX4_count_39 : decode cX4_count 39 = .ok (.ireturn, 1) := by decide +kernel
theorem dX4_count_40 : decode cX4_count 40 = .ok (.aload_n 0, 1) := by decide +kernel
theorem dX4_count_41 : decode cX4_count 41 = .ok (.getfield 12, 3) := by decide +kernel
theorem dX4_count_44 : decode cX4_count 44 = .ok (.getfield 170, 3) := by decide +kernel
theorem dX4_count_47 : decode cX4_count 47 = .ok (.ireturn, 1) := by decide +kernel
theorem dX4_count_48 : decode cX4_count 48 = .ok (.aload_n 0, 1) := by decide +kernel
theorem dX4_count_49 : decode cX4_count 49 = .ok (.getfield 12, 3) := by decide +kernel
theorem dX4_count_52 : decode cX4_count 52 = .ok (.getfield 173, 3) := by decide +kernel
theorem dX4_count_55 : decode cX4_count 55 = .ok (.ireturn, 1) := by decide +kernel
theorem dX4_count_56 : decode cX4_count 56 = .ok (.aload_n 0, 1) := by decide +kernel
theorem dX4_count_57 : decode cX4_count 57 = .ok (.getfield 21, 3) := by decide +kernel
theorem dX4_count_60 : decode cX4_count 60 = .ok (.getfield 88, 3) := by decide +kernel
theorem dX4_count_63 : decode cX4_count 63 = .ok (.ifCond .eq 13, 3) := by decide +kernel
theorem dX4_count_66 : decode cX4_count 66 = .ok (.aload_n 0, 1) := by decide +kernel
theorem dX4_count_67 : decode cX4_count 67 = .ok (.getfield 21, 3) := by decide +kernel
theorem dX4_count_70 : decode cX4_count 70 = .ok (.getfield 176, 3) := by decide +kernel
theorem dX4_count_73 : decode cX4_count 73 = .ok (.goto 4, 3) := by decide +kernel
theorem dX4_count_76 : decode cX4_count 76 = .ok (.iconst 0, 1) := by decide +kernel
theorem dX4_count_77 : decode cX4_count 77 = .ok (.ireturn, 1) := by decide +kernel
theorem dX4_count_78 : decode cX4_count 78 = .ok (.iconst (-1), 1) := by decide +kernel
theorem dX4_count_79 : decode cX4_count 79 = .ok (.ireturn, 1) := by decide +kernel
theorem dX4_clear_0 : decode cX4_clear 0 = .ok (.aload_n 0, 1) := by decide +kernel
theorem dX4_clear_1 : decode cX4_clear 1 = .ok (.getfield 12, 3) := by decide +kernel
theorem dX4_clear_4 : decode cX4_clear 4 = .ok (.getfield 56, 3) := by decide +kernel
theorem dX4_clear_7 : decode cX4_clear 7 = .ok (.istore_n 1, 1) := by decide +kernel
theorem dX4_clear_8 : decode cX4_clear 8 = .ok (.aload_n 0, 1) := by decide +kernel
theorem dX4_clear_9 : decode cX4_clear 9 = .ok (.invokevirtual 39, 3) := by decide +kernel
theorem dX4_clear_12 : decode cX4_clear 12 = .ok (.aload_n 0, 1) := by decide +kernel
theorem dX4_clear_13 : decode cX4_clear 13 = .ok (.getfield 12, 3) := by decide +kernel
theorem dX4_clear_16 : decode cX4_clear 16 = .ok (.invokevirtual 179, 3) := by decide +kernel
theorem dX4_clear_19 : decode cX4_clear 19 = .ok (.iload_n 1, 1) := by decide +kernel
theorem dX4_clear_20 : decode cX4_clear 20 = .ok (.ireturn, 1) := by decide +kernel
theorem dX4_addStep_0 : decode cX4_addStep 0 = .ok (.aload_n 0, 1) := by decide +kernel
theorem dX4_addStep_1 : decode cX4_addStep 1 = .ok (.getfield 12, 3) := by decide +kernel
theorem dX4_addStep_4 : decode cX4_addStep 4 = .ok (.iload_n 1, 1) := by decide +kernel
theorem dX4_addStep_5 : decode cX4_addStep 5 = .ok (.invokevirtual 182, 3) := by decide +kernel
theorem dX4_addStep_8 : decode cX4_addStep 8 = .ok (.ifCond .eq 6, 3) := by decide +kernel
theorem dX4_addStep_11 : decode cX4_addStep 11 = .ok (.bipush (-2), 2) := by decide +kernel
theorem dX4_addStep_13 : decode cX4_addStep 13 = .ok (.ireturn, 1) := by decide +kernel
theorem dX4_addStep_14 : decode cX4_addStep 14 = .ok (.aload_n 0, 1) := by decide +kernel
theorem dX4_addStep_15 : decode cX4_addStep 15 = .ok (.invokevirtual 39, 3) := by decide +kernel
theorem dX4_addStep_18 : decode cX4_addStep 18 = .ok (.aload_n 0, 1) := by decide +kernel
theorem dX4_addStep_19 : decode cX4_addStep 19 = .ok (.getfield 12, 3) := by decide +kernel
theorem dX4_addStep_22 : decode cX4_addStep 22 = .ok (.iload_n 1, 1) := by decide +kernel
theorem dX4_addStep_23 : decode cX4_addStep 23 = .ok (.iload_n 2, 1) := by decide +kernel
theorem dX4_addStep_24 : decode cX4_addStep 24 = .ok (.iload_n 3, 1) := by decide +kernel
theorem dX4_addStep_25 : decode cX4_addStep 25 = .ok (.iload 4, 2) := by decide +kernel
theorem dX4_addStep_27 : decode cX4_addStep 27 = .ok (.iload 5, 2) := by decide +kernel
theorem dX4_addStep_29 : decode cX4_addStep 29 = .ok (.invokevirtual 185, 3) := by decide +kernel
theorem dX4_addStep_32 : decode cX4_addStep 32 = .ok (.ireturn, 1) := by decide +kernel
theorem dX4_programChanged_0 : decode cX4_programChanged 0 = .ok (.aload_n 0, 1) := by decide +kernel
theorem dX4_programChanged_1 : decode cX4_programChanged 1 = .ok (.getfield 21, 3) := by decide +kernel
theorem dX4_programChanged_4 : decode cX4_programChanged 4 = .ok (.invokevirtual 64, 3) := by decide +kernel
theorem dX4_programChanged_7 : decode cX4_programChanged 7 = .ok (.aload_n 0, 1) := by decide +kernel
theorem dX4_programChanged_8 : decode cX4_programChanged 8 = .ok (.getfield 28, 3) := by decide +kernel
theorem dX4_programChanged_11 : decode cX4_programChanged 11 = .ok (.invokevirtual 188, 3) := by decide +kernel
theorem dX4_programChanged_14 : decode cX4_programChanged 14 = .ok (.return_, 1) := by decide +kernel
theorem dX4_isPlace_0 : decode cX4_isPlace 0 = .ok (.iload_n 1, 1) := by decide +kernel
theorem dX4_isPlace_1 : decode cX4_isPlace 1 = .ok (.ifCond .lt 24, 3) := by decide +kernel
theorem dX4_isPlace_4 : decode cX4_isPlace 4 = .ok (.iload_n 1, 1) := by decide +kernel
theorem dX4_isPlace_5 : decode cX4_isPlace 5 = .ok (.aload_n 0, 1) := by decide +kernel
theorem dX4_isPlace_6 : decode cX4_isPlace 6 = .ok (.getfield 12, 3) := by decide +kernel
theorem dX4_isPlace_9 : decode cX4_isPlace 9 = .ok (.getfield 56, 3) := by decide +kernel
theorem dX4_isPlace_12 : decode cX4_isPlace 12 = .ok (.if_icmp .gt 13, 3) := by decide +kernel
theorem dX4_isPlace_15 : decode cX4_isPlace 15 = .ok (.iload_n 1, 1) := by decide +kernel
theorem dX4_isPlace_16 : decode cX4_isPlace 16 = .ok (.bipush 31, 2) := by decide +kernel
theorem dX4_isPlace_18 : decode cX4_isPlace 18 = .ok (.if_icmp .ge 7, 3) := by decide +kernel
theorem dX4_isPlace_21 : decode cX4_isPlace 21 = .ok (.iconst 1, 1) := by decide +kernel
theorem dX4_isPlace_22 : decode cX4_isPlace 22 = .ok (.goto 4, 3) := by decide +kernel
theorem dX4_isPlace_25 : decode cX4_isPlace 25 = .ok (.iconst 0, 1) := by decide +kernel
theorem dX4_isPlace_26 : decode cX4_isPlace 26 = .ok (.ireturn, 1) := by decide +kernel
theorem dX4_isVariable_0 : decode cX4_isVariable 0 = .ok (.iload_n 0, 1) := by decide +kernel
theorem dX4_isVariable_1 : decode cX4_isVariable 1 = .ok (.ifCond .lt 13, 3) := by decide +kernel
theorem dX4_isVariable_4 : decode cX4_isVariable 4 = .ok (.iload_n 0, 1) := by decide +kernel
theorem dX4_isVariable_5 : decode cX4_isVariable 5 = .ok (.bipush 6, 2) := by decide +kernel
theorem dX4_isVariable_7 : decode cX4_isVariable 7 = .ok (.if_icmp .ge 7, 3) := by decide +kernel
theorem dX4_isVariable_10 : decode cX4_isVariable 10 = .ok (.iconst 1, 1) := by decide +kernel
theorem dX4_isVariable_11 : decode cX4_isVariable 11 = .ok (.goto 4, 3) := by decide +kernel
theorem dX4_isVariable_14 : decode cX4_isVariable 14 = .ok (.iconst 0, 1) := by decide +kernel
theorem dX4_isVariable_15 : decode cX4_isVariable 15 = .ok (.ireturn, 1) := by decide +kernel
theorem dX4_isValue_0 : decode cX4_isValue 0 = .ok (.iload_n 0, 1) := by decide +kernel
theorem dX4_isValue_1 : decode cX4_isValue 1 = .ok (.ifCond .lt 13, 3) := by decide +kernel
theorem dX4_isValue_4 : decode cX4_isValue 4 = .ok (.iload_n 0, 1) := by decide +kernel
theorem dX4_isValue_5 : decode cX4_isValue 5 = .ok (.bipush 10, 2) := by decide +kernel
theorem dX4_isValue_7 : decode cX4_isValue 7 = .ok (.if_icmp .ge 7, 3) := by decide +kernel
theorem dX4_isValue_10 : decode cX4_isValue 10 = .ok (.iconst 1, 1) := by decide +kernel
theorem dX4_isValue_11 : decode cX4_isValue 11 = .ok (.goto 4, 3) := by decide +kernel
theorem dX4_isValue_14 : decode cX4_isValue 14 = .ok (.iconst 0, 1) := by decide +kernel
theorem dX4_isValue_15 : decode cX4_isValue 15 = .ok (.ireturn, 1) := by decide +kernel
theorem dX4_isRow_0 : decode cX4_isRow 0 = .ok (.iload_n 0, 1) := by decide +kernel
theorem dX4_isRow_1 : decode cX4_isRow 1 = .ok (.ifCond .lt 12, 3) := by decide +kernel
theorem dX4_isRow_4 : decode cX4_isRow 4 = .ok (.iload_n 0, 1) := by decide +kernel
theorem dX4_isRow_5 : decode cX4_isRow 5 = .ok (.iconst 4, 1) := by decide +kernel
theorem dX4_isRow_6 : decode cX4_isRow 6 = .ok (.if_icmp .ge 7, 3) := by decide +kernel
theorem dX4_isRow_9 : decode cX4_isRow 9 = .ok (.iconst 1, 1) := by decide +kernel
theorem dX4_isRow_10 : decode cX4_isRow 10 = .ok (.goto 4, 3) := by decide +kernel
theorem dX4_isRow_13 : decode cX4_isRow 13 = .ok (.iconst 0, 1) := by decide +kernel
theorem dX4_isRow_14 : decode cX4_isRow 14 = .ok (.ireturn, 1) := by decide +kernel
theorem dX4_isTerm_0 : decode cX4_isTerm 0 = .ok (.iload_n 0, 1) := by decide +kernel
theorem dX4_isTerm_1 : decode cX4_isTerm 1 = .ok (.invokestatic 46, 3) := by decide +kernel
theorem dX4_isTerm_4 : decode cX4_isTerm 4 = .ok (.ifCond .ne 13, 3) := by decide +kernel
theorem dX4_isTerm_7 : decode cX4_isTerm 7 = .ok (.iload_n 0, 1) := by decide +kernel
theorem dX4_isTerm_8 : decode cX4_isTerm 8 = .ok (.bipush 10, 2) := by decide +kernel
theorem dX4_isTerm_10 : decode cX4_isTerm 10 = .ok (.isub, 1) := by decide +kernel
theorem dX4_isTerm_11 : decode cX4_isTerm 11 = .ok (.invokestatic 36, 3) := by decide +kernel
theorem dX4_isTerm_14 : decode cX4_isTerm 14 = .ok (.ifCond .eq 7, 3) := by decide +kernel
theorem dX4_isTerm_17 : decode cX4_isTerm 17 = .ok (.iconst 1, 1) := by decide +kernel
theorem dX4_isTerm_18 : decode cX4_isTerm 18 = .ok (.goto 4, 3) := by decide +kernel
theorem dX4_isTerm_21 : decode cX4_isTerm 21 = .ok (.iconst 0, 1) := by decide +kernel
theorem dX4_isTerm_22 : decode cX4_isTerm 22 = .ok (.ireturn, 1) := by decide +kernel
theorem dX4_isChoice_0 : decode cX4_isChoice 0 = .ok (.iload_n 0, 1) := by decide +kernel
theorem dX4_isChoice_1 : decode cX4_isChoice 1 = .ok (.iconst (-1), 1) := by decide +kernel
theorem dX4_isChoice_2 : decode cX4_isChoice 2 = .ok (.if_icmp .eq 17, 3) := by decide +kernel
theorem dX4_isChoice_5 : decode cX4_isChoice 5 = .ok (.iload_n 0, 1) := by decide +kernel
theorem dX4_isChoice_6 : decode cX4_isChoice 6 = .ok (.invokestatic 46, 3) := by decide +kernel
theorem dX4_isChoice_9 : decode cX4_isChoice 9 = .ok (.ifCond .eq 14, 3) := by decide +kernel
theorem dX4_isChoice_12 : decode cX4_isChoice 12 = .ok (.iload_n 1, 1) := by decide +kernel
theorem dX4_isChoice_13 : decode cX4_isChoice 13 = .ok (.invokestatic 36, 3) := by decide +kernel
theorem dX4_isChoice_16 : decode cX4_isChoice 16 = .ok (.ifCond .eq 7, 3) := by decide +kernel
theorem dX4_isChoice_19 : decode cX4_isChoice 19 = .ok (.iconst 1, 1) := by decide +kernel
theorem dX4_isChoice_20 : decode cX4_isChoice 20 = .ok (.goto 4, 3) := by decide +kernel
theorem dX4_isChoice_23 : decode cX4_isChoice 23 = .ok (.iconst 0, 1) := by decide +kernel
theorem dX4_isChoice_24 : decode cX4_isChoice 24 = .ok (.ireturn, 1) := by decide +kernel
theorem dX4_commonDivisor_0 : decode cX4_commonDivisor 0 = .ok (.lload_n 0, 1) := by decide +kernel
theorem dX4_commonDivisor_1 : decode cX4_commonDivisor 1 = .ok (.lstore 4, 2) := by decide +kernel
theorem dX4_commonDivisor_3 : decode cX4_commonDivisor 3 = .ok (.lload_n 2, 1) := by decide +kernel
theorem dX4_commonDivisor_4 : decode cX4_commonDivisor 4 = .ok (.lstore 6, 2) := by decide +kernel
theorem dX4_commonDivisor_6 : decode cX4_commonDivisor 6 = .ok (.iconst 0, 1) := by decide +kernel
theorem dX4_commonDivisor_7 : decode cX4_commonDivisor 7 = .ok (.istore 8, 2) := by decide +kernel
theorem dX4_commonDivisor_9 : decode cX4_commonDivisor 9 = .ok (.iload 8, 2) := by decide +kernel
theorem dX4_commonDivisor_11 : decode cX4_commonDivisor 11 = .ok (.bipush 100, 2) := by decide +kernel
theorem dX4_commonDivisor_13 : decode cX4_commonDivisor 13 = .ok (.if_icmp .ge 31, 3) := by decide +kernel
theorem dX4_commonDivisor_16 : decode cX4_commonDivisor 16 = .ok (.lload 6, 2) := by decide +kernel
theorem dX4_commonDivisor_18 : decode cX4_commonDivisor 18 = .ok (.lconst 0, 1) := by decide +kernel
theorem dX4_commonDivisor_19 : decode cX4_commonDivisor 19 = .ok (.lcmp, 1) := by decide +kernel
theorem dX4_commonDivisor_20 : decode cX4_commonDivisor 20 = .ok (.ifCond .eq 24, 3) := by decide +kernel
theorem dX4_commonDivisor_23 : decode cX4_commonDivisor 23 = .ok (.lload 4, 2) := by decide +kernel
theorem dX4_commonDivisor_25 : decode cX4_commonDivisor 25 = .ok (.lload 6, 2) := by decide +kernel
theorem dX4_commonDivisor_27 : decode cX4_commonDivisor 27 = .ok (.lrem, 1) := by decide +kernel
theorem dX4_commonDivisor_28 : decode cX4_commonDivisor 28 = .ok (.lstore 9, 2) := by decide +kernel
theorem dX4_commonDivisor_30 : decode cX4_commonDivisor 30 = .ok (.lload 6, 2) := by decide +kernel
theorem dX4_commonDivisor_32 : decode cX4_commonDivisor 32 = .ok (.lstore 4, 2) := by decide +kernel
theorem dX4_commonDivisor_34 : decode cX4_commonDivisor 34 = .ok (.lload 9, 2) := by decide +kernel
theorem dX4_commonDivisor_36 : decode cX4_commonDivisor 36 = .ok (.lstore 6, 2) := by decide +kernel
theorem dX4_commonDivisor_38 : decode cX4_commonDivisor 38 = .ok (.iinc 8 1, 3) := by decide +kernel
theorem dX4_commonDivisor_41 : decode cX4_commonDivisor 41 = .ok (.goto (-32), 3) := by decide +kernel
theorem dX4_commonDivisor_44 : decode cX4_commonDivisor 44 = .ok (.lload 4, 2) := by decide +kernel
theorem dX4_commonDivisor_46 : decode cX4_commonDivisor 46 = .ok (.lreturn, 1) := by decide +kernel
theorem dX5_init_0 : decode cX5_init 0 = .ok (.aload_n 0, 1) := by decide +kernel
theorem dX5_init_1 : decode cX5_init 1 = .ok (.invokespecial 1, 3) := by decide +kernel
theorem dX5_init_4 : decode cX5_init 4 = .ok (.aload_n 0, 1) := by decide +kernel
theorem dX5_init_5 : decode cX5_init 5 = .ok (.bipush 30, 2) := by decide +kernel
theorem dX5_init_7 : decode cX5_init 7 = .ok (.newarray .int, 2) := by decide +kernel
theorem dX5_init_9 : decode cX5_init 9 = .ok (.putfield 7, 3) := by decide +kernel
theorem dX5_init_12 : decode cX5_init 12 = .ok (.aload_n 0, 1) := by decide +kernel
theorem dX5_init_13 : decode cX5_init 13 = .ok (.bipush 30, 2) := by decide +kernel
theorem dX5_init_15 : decode cX5_init 15 = .ok (.newarray .int, 2) := by decide +kernel
theorem dX5_init_17 : decode cX5_init 17 = .ok (.putfield 13, 3) := by decide +kernel
theorem dX5_init_20 : decode cX5_init 20 = .ok (.aload_n 0, 1) := by decide +kernel
theorem dX5_init_21 : decode cX5_init 21 = .ok (.bipush 30, 2) := by decide +kernel
theorem dX5_init_23 : decode cX5_init 23 = .ok (.newarray .int, 2) := by decide +kernel
theorem dX5_init_25 : decode cX5_init 25 = .ok (.putfield 16, 3) := by decide +kernel
theorem dX5_init_28 : decode cX5_init 28 = .ok (.aload_n 0, 1) := by decide +kernel
theorem dX5_init_29 : decode cX5_init 29 = .ok (.bipush 30, 2) := by decide +kernel
theorem dX5_init_31 : decode cX5_init 31 = .ok (.newarray .int, 2) := by decide +kernel
theorem dX5_init_33 : decode cX5_init 33 = .ok (.putfield 19, 3) := by decide +kernel
theorem dX5_init_36 : decode cX5_init 36 = .ok (.aload_n 0, 1) := by decide +kernel
theorem dX5_init_37 : decode cX5_init 37 = .ok (.bipush 30, 2) := by decide +kernel
theorem dX5_init_39 : decode cX5_init 39 = .ok (.newarray .int, 2) := by decide +kernel
theorem dX5_init_41 : decode cX5_init 41 = .ok (.putfield 22, 3) := by decide +kernel
theorem dX5_init_44 : decode cX5_init 44 = .ok (.aload_n 0, 1) := by decide +kernel
theorem dX5_init_45 : decode cX5_init 45 = .ok (.bipush 40, 2) := by decide +kernel
theorem dX5_init_47 : decode cX5_init 47 = .ok (.newarray .int, 2) := by decide +kernel
theorem dX5_init_49 : decode cX5_init 49 = .ok (.putfield 25, 3) := by decide +kernel
theorem dX5_init_52 : decode cX5_init 52 = .ok (.aload_n 0, 1) := by decide +kernel
theorem dX5_init_53 : decode cX5_init 53 = .ok (.bipush 6, 2) := by decide +kernel
theorem dX5_init_55 : decode cX5_init 55 = .ok (.newarray .boolean, 2) := by decide +kernel
theorem dX5_init_57 : decode cX5_init 57 = .ok (.putfield 28, 3) := by decide +kernel
theorem dX5_init_60 : decode cX5_init 60 = .ok (.aload_n 0, 1) := by decide +kernel
theorem dX5_init_61 : decode cX5_init 61 = .ok (.bipush 31, 2) := by decide +kernel
theorem dX5_init_63 : decode cX5_init 63 = .ok (.newarray .int, 2) := by decide +kernel
theorem dX5_init_65 : decode cX5_init 65 = .ok (.putfield 32, 3) := by decide +kernel
theorem dX5_init_68 : decode cX5_init 68 = .ok (.aload_n 0, 1) := by decide +kernel
theorem dX5_init_69 : decode cX5_init 69 = .ok (.bipush 31, 2) := by decide +kernel
theorem dX5_init_71 : decode cX5_init 71 = .ok (.newarray .int, 2) := by decide +kernel
theorem dX5_init_73 : decode cX5_init 73 = .ok (.putfield 35, 3) := by decide +kernel
theorem dX5_init_76 : decode cX5_init 76 = .ok (.aload_n 0, 1) := by decide +kernel
theorem dX5_init_77 : decode cX5_init 77 = .ok (.bipush 31, 2) := by decide +kernel
theorem dX5_init_79 : decode cX5_init 79 = .ok (.newarray .int, 2) := by decide +kernel
theorem dX5_init_81 : decode cX5_init 81 = .ok (.putfield 38, 3) := by decide +kernel
theorem dX5_init_84 : decode cX5_init 84 = .ok (.aload_n 0, 1) := by decide +kernel
theorem dX5_init_85 : decode cX5_init 85 = .ok (.sipush 6200, 3) := by decide +kernel
theorem dX5_init_88 : decode cX5_init 88 = .ok (.newarray .int, 2) := by decide +kernel
theorem dX5_init_90 : decode cX5_init 90 = .ok (.putfield 41, 3) := by decide +kernel
theorem dX5_init_93 : decode cX5_init 93 = .ok (.aload_n 0, 1) := by decide +kernel
theorem dX5_init_94 : decode cX5_init 94 = .ok (.sipush 6200, 3) := by decide +kernel
theorem dX5_init_97 : decode cX5_init 97 = .ok (.newarray .long, 2) := by decide +kernel
theorem dX5_init_99 : decode cX5_init 99 = .ok (.putfield 44, 3) := by decide +kernel
theorem dX5_init_102 : decode cX5_init 102 = .ok (.aload_n 0, 1) := by decide +kernel
theorem dX5_init_103 : decode cX5_init 103 = .ok (.bipush 31, 2) := by decide +kernel
theorem dX5_init_105 : decode cX5_init 105 = .ok (.newarray .int, 2) := by decide +kernel
theorem dX5_init_107 : decode cX5_init 107 = .ok (.putfield 48, 3) := by decide +kernel
theorem dX5_init_110 : decode cX5_init 110 = .ok (.aload_n 0, 1) := by decide +kernel
theorem dX5_init_111 : decode cX5_init 111 = .ok (.bipush 10, 2) := by decide +kernel
theorem dX5_init_113 : decode cX5_init 113 = .ok (.newarray .int, 2) := by decide +kernel
theorem dX5_init_115 : decode cX5_init 115 = .ok (.putfield 51, 3) := by decide +kernel
theorem dX5_init_118 : decode cX5_init 118 = .ok (.aload_n 0, 1) := by decide +kernel
theorem dX5_init_119 : decode cX5_init 119 = .ok (.bipush 10, 2) := by decide +kernel
theorem dX5_init_121 : decode cX5_init 121 = .ok (.newarray .long, 2) := by decide +kernel
theorem dX5_init_123 : decode cX5_init 123 = .ok (.putfield 54, 3) := by decide +kernel
theorem dX5_init_126 : decode cX5_init 126 = .ok (.aload_n 0, 1) := by decide +kernel
theorem dX5_init_127 : decode cX5_init 127 = .ok (.sipush 320, 3) := by decide +kernel
theorem dX5_init_130 : decode cX5_init 130 = .ok (.newarray .int, 2) := by decide +kernel
theorem dX5_init_132 : decode cX5_init 132 = .ok (.putfield 57, 3) := by decide +kernel
theorem dX5_init_135 : decode cX5_init 135 = .ok (.aload_n 0, 1) := by decide +kernel
theorem dX5_init_136 : decode cX5_init 136 = .ok (.sipush 320, 3) := by decide +kernel
theorem dX5_init_139 : decode cX5_init 139 = .ok (.newarray .int, 2) := by decide +kernel
theorem dX5_init_141 : decode cX5_init 141 = .ok (.putfield 60, 3) := by decide +kernel
theorem dX5_init_144 : decode cX5_init 144 = .ok (.aload_n 0, 1) := by decide +kernel
theorem dX5_init_145 : decode cX5_init 145 = .ok (.sipush 320, 3) := by decide +kernel
theorem dX5_init_148 : decode cX5_init 148 = .ok (.newarray .long, 2) := by decide +kernel
theorem dX5_init_150 : decode cX5_init 150 = .ok (.putfield 63, 3) := by decide +kernel
theorem dX5_init_153 : decode cX5_init 153 = .ok (.aload_n 0, 1) := by decide +kernel
theorem dX5_init_154 : decode cX5_init 154 = .ok (.invokevirtual 66, 3) := by decide +kernel
theorem dX5_init_157 : decode cX5_init 157 = .ok (.return_, 1) := by decide +kernel
theorem dX5_thrown_0 : decode cX5_thrown 0 = .ok (.aload_n 0, 1) := by decide +kernel
theorem dX5_thrown_1 : decode cX5_thrown 1 = .ok (.getfield 69, 3) := by decide +kernel
theorem dX5_thrown_4 : decode cX5_thrown 4 = .ok (.ireturn, 1) := by decide +kernel
theorem dX5_reset_0 : decode cX5_reset 0 = .ok (.aload_n 0, 1) := by decide +kernel
theorem dX5_reset_1 : decode cX5_reset 1 = .ok (.iconst 0, 1) := by decide +kernel
theorem dX5_reset_2 : decode cX5_reset 2 = .ok (.putfield 73, 3) := by decide +kernel
theorem dX5_reset_5 : decode cX5_reset 5 = .ok (.aload_n 0, 1) := by decide +kernel
theorem dX5_reset_6 : decode cX5_reset 6 = .ok (.iconst 0, 1) := by decide +kernel
theorem dX5_reset_7 : decode cX5_reset 7 = .ok (.putfield 76, 3) := by decide +kernel
theorem dX5_reset_10 : decode cX5_reset 10 = .ok (.aload_n 0, 1) := by decide +kernel
theorem dX5_reset_11 : decode cX5_reset 11 = .ok (.iconst 0, 1) := by decide +kernel
theorem dX5_reset_12 : decode cX5_reset 12 = .ok (.putfield 79, 3) := by decide +kernel
theorem dX5_reset_15 : decode cX5_reset 15 = .ok (.iconst 0, 1) := by decide +kernel
theorem dX5_reset_16 : decode cX5_reset 16 = .ok (.istore_n 1, 1) := by decide +kernel
theorem dX5_reset_17 : decode cX5_reset 17 = .ok (.iload_n 1, 1) := by decide +kernel
theorem dX5_reset_18 : decode cX5_reset 18 = .ok (.bipush 40, 2) := by decide +kernel
theorem dX5_reset_20 : decode cX5_reset 20 = .ok (.if_icmp .ge 28, 3) := by decide +kernel
theorem dX5_reset_23 : decode cX5_reset 23 = .ok (.aload_n 0, 1) := by decide +kernel
theorem dX5_reset_24 : decode cX5_reset 24 = .ok (.getfield 25, 3) := by decide +kernel
theorem dX5_reset_27 : decode cX5_reset 27 = .ok (.iload_n 1, 1) := by decide +kernel
theorem dX5_reset_28 : decode cX5_reset 28 = .ok (.iload_n 1, 1) := by decide +kernel
theorem dX5_reset_29 : decode cX5_reset 29 = .ok (.bipush 10, 2) := by decide +kernel
theorem dX5_reset_31 : decode cX5_reset 31 = .ok (.irem, 1) := by decide +kernel
theorem dX5_reset_32 : decode cX5_reset 32 = .ok (.ifCond .ne 8, 3) := by decide +kernel
theorem dX5_reset_35 : decode cX5_reset 35 = .ok (.bipush 60, 2) := by decide +kernel
theorem dX5_reset_37 : decode cX5_reset 37 = .ok (.goto 4, 3) := by decide +kernel
theorem dX5_reset_40 : decode cX5_reset 40 = .ok (.iconst 0, 1) := by decide +kernel
theorem dX5_reset_41 : decode cX5_reset 41 = .ok (.iastore, 1) := by decide +kernel
theorem dX5_reset_42 : decode cX5_reset 42 = .ok (.iinc 1 1, 3) := by decide +kernel
theorem dX5_reset_45 : decode cX5_reset 45 = .ok (.goto (-28), 3) := by decide +kernel
theorem dX5_reset_48 : decode cX5_reset 48 = .ok (.iconst 0, 1) := by decide +kernel
theorem dX5_reset_49 : decode cX5_reset 49 = .ok (.istore_n 1, 1) := by decide +kernel
theorem dX5_reset_50 : decode cX5_reset 50 = .ok (.iload_n 1, 1) := by decide +kernel
theorem dX5_reset_51 : decode cX5_reset 51 = .ok (.bipush 6, 2) := by decide +kernel
theorem dX5_reset_53 : decode cX5_reset 53 = .ok (.if_icmp .ge 16, 3) := by decide +kernel
theorem dX5_reset_56 : decode cX5_reset 56 = .ok (.aload_n 0, 1) := by decide +kernel
theorem dX5_reset_57 : decode cX5_reset 57 = .ok (.getfield 28, 3) := by decide +kernel
theorem dX5_reset_60 : decode cX5_reset 60 = .ok (.iload_n 1, 1) := by decide +kernel
theorem dX5_reset_61 : decode cX5_reset 61 = .ok (.iconst 0, 1) := by decide +kernel
theorem dX5_reset_62 : decode cX5_reset 62 = .ok (.bastore, 1) := by decide +kernel
theorem dX5_reset_63 : decode cX5_reset 63 = .ok (.iinc 1 1, 3) := by decide +kernel
theorem dX5_reset_66 : decode cX5_reset 66 = .ok (.goto (-16), 3) := by decide +kernel
theorem dX5_reset_69 : decode cX5_reset 69 = .ok (.aload_n 0, 1) := by decide +kernel
theorem dX5_reset_70 : decode cX5_reset 70 = .ok (.iconst 0, 1) := by decide +kernel
theorem dX5_reset_71 : decode cX5_reset 71 = .ok (.putfield 82, 3) := by decide +kernel
theorem dX5_reset_74 : decode cX5_reset 74 = .ok (.return_, 1) := by decide +kernel
theorem dX5_isIn_0 : decode cX5_isIn 0 = .ok (.iload_n 0, 1) := by decide +kernel
theorem dX5_isIn_1 : decode cX5_isIn 1 = .ok (.iload_n 1, 1) := by decide +kernel
theorem dX5_isIn_2 : decode cX5_isIn 2 = .ok (.if_icmp .lt 12, 3) := by decide +kernel
theorem dX5_isIn_5 : decode cX5_isIn 5 = .ok (.iload_n 0, 1) := by decide +kernel
theorem dX5_isIn_6 : decode cX5_isIn 6 = .ok (.iload_n 2, 1) := by decide +kernel
theorem dX5_isIn_7 : decode cX5_isIn 7 = .ok (.if_icmp .gt 7, 3) := by decide +kernel
theorem dX5_isIn_10 : decode cX5_isIn 10 = .ok (.iconst 1, 1) := by decide +kernel
theorem dX5_isIn_11 : decode cX5_isIn 11 = .ok (.goto 4, 3) := by decide +kernel
theorem dX5_isIn_14 : decode cX5_isIn 14 = .ok (.iconst 0, 1) := by decide +kernel
theorem dX5_isIn_15 : decode cX5_isIn 15 = .ok (.ireturn, 1) := by decide +kernel
theorem dX5_isTerm_0 : decode cX5_isTerm 0 = .ok (.iload_n 0, 1) := by decide +kernel
theorem dX5_isTerm_1 : decode cX5_isTerm 1 = .ok (.iconst 0, 1) := by decide +kernel
theorem dX5_isTerm_2 : decode cX5_isTerm 2 = .ok (.iconst 5, 1) := by decide +kernel
theorem dX5_isTerm_3 : decode cX5_isTerm 3 = .ok (.invokestatic 86, 3) := by decide +kernel
theorem dX5_isTerm_6 : decode cX5_isTerm 6 = .ok (.ifCond .ne 14, 3) := by decide +kernel
theorem dX5_isTerm_9 : decode cX5_isTerm 9 = .ok (.iload_n 0, 1) := by decide +kernel
theorem dX5_isTerm_10 : decode cX5_isTerm 10 = .ok (.bipush 10, 2) := by decide +kernel
theorem dX5_isTerm_12 : decode cX5_isTerm 12 = .ok (.bipush 19, 2) := by decide +kernel
theorem dX5_isTerm_14 : decode cX5_isTerm 14 = .ok (.invokestatic 86, 3) := by decide +kernel
theorem dX5_isTerm_17 : decode cX5_isTerm 17 = .ok (.ifCond .eq 7, 3) := by decide +kernel
theorem dX5_isTerm_20 : decode cX5_isTerm 20 = .ok (.iconst 1, 1) := by decide +kernel
theorem dX5_isTerm_21 : decode cX5_isTerm 21 = .ok (.goto 4, 3) := by decide +kernel
theorem dX5_isTerm_24 : decode cX5_isTerm 24 = .ok (.iconst 0, 1) := by decide +kernel
theorem dX5_isTerm_25 : decode cX5_isTerm 25 = .ok (.ireturn, 1) := by decide +kernel
theorem dX5_weight_0 : decode cX5_weight 0 = .ok (.aload_n 0, 1) := by decide +kernel
theorem dX5_weight_1 : decode cX5_weight 1 = .ok (.iconst 0, 1) := by decide +kernel
theorem dX5_weight_2 : decode cX5_weight 2 = .ok (.putfield 69, 3) := by decide +kernel
theorem dX5_weight_5 : decode cX5_weight 5 = .ok (.iload_n 1, 1) := by decide +kernel
theorem dX5_weight_6 : decode cX5_weight 6 = .ok (.iconst 0, 1) := by decide +kernel
theorem dX5_weight_7 : decode cX5_weight 7 = .ok (.iconst 3, 1) := by decide +kernel
theorem dX5_weight_8 : decode cX5_weight 8 = .ok (.invokestatic 86, 3) := by decide +kernel
theorem dX5_weight_11 : decode cX5_weight 11 = .ok (.ifCond .eq 23, 3) := by decide +kernel
theorem dX5_weight_14 : decode cX5_weight 14 = .ok (.iload_n 2, 1) := by decide +kernel
theorem dX5_weight_15 : decode cX5_weight 15 = .ok (.iconst 0, 1) := by decide +kernel
theorem dX5_weight_16 : decode cX5_weight 16 = .ok (.bipush 9, 2) := by decide +kernel
theorem dX5_weight_18 : decode cX5_weight 18 = .ok (.invokestatic 86, 3) := by decide +kernel
theorem dX5_weight_21 : decode cX5_weight 21 = .ok (.ifCond .eq 13, 3) := by decide +kernel
theorem dX5_weight_24 : decode cX5_weight 24 = .ok (.iload_n 3, 1) := by decide +kernel
theorem dX5_weight_25 : decode cX5_weight 25 = .ok (.iconst 0, 1) := by decide +kernel
theorem dX5_weight_26 : decode cX5_weight 26 = .ok (.bipush 60, 2) := by decide +kernel
theorem dX5_weight_28 : decode cX5_weight 28 = .ok (.invokestatic 86, 3) := by decide +kernel
theorem dX5_weight_31 : decode cX5_weight 31 = .ok (.ifCond .ne 5, 3) := by decide +kernel
theorem dX5_weight_34 : decode cX5_weight 34 = .ok (.iconst (-1), 1) := by decide +kernel
theorem dX5_weight_35 : decode cX5_weight 35 = .ok (.ireturn, 1) := by decide +kernel
theorem dX5_weight_36 : decode cX5_weight 36 = .ok (.aload_n 0, 1) := by decide +kernel
theorem dX5_weight_37 : decode cX5_weight 37 = .ok (.getfield 25, 3) := by decide +kernel
theorem dX5_weight_40 : decode cX5_weight 40 = .ok (.bipush 10, 2) := by decide +kernel
theorem dX5_weight_42 : decode cX5_weight 42 = .ok (.iload_n 1, 1) := by decide +kernel
theorem dX5_weight_43 : decode cX5_weight 43 = .ok (.imul, 1) := by decide +kernel
theorem dX5_weight_44 : decode cX5_weight 44 = .ok (.iload_n 2, 1) := by decide +kernel
theorem dX5_weight_45 : decode cX5_weight 45 = .ok (.iadd, 1) := by decide +kernel
theorem dX5_weight_46 : decode cX5_weight 46 = .ok (.iaload, 1) := by decide +kernel
theorem dX5_weight_47 : decode cX5_weight 47 = .ok (.istore 4, 2) := by decide +kernel
theorem dX5_weight_49 : decode cX5_weight 49 = .ok (.aload_n 0, 1) := by decide +kernel
theorem dX5_weight_50 : decode cX5_weight 50 = .ok (.getfield 25, 3) := by decide +kernel
theorem dX5_weight_53 : decode cX5_weight 53 = .ok (.bipush 10, 2) := by decide +kernel
theorem dX5_weight_55 : decode cX5_weight 55 = .ok (.iload_n 1, 1) := by decide +kernel
theorem dX5_weight_56 : decode cX5_weight 56 = .ok (.imul, 1) := by decide +kernel
theorem dX5_weight_57 : decode cX5_weight 57 = .ok (.iload_n 2, 1) := by decide +kernel
theorem dX5_weight_58 : decode cX5_weight 58 = .ok (.iadd, 1) := by decide +kernel
theorem dX5_weight_59 : decode cX5_weight 59 = .ok (.iload_n 3, 1) := by decide +kernel
theorem dX5_weight_60 : decode cX5_weight 60 = .ok (.iastore, 1) := by decide +kernel
theorem dX5_weight_61 : decode cX5_weight 61 = .ok (.aload_n 0, 1) := by decide +kernel
theorem dX5_weight_62 : decode cX5_weight 62 = .ok (.iconst 0, 1) := by decide +kernel
theorem dX5_weight_63 : decode cX5_weight 63 = .ok (.putfield 82, 3) := by decide +kernel
theorem dX5_weight_66 : decode cX5_weight 66 = .ok (.iload 4, 2) := by decide +kernel
theorem dX5_weight_68 : decode cX5_weight 68 = .ok (.ireturn, 1) := by decide +kernel
theorem dX5_added_0 : decode cX5_added 0 = .ok (.aload_n 0, 1) := by decide +kernel
theorem dX5_added_1 : decode cX5_added 1 = .ok (.getfield 7, 3) := by decide +kernel
theorem dX5_added_4 : decode cX5_added 4 = .ok (.aload_n 0, 1) := by decide +kernel
theorem dX5_added_5 : decode cX5_added 5 = .ok (.getfield 73, 3) := by decide +kernel
theorem dX5_added_8 : decode cX5_added 8 = .ok (.iload_n 1, 1) := by decide +kernel
theorem dX5_added_9 : decode cX5_added 9 = .ok (.iastore, 1) := by decide +kernel
theorem dX5_added_10 : decode cX5_added 10 = .ok (.aload_n 0, 1) := by decide +kernel
theorem dX5_added_11 : decode cX5_added 11 = .ok (.getfield 13, 3) := by decide +kernel
theorem dX5_added_14 : decode cX5_added 14 = .ok (.aload_n 0, 1) := by decide +kernel
theorem dX5_added_15 : decode cX5_added 15 = .ok (.getfield 73, 3) := by decide +kernel
theorem dX5_added_18 : decode cX5_added 18 = .ok (.iload_n 2, 1) := by decide +kernel
theorem dX5_added_19 : decode cX5_added 19 = .ok (.iastore, 1) := by decide +kernel
theorem dX5_added_20 : decode cX5_added 20 = .ok (.aload_n 0, 1) := by decide +kernel
theorem dX5_added_21 : decode cX5_added 21 = .ok (.getfield 16, 3) := by decide +kernel
theorem dX5_added_24 : decode cX5_added 24 = .ok (.aload_n 0, 1) := by decide +kernel
theorem dX5_added_25 : decode cX5_added 25 = .ok (.getfield 73, 3) := by decide +kernel
theorem dX5_added_28 : decode cX5_added 28 = .ok (.iload_n 3, 1) := by decide +kernel
theorem dX5_added_29 : decode cX5_added 29 = .ok (.iastore, 1) := by decide +kernel
theorem dX5_added_30 : decode cX5_added 30 = .ok (.aload_n 0, 1) := by decide +kernel
theorem dX5_added_31 : decode cX5_added 31 = .ok (.getfield 19, 3) := by decide +kernel
theorem dX5_added_34 : decode cX5_added 34 = .ok (.aload_n 0, 1) := by decide +kernel
theorem dX5_added_35 : decode cX5_added 35 = .ok (.getfield 73, 3) := by decide +kernel
theorem dX5_added_38 : decode cX5_added 38 = .ok (.iload 4, 2) := by decide +kernel
theorem dX5_added_40 : decode cX5_added 40 = .ok (.iastore, 1) := by decide +kernel
theorem dX5_added_41 : decode cX5_added 41 = .ok (.aload_n 0, 1) := by decide +kernel
theorem dX5_added_42 : decode cX5_added 42 = .ok (.getfield 22, 3) := by decide +kernel
theorem dX5_added_45 : decode cX5_added 45 = .ok (.aload_n 0, 1) := by decide +kernel
theorem dX5_added_46 : decode cX5_added 46 = .ok (.getfield 73, 3) := by decide +kernel
theorem dX5_added_49 : decode cX5_added 49 = .ok (.iload 5, 2) := by decide +kernel
theorem dX5_added_51 : decode cX5_added 51 = .ok (.iastore, 1) := by decide +kernel
theorem dX5_added_52 : decode cX5_added 52 = .ok (.aload_n 0, 1) := by decide +kernel
theorem dX5_added_53 : decode cX5_added 53 = .ok (.dup, 1) := by decide +kernel
theorem dX5_added_54 : decode cX5_added 54 = .ok (.getfield 73, 3) := by decide +kernel
theorem dX5_added_57 : decode cX5_added 57 = .ok (.iconst 1, 1) := by decide +kernel
theorem dX5_added_58 : decode cX5_added 58 = .ok (.iadd, 1) := by decide +kernel
theorem dX5_added_59 : decode cX5_added 59 = .ok (.putfield 73, 3) := by decide +kernel
theorem dX5_added_62 : decode cX5_added 62 = .ok (.aload_n 0, 1) := by decide +kernel
theorem dX5_added_63 : decode cX5_added 63 = .ok (.iconst 0, 1) := by decide +kernel
theorem dX5_added_64 : decode cX5_added 64 = .ok (.putfield 82, 3) := by decide +kernel
theorem dX5_added_67 : decode cX5_added 67 = .ok (.aload_n 0, 1) := by decide +kernel
theorem dX5_added_68 : decode cX5_added 68 = .ok (.getfield 73, 3) := by decide +kernel
theorem dX5_added_71 : decode cX5_added 71 = .ok (.iconst 1, 1) := by decide +kernel
theorem dX5_added_72 : decode cX5_added 72 = .ok (.isub, 1) := by decide +kernel
theorem dX5_added_73 : decode cX5_added 73 = .ok (.ireturn, 1) := by decide +kernel
theorem dX5_draw_0 : decode cX5_draw 0 = .ok (.aload_n 0, 1) := by decide +kernel
theorem dX5_draw_1 : decode cX5_draw 1 = .ok (.iconst 0, 1) := by decide +kernel
theorem dX5_draw_2 : decode cX5_draw 2 = .ok (.putfield 69, 3) := by decide +kernel
theorem dX5_draw_5 : decode cX5_draw 5 = .ok (.iload_n 1, 1) := by decide +kernel
theorem dX5_draw_6 : decode cX5_draw 6 = .ok (.iconst 0, 1) := by decide +kernel
theorem dX5_draw_7 : decode cX5_draw 7 = .ok (.iconst 5, 1) := by decide +kernel
theorem dX5_draw_8 : decode cX5_draw 8 = .ok (.invokestatic 86, 3) := by decide +kernel
theorem dX5_draw_11 : decode cX5_draw 11 = .ok (.ifCond .eq 12, 3) := by decide +kernel
theorem dX5_draw_14 : decode cX5_draw 14 = .ok (.iload_n 2, 1) := by decide +kernel
theorem dX5_draw_15 : decode cX5_draw 15 = .ok (.iconst 0, 1) := by decide +kernel
theorem dX5_draw_16 : decode cX5_draw 16 = .ok (.iconst 3, 1) := by decide +kernel
theorem dX5_draw_17 : decode cX5_draw 17 = .ok (.invokestatic 86, 3) := by decide +kernel
theorem dX5_draw_20 : decode cX5_draw 20 = .ok (.ifCond .ne 5, 3) := by decide +kernel
theorem dX5_draw_23 : decode cX5_draw 23 = .ok (.iconst (-1), 1) := by decide +kernel
theorem dX5_draw_24 : decode cX5_draw 24 = .ok (.ireturn, 1) := by decide +kernel
theorem dX5_draw_25 : decode cX5_draw 25 = .ok (.aload_n 0, 1) := by decide +kernel
theorem dX5_draw_26 : decode cX5_draw 26 = .ok (.getfield 73, 3) := by decide +kernel
theorem dX5_draw_29 : decode cX5_draw 29 = .ok (.bipush 30, 2) := by decide +kernel
theorem dX5_draw_31 : decode cX5_draw 31 = .ok (.if_icmp .eq 12, 3) := by decide +kernel
theorem dX5_draw_34 : decode cX5_draw 34 = .ok (.aload_n 0, 1) := by decide +kernel
theorem dX5_draw_35 : decode cX5_draw 35 = .ok (.getfield 76, 3) := by decide +kernel
theorem dX5_draw_38 : decode cX5_draw 38 = .ok (.bipush 8, 2) := by decide +kernel
theorem dX5_draw_40 : decode cX5_draw 40 = .ok (.if_icmp .ne 6, 3) := by decide +kernel
theorem dX5_draw_43 : decode cX5_draw 43 = .ok (.bipush (-2), 2) := by decide +kernel
theorem dX5_draw_45 : decode cX5_draw 45 = .ok (.ireturn, 1) := by decide +kernel
theorem dX5_draw_46 : decode cX5_draw 46 = .ok (.aload_n 0, 1) := by decide +kernel
theorem dX5_draw_47 : decode cX5_draw 47 = .ok (.dup, 1) := by decide +kernel
theorem dX5_draw_48 : decode cX5_draw 48 = .ok (.getfield 76, 3) := by decide +kernel
theorem dX5_draw_51 : decode cX5_draw 51 = .ok (.iconst 1, 1) := by decide +kernel
theorem dX5_draw_52 : decode cX5_draw 52 = .ok (.iadd, 1) := by decide +kernel
theorem dX5_draw_53 : decode cX5_draw 53 = .ok (.putfield 76, 3) := by decide +kernel
theorem dX5_draw_56 : decode cX5_draw 56 = .ok (.aload_n 0, 1) := by decide +kernel
theorem dX5_draw_57 : decode cX5_draw 57 = .ok (.iconst 0, 1) := by decide +kernel
theorem dX5_draw_58 : decode cX5_draw 58 = .ok (.iload_n 1, 1) := by decide +kernel
theorem dX5_draw_59 : decode cX5_draw 59 = .ok (.iload_n 2, 1) := by decide +kernel
theorem dX5_draw_60 : decode cX5_draw 60 = .ok (.bipush 10, 2) := by decide +kernel
theorem dX5_draw_62 : decode cX5_draw 62 = .ok (.bipush 10, 2) := by decide +kernel
theorem dX5_draw_64 : decode cX5_draw 64 = .ok (.invokevirtual 90, 3) := by decide +kernel
theorem dX5_draw_67 : decode cX5_draw 67 = .ok (.ireturn, 1) := by decide +kernel
theorem dX5_set_0 : decode cX5_set 0 = .ok (.aload_n 0, 1) := by decide +kernel
theorem dX5_set_1 : decode cX5_set 1 = .ok (.iconst 0, 1) := by decide +kernel
theorem dX5_set_2 : decode cX5_set 2 = .ok (.putfield 69, 3) := by decide +kernel
theorem dX5_set_5 : decode cX5_set 5 = .ok (.iload_n 1, 1) := by decide +kernel
theorem dX5_set_6 : decode cX5_set 6 = .ok (.iconst 0, 1) := by decide +kernel
theorem dX5_set_7 : decode cX5_set 7 = .ok (.iconst 5, 1) := by decide +kernel
theorem dX5_set_8 : decode cX5_set 8 = .ok (.invokestatic 86, 3) := by decide +kernel
theorem dX5_set_11 : decode cX5_set 11 = .ok (.ifCond .eq 28, 3) := by decide +kernel
theorem dX5_set_14 : decode cX5_set 14 = .ok (.iload_n 2, 1) := by decide +kernel
theorem dX5_set_15 : decode cX5_set 15 = .ok (.iconst 0, 1) := by decide +kernel
theorem dX5_set_16 : decode cX5_set 16 = .ok (.bipush 6, 2) := by decide +kernel
theorem dX5_set_18 : decode cX5_set 18 = .ok (.invokestatic 86, 3) := by decide +kernel
theorem dX5_set_21 : decode cX5_set 21 = .ok (.ifCond .eq 18, 3) := by decide +kernel
theorem dX5_set_24 : decode cX5_set 24 = .ok (.iload_n 3, 1) := by decide +kernel
theorem dX5_set_25 : decode cX5_set 25 = .ok (.invokestatic 94, 3) := by decide +kernel
theorem dX5_set_28 : decode cX5_set 28 = .ok (.ifCond .eq 11, 3) := by decide +kernel
theorem dX5_set_31 : decode cX5_set 31 = .ok (.iload 4, 2) := by decide +kernel
theorem dX5_set_33 : decode cX5_set 33 = .ok (.invokestatic 94, 3) := by decide +kernel
theorem dX5_set_36 : decode cX5_set 36 = .ok (.ifCond .ne 5, 3) := by decide +kernel
theorem dX5_set_39 : decode cX5_set 39 = .ok (.iconst (-1), 1) := by decide +kernel
theorem dX5_set_40 : decode cX5_set 40 = .ok (.ireturn, 1) := by decide +kernel
theorem dX5_set_41 : decode cX5_set 41 = .ok (.aload_n 0, 1) := by decide +kernel
theorem dX5_set_42 : decode cX5_set 42 = .ok (.getfield 73, 3) := by decide +kernel
theorem dX5_set_45 : decode cX5_set 45 = .ok (.bipush 30, 2) := by decide +kernel
theorem dX5_set_47 : decode cX5_set 47 = .ok (.if_icmp .ne 8, 3) := by decide +kernel
theorem dX5_set_50 : decode cX5_set 50 = .ok (.bipush (-2), 2) := by decide +kernel
theorem dX5_set_52 : decode cX5_set 52 = .ok (.goto 13, 3) := by decide +kernel
theorem dX5_set_55 : decode cX5_set 55 = .ok (.aload_n 0, 1) := by decide +kernel
theorem dX5_set_56 : decode cX5_set 56 = .ok (.iconst 1, 1) := by decide +kernel
theorem dX5_set_57 : decode cX5_set 57 = .ok (.iload_n 1, 1) := by decide +kernel
theorem dX5_set_58 : decode cX5_set 58 = .ok (.iload_n 2, 1) := by decide +kernel
theorem dX5_set_59 : decode cX5_set 59 = .ok (.iload_n 3, 1) := by decide +kernel
theorem dX5_set_60 : decode cX5_set 60 = .ok (.iload 4, 2) := by decide +kernel
theorem dX5_set_62 : decode cX5_set 62 = .ok (.invokevirtual 90, 3) := by decide +kernel
theorem dX5_set_65 : decode cX5_set 65 = .ok (.ireturn, 1) := by decide +kernel
theorem dX5_observe_0 : decode cX5_observe 0 = .ok (.aload_n 0, 1) := by decide +kernel
theorem dX5_observe_1 : decode cX5_observe 1 = .ok (.iconst 0, 1) := by decide +kernel
theorem dX5_observe_2 : decode cX5_observe 2 = .ok (.putfield 69, 3) := by decide +kernel
end
section
theorem dX5_observe_5 : decode cX5_observe 5 = .ok (.iload_n 1, 1) := by decide +kernel
theorem dX5_observe_6 : decode cX5_observe 6 = .ok (.invokestatic 94, 3) := by decide +kernel
theorem dX5_observe_9 : decode cX5_observe 9 = .ok (.ifCond .eq 19, 3) := by decide +kernel
theorem dX5_observe_12 : decode cX5_observe 12 = .ok (.iload_n 2, 1) := by decide +kernel
theorem dX5_observe_13 : decode cX5_observe 13 = .ok (.iconst 0, 1) := by decide +kernel
theorem dX5_observe_14 : decode cX5_observe 14 = .ok (.iconst 3, 1) := by decide +kernel
theorem dX5_observe_15 : decode cX5_observe 15 = .ok (.invokestatic 86, 3) := by decide +kernel
theorem dX5_observe_18 : decode cX5_observe 18 = .ok (.ifCond .eq 10, 3) := by decide +kernel
theorem dX5_observe_21 : decode cX5_observe 21 = .ok (.iload_n 3, 1) := by decide +kernel
theorem dX5_observe_22 : decode cX5_observe 22 = .ok (.invokestatic 94, 3) := by decide +kernel
theorem dX5_observe_25 : decode cX5_observe 25 = .ok (.ifCond .ne 5, 3) := by decide +kernel
theorem dX5_observe_28 : decode cX5_observe 28 = .ok (.iconst (-1), 1) := by decide +kernel
theorem dX5_observe_29 : decode cX5_observe 29 = .ok (.ireturn, 1) := by decide +kernel
theorem dX5_observe_30 : decode cX5_observe 30 = .ok (.aload_n 0, 1) := by decide +kernel
theorem dX5_observe_31 : decode cX5_observe 31 = .ok (.getfield 73, 3) := by decide +kernel
theorem dX5_observe_34 : decode cX5_observe 34 = .ok (.bipush 30, 2) := by decide +kernel
theorem dX5_observe_36 : decode cX5_observe 36 = .ok (.if_icmp .ne 8, 3) := by decide +kernel
theorem dX5_observe_39 : decode cX5_observe 39 = .ok (.bipush (-2), 2) := by decide +kernel
theorem dX5_observe_41 : decode cX5_observe 41 = .ok (.goto 12, 3) := by decide +kernel
theorem dX5_observe_44 : decode cX5_observe 44 = .ok (.aload_n 0, 1) := by decide +kernel
theorem dX5_observe_45 : decode cX5_observe 45 = .ok (.iconst 2, 1) := by decide +kernel
theorem dX5_observe_46 : decode cX5_observe 46 = .ok (.iconst 0, 1) := by decide +kernel
theorem dX5_observe_47 : decode cX5_observe 47 = .ok (.iload_n 2, 1) := by decide +kernel
theorem dX5_observe_48 : decode cX5_observe 48 = .ok (.iload_n 1, 1) := by decide +kernel
theorem dX5_observe_49 : decode cX5_observe 49 = .ok (.iload_n 3, 1) := by decide +kernel
theorem dX5_observe_50 : decode cX5_observe 50 = .ok (.invokevirtual 90, 3) := by decide +kernel
theorem dX5_observe_53 : decode cX5_observe 53 = .ok (.ireturn, 1) := by decide +kernel
theorem dX5_weigh_0 : decode cX5_weigh 0 = .ok (.aload_n 0, 1) := by decide +kernel
theorem dX5_weigh_1 : decode cX5_weigh 1 = .ok (.iconst 0, 1) := by decide +kernel
theorem dX5_weigh_2 : decode cX5_weigh 2 = .ok (.putfield 69, 3) := by decide +kernel
theorem dX5_weigh_5 : decode cX5_weigh 5 = .ok (.iload_n 1, 1) := by decide +kernel
theorem dX5_weigh_6 : decode cX5_weigh 6 = .ok (.invokestatic 94, 3) := by decide +kernel
theorem dX5_weigh_9 : decode cX5_weigh 9 = .ok (.ifCond .ne 5, 3) := by decide +kernel
theorem dX5_weigh_12 : decode cX5_weigh 12 = .ok (.iconst (-1), 1) := by decide +kernel
theorem dX5_weigh_13 : decode cX5_weigh 13 = .ok (.ireturn, 1) := by decide +kernel
theorem dX5_weigh_14 : decode cX5_weigh 14 = .ok (.aload_n 0, 1) := by decide +kernel
theorem dX5_weigh_15 : decode cX5_weigh 15 = .ok (.getfield 73, 3) := by decide +kernel
theorem dX5_weigh_18 : decode cX5_weigh 18 = .ok (.bipush 30, 2) := by decide +kernel
theorem dX5_weigh_20 : decode cX5_weigh 20 = .ok (.if_icmp .eq 11, 3) := by decide +kernel
theorem dX5_weigh_23 : decode cX5_weigh 23 = .ok (.aload_n 0, 1) := by decide +kernel
theorem dX5_weigh_24 : decode cX5_weigh 24 = .ok (.getfield 79, 3) := by decide +kernel
theorem dX5_weigh_27 : decode cX5_weigh 27 = .ok (.iconst 3, 1) := by decide +kernel
theorem dX5_weigh_28 : decode cX5_weigh 28 = .ok (.if_icmp .ne 6, 3) := by decide +kernel
theorem dX5_weigh_31 : decode cX5_weigh 31 = .ok (.bipush (-2), 2) := by decide +kernel
theorem dX5_weigh_33 : decode cX5_weigh 33 = .ok (.ireturn, 1) := by decide +kernel
theorem dX5_weigh_34 : decode cX5_weigh 34 = .ok (.aload_n 0, 1) := by decide +kernel
theorem dX5_weigh_35 : decode cX5_weigh 35 = .ok (.dup, 1) := by decide +kernel
theorem dX5_weigh_36 : decode cX5_weigh 36 = .ok (.getfield 79, 3) := by decide +kernel
theorem dX5_weigh_39 : decode cX5_weigh 39 = .ok (.iconst 1, 1) := by decide +kernel
theorem dX5_weigh_40 : decode cX5_weigh 40 = .ok (.iadd, 1) := by decide +kernel
theorem dX5_weigh_41 : decode cX5_weigh 41 = .ok (.putfield 79, 3) := by decide +kernel
theorem dX5_weigh_44 : decode cX5_weigh 44 = .ok (.aload_n 0, 1) := by decide +kernel
theorem dX5_weigh_45 : decode cX5_weigh 45 = .ok (.iconst 3, 1) := by decide +kernel
theorem dX5_weigh_46 : decode cX5_weigh 46 = .ok (.iconst 0, 1) := by decide +kernel
theorem dX5_weigh_47 : decode cX5_weigh 47 = .ok (.iconst 0, 1) := by decide +kernel
theorem dX5_weigh_48 : decode cX5_weigh 48 = .ok (.iload_n 1, 1) := by decide +kernel
theorem dX5_weigh_49 : decode cX5_weigh 49 = .ok (.bipush 10, 2) := by decide +kernel
theorem dX5_weigh_51 : decode cX5_weigh 51 = .ok (.invokevirtual 90, 3) := by decide +kernel
theorem dX5_weigh_54 : decode cX5_weigh 54 = .ok (.ireturn, 1) := by decide +kernel
theorem dX5_skip_0 : decode cX5_skip 0 = .ok (.aload_n 0, 1) := by decide +kernel
theorem dX5_skip_1 : decode cX5_skip 1 = .ok (.iconst 0, 1) := by decide +kernel
theorem dX5_skip_2 : decode cX5_skip 2 = .ok (.putfield 69, 3) := by decide +kernel
theorem dX5_skip_5 : decode cX5_skip 5 = .ok (.iload_n 1, 1) := by decide +kernel
theorem dX5_skip_6 : decode cX5_skip 6 = .ok (.invokestatic 94, 3) := by decide +kernel
theorem dX5_skip_9 : decode cX5_skip 9 = .ok (.ifCond .eq 13, 3) := by decide +kernel
theorem dX5_skip_12 : decode cX5_skip 12 = .ok (.iload_n 2, 1) := by decide +kernel
theorem dX5_skip_13 : decode cX5_skip 13 = .ok (.iconst 1, 1) := by decide +kernel
theorem dX5_skip_14 : decode cX5_skip 14 = .ok (.bipush 9, 2) := by decide +kernel
theorem dX5_skip_16 : decode cX5_skip 16 = .ok (.invokestatic 86, 3) := by decide +kernel
theorem dX5_skip_19 : decode cX5_skip 19 = .ok (.ifCond .ne 5, 3) := by decide +kernel
theorem dX5_skip_22 : decode cX5_skip 22 = .ok (.iconst (-1), 1) := by decide +kernel
theorem dX5_skip_23 : decode cX5_skip 23 = .ok (.ireturn, 1) := by decide +kernel
theorem dX5_skip_24 : decode cX5_skip 24 = .ok (.aload_n 0, 1) := by decide +kernel
theorem dX5_skip_25 : decode cX5_skip 25 = .ok (.getfield 73, 3) := by decide +kernel
theorem dX5_skip_28 : decode cX5_skip 28 = .ok (.bipush 30, 2) := by decide +kernel
theorem dX5_skip_30 : decode cX5_skip 30 = .ok (.if_icmp .ne 8, 3) := by decide +kernel
theorem dX5_skip_33 : decode cX5_skip 33 = .ok (.bipush (-2), 2) := by decide +kernel
theorem dX5_skip_35 : decode cX5_skip 35 = .ok (.goto 13, 3) := by decide +kernel
theorem dX5_skip_38 : decode cX5_skip 38 = .ok (.aload_n 0, 1) := by decide +kernel
theorem dX5_skip_39 : decode cX5_skip 39 = .ok (.iconst 4, 1) := by decide +kernel
theorem dX5_skip_40 : decode cX5_skip 40 = .ok (.iconst 0, 1) := by decide +kernel
theorem dX5_skip_41 : decode cX5_skip 41 = .ok (.iload_n 2, 1) := by decide +kernel
theorem dX5_skip_42 : decode cX5_skip 42 = .ok (.iload_n 1, 1) := by decide +kernel
theorem dX5_skip_43 : decode cX5_skip 43 = .ok (.bipush 10, 2) := by decide +kernel
theorem dX5_skip_45 : decode cX5_skip 45 = .ok (.invokevirtual 90, 3) := by decide +kernel
theorem dX5_skip_48 : decode cX5_skip 48 = .ok (.ireturn, 1) := by decide +kernel
theorem dX5_drop_0 : decode cX5_drop 0 = .ok (.aload_n 0, 1) := by decide +kernel
theorem dX5_drop_1 : decode cX5_drop 1 = .ok (.iconst 0, 1) := by decide +kernel
theorem dX5_drop_2 : decode cX5_drop 2 = .ok (.putfield 69, 3) := by decide +kernel
theorem dX5_drop_5 : decode cX5_drop 5 = .ok (.aload_n 0, 1) := by decide +kernel
theorem dX5_drop_6 : decode cX5_drop 6 = .ok (.getfield 73, 3) := by decide +kernel
theorem dX5_drop_9 : decode cX5_drop 9 = .ok (.ifCond .ne 6, 3) := by decide +kernel
theorem dX5_drop_12 : decode cX5_drop 12 = .ok (.bipush (-3), 2) := by decide +kernel
theorem dX5_drop_14 : decode cX5_drop 14 = .ok (.ireturn, 1) := by decide +kernel
theorem dX5_drop_15 : decode cX5_drop 15 = .ok (.aload_n 0, 1) := by decide +kernel
theorem dX5_drop_16 : decode cX5_drop 16 = .ok (.dup, 1) := by decide +kernel
theorem dX5_drop_17 : decode cX5_drop 17 = .ok (.getfield 73, 3) := by decide +kernel
theorem dX5_drop_20 : decode cX5_drop 20 = .ok (.iconst 1, 1) := by decide +kernel
theorem dX5_drop_21 : decode cX5_drop 21 = .ok (.isub, 1) := by decide +kernel
theorem dX5_drop_22 : decode cX5_drop 22 = .ok (.putfield 73, 3) := by decide +kernel
theorem dX5_drop_25 : decode cX5_drop 25 = .ok (.aload_n 0, 1) := by decide +kernel
theorem dX5_drop_26 : decode cX5_drop 26 = .ok (.dup, 1) := by decide +kernel
theorem dX5_drop_27 : decode cX5_drop 27 = .ok (.getfield 76, 3) := by decide +kernel
theorem dX5_drop_30 : decode cX5_drop 30 = .ok (.aload_n 0, 1) := by decide +kernel
theorem dX5_drop_31 : decode cX5_drop 31 = .ok (.getfield 7, 3) := by decide +kernel
theorem dX5_drop_34 : decode cX5_drop 34 = .ok (.aload_n 0, 1) := by decide +kernel
theorem dX5_drop_35 : decode cX5_drop 35 = .ok (.getfield 73, 3) := by decide +kernel
theorem dX5_drop_38 : decode cX5_drop 38 = .ok (.iaload, 1) := by decide +kernel
theorem dX5_drop_39 : decode cX5_drop 39 = .ok (.ifCond .ne 7, 3) := by decide +kernel
theorem dX5_drop_42 : decode cX5_drop 42 = .ok (.iconst 1, 1) := by decide +kernel
theorem dX5_drop_43 : decode cX5_drop 43 = .ok (.goto 4, 3) := by decide +kernel
theorem dX5_drop_46 : decode cX5_drop 46 = .ok (.iconst 0, 1) := by decide +kernel
theorem dX5_drop_47 : decode cX5_drop 47 = .ok (.isub, 1) := by decide +kernel
theorem dX5_drop_48 : decode cX5_drop 48 = .ok (.putfield 76, 3) := by decide +kernel
theorem dX5_drop_51 : decode cX5_drop 51 = .ok (.aload_n 0, 1) := by decide +kernel
theorem dX5_drop_52 : decode cX5_drop 52 = .ok (.dup, 1) := by decide +kernel
theorem dX5_drop_53 : decode cX5_drop 53 = .ok (.getfield 79, 3) := by decide +kernel
theorem dX5_drop_56 : decode cX5_drop 56 = .ok (.aload_n 0, 1) := by decide +kernel
theorem dX5_drop_57 : decode cX5_drop 57 = .ok (.getfield 7, 3) := by decide +kernel
theorem dX5_drop_60 : decode cX5_drop 60 = .ok (.aload_n 0, 1) := by decide +kernel
theorem dX5_drop_61 : decode cX5_drop 61 = .ok (.getfield 73, 3) := by decide +kernel
theorem dX5_drop_64 : decode cX5_drop 64 = .ok (.iaload, 1) := by decide +kernel
theorem dX5_drop_65 : decode cX5_drop 65 = .ok (.iconst 3, 1) := by decide +kernel
theorem dX5_drop_66 : decode cX5_drop 66 = .ok (.if_icmp .ne 7, 3) := by decide +kernel
theorem dX5_drop_69 : decode cX5_drop 69 = .ok (.iconst 1, 1) := by decide +kernel
theorem dX5_drop_70 : decode cX5_drop 70 = .ok (.goto 4, 3) := by decide +kernel
theorem dX5_drop_73 : decode cX5_drop 73 = .ok (.iconst 0, 1) := by decide +kernel
theorem dX5_drop_74 : decode cX5_drop 74 = .ok (.isub, 1) := by decide +kernel
theorem dX5_drop_75 : decode cX5_drop 75 = .ok (.putfield 79, 3) := by decide +kernel
theorem dX5_drop_78 : decode cX5_drop 78 = .ok (.aload_n 0, 1) := by decide +kernel
theorem dX5_drop_79 : decode cX5_drop 79 = .ok (.iconst 0, 1) := by decide +kernel
theorem dX5_drop_80 : decode cX5_drop 80 = .ok (.putfield 82, 3) := by decide +kernel
theorem dX5_drop_83 : decode cX5_drop 83 = .ok (.aload_n 0, 1) := by decide +kernel
theorem dX5_drop_84 : decode cX5_drop 84 = .ok (.getfield 73, 3) := by decide +kernel
theorem dX5_drop_87 : decode cX5_drop 87 = .ok (.ireturn, 1) := by decide +kernel
theorem dX5_ask_0 : decode cX5_ask 0 = .ok (.aload_n 0, 1) := by decide +kernel
theorem dX5_ask_1 : decode cX5_ask 1 = .ok (.iconst 0, 1) := by decide +kernel
theorem dX5_ask_2 : decode cX5_ask 2 = .ok (.putfield 69, 3) := by decide +kernel
theorem dX5_ask_5 : decode cX5_ask 5 = .ok (.iload_n 1, 1) := by decide +kernel
theorem dX5_ask_6 : decode cX5_ask 6 = .ok (.iconst 0, 1) := by decide +kernel
theorem dX5_ask_7 : decode cX5_ask 7 = .ok (.iconst 5, 1) := by decide +kernel
theorem dX5_ask_8 : decode cX5_ask 8 = .ok (.invokestatic 86, 3) := by decide +kernel
theorem dX5_ask_11 : decode cX5_ask 11 = .ok (.ifCond .ne 5, 3) := by decide +kernel
theorem dX5_ask_14 : decode cX5_ask 14 = .ok (.iconst (-1), 1) := by decide +kernel
theorem dX5_ask_15 : decode cX5_ask 15 = .ok (.ireturn, 1) := by decide +kernel
theorem dX5_ask_16 : decode cX5_ask 16 = .ok (.aload_n 0, 1) := by decide +kernel
theorem dX5_ask_17 : decode cX5_ask 17 = .ok (.getfield 28, 3) := by decide +kernel
theorem dX5_ask_20 : decode cX5_ask 20 = .ok (.iload_n 1, 1) := by decide +kernel
theorem dX5_ask_21 : decode cX5_ask 21 = .ok (.baload, 1) := by decide +kernel
theorem dX5_ask_22 : decode cX5_ask 22 = .ok (.ifCond .eq 7, 3) := by decide +kernel
theorem dX5_ask_25 : decode cX5_ask 25 = .ok (.iconst 1, 1) := by decide +kernel
theorem dX5_ask_26 : decode cX5_ask 26 = .ok (.goto 4, 3) := by decide +kernel
theorem dX5_ask_29 : decode cX5_ask 29 = .ok (.iconst 0, 1) := by decide +kernel
theorem dX5_ask_30 : decode cX5_ask 30 = .ok (.istore_n 3, 1) := by decide +kernel
theorem dX5_ask_31 : decode cX5_ask 31 = .ok (.aload_n 0, 1) := by decide +kernel
theorem dX5_ask_32 : decode cX5_ask 32 = .ok (.getfield 28, 3) := by decide +kernel
theorem dX5_ask_35 : decode cX5_ask 35 = .ok (.iload_n 1, 1) := by decide +kernel
theorem dX5_ask_36 : decode cX5_ask 36 = .ok (.iload_n 2, 1) := by decide +kernel
theorem dX5_ask_37 : decode cX5_ask 37 = .ok (.bastore, 1) := by decide +kernel
theorem dX5_ask_38 : decode cX5_ask 38 = .ok (.aload_n 0, 1) := by decide +kernel
theorem dX5_ask_39 : decode cX5_ask 39 = .ok (.iconst 0, 1) := by decide +kernel
theorem dX5_ask_40 : decode cX5_ask 40 = .ok (.putfield 82, 3) := by decide +kernel
theorem dX5_ask_43 : decode cX5_ask 43 = .ok (.iload_n 3, 1) := by decide +kernel
theorem dX5_ask_44 : decode cX5_ask 44 = .ok (.ireturn, 1) := by decide +kernel
theorem dX5_bit_0 : decode cX5_bit 0 = .ok (.iload_n 0, 1) := by decide +kernel
theorem dX5_bit_1 : decode cX5_bit 1 = .ok (.bipush 6, 2) := by decide +kernel
theorem dX5_bit_3 : decode cX5_bit 3 = .ok (.if_icmp .ge 9, 3) := by decide +kernel
theorem dX5_bit_6 : decode cX5_bit 6 = .ok (.iconst 1, 1) := by decide +kernel
theorem dX5_bit_7 : decode cX5_bit 7 = .ok (.iload_n 0, 1) := by decide +kernel
theorem dX5_bit_8 : decode cX5_bit 8 = .ok (.ishl, 1) := by decide +kernel
theorem dX5_bit_9 : decode cX5_bit 9 = .ok (.goto 4, 3) := by decide +kernel
theorem dX5_bit_12 : decode cX5_bit 12 = .ok (.iconst 0, 1) := by decide +kernel
theorem dX5_bit_13 : decode cX5_bit 13 = .ok (.ireturn, 1) := by decide +kernel
theorem dX5_passed_0 : decode cX5_passed 0 = .ok (.iload_n 1, 1) := by decide +kernel
theorem dX5_passed_1 : decode cX5_passed 1 = .ok (.iconst 1, 1) := by decide +kernel
theorem dX5_passed_2 : decode cX5_passed 2 = .ok (.iadd, 1) := by decide +kernel
theorem dX5_passed_3 : decode cX5_passed 3 = .ok (.aload_n 0, 1) := by decide +kernel
theorem dX5_passed_4 : decode cX5_passed 4 = .ok (.getfield 16, 3) := by decide +kernel
theorem dX5_passed_7 : decode cX5_passed 7 = .ok (.iload_n 1, 1) := by decide +kernel
theorem dX5_passed_8 : decode cX5_passed 8 = .ok (.iaload, 1) := by decide +kernel
theorem dX5_passed_9 : decode cX5_passed 9 = .ok (.iadd, 1) := by decide +kernel
theorem dX5_passed_10 : decode cX5_passed 10 = .ok (.istore_n 2, 1) := by decide +kernel
theorem dX5_passed_11 : decode cX5_passed 11 = .ok (.iload_n 2, 1) := by decide +kernel
theorem dX5_passed_12 : decode cX5_passed 12 = .ok (.aload_n 0, 1) := by decide +kernel
theorem dX5_passed_13 : decode cX5_passed 13 = .ok (.getfield 73, 3) := by decide +kernel
theorem dX5_passed_16 : decode cX5_passed 16 = .ok (.if_icmp .le 10, 3) := by decide +kernel
theorem dX5_passed_19 : decode cX5_passed 19 = .ok (.aload_n 0, 1) := by decide +kernel
theorem dX5_passed_20 : decode cX5_passed 20 = .ok (.getfield 73, 3) := by decide +kernel
theorem dX5_passed_23 : decode cX5_passed 23 = .ok (.goto 4, 3) := by decide +kernel
theorem dX5_passed_26 : decode cX5_passed 26 = .ok (.iload_n 2, 1) := by decide +kernel
theorem dX5_passed_27 : decode cX5_passed 27 = .ok (.ireturn, 1) := by decide +kernel
theorem dX5_liven_0 : decode cX5_liven 0 = .ok (.aload_n 0, 1) := by decide +kernel
theorem dX5_liven_1 : decode cX5_liven 1 = .ok (.getfield 48, 3) := by decide +kernel
theorem dX5_liven_4 : decode cX5_liven 4 = .ok (.aload_n 0, 1) := by decide +kernel
theorem dX5_liven_5 : decode cX5_liven 5 = .ok (.getfield 73, 3) := by decide +kernel
theorem dX5_liven_8 : decode cX5_liven 8 = .ok (.iconst 0, 1) := by decide +kernel
theorem dX5_liven_9 : decode cX5_liven 9 = .ok (.iastore, 1) := by decide +kernel
theorem dX5_liven_10 : decode cX5_liven 10 = .ok (.iconst 0, 1) := by decide +kernel
theorem dX5_liven_11 : decode cX5_liven 11 = .ok (.istore_n 1, 1) := by decide +kernel
theorem dX5_liven_12 : decode cX5_liven 12 = .ok (.iload_n 1, 1) := by decide +kernel
theorem dX5_liven_13 : decode cX5_liven 13 = .ok (.bipush 6, 2) := by decide +kernel
theorem dX5_liven_15 : decode cX5_liven 15 = .ok (.if_icmp .ge 37, 3) := by decide +kernel
theorem dX5_liven_18 : decode cX5_liven 18 = .ok (.aload_n 0, 1) := by decide +kernel
theorem dX5_liven_19 : decode cX5_liven 19 = .ok (.getfield 48, 3) := by decide +kernel
theorem dX5_liven_22 : decode cX5_liven 22 = .ok (.aload_n 0, 1) := by decide +kernel
theorem dX5_liven_23 : decode cX5_liven 23 = .ok (.getfield 73, 3) := by decide +kernel
theorem dX5_liven_26 : decode cX5_liven 26 = .ok (.dup2, 1) := by decide +kernel
theorem dX5_liven_27 : decode cX5_liven 27 = .ok (.iaload, 1) := by decide +kernel
theorem dX5_liven_28 : decode cX5_liven 28 = .ok (.aload_n 0, 1) := by decide +kernel
theorem dX5_liven_29 : decode cX5_liven 29 = .ok (.getfield 28, 3) := by decide +kernel
theorem dX5_liven_32 : decode cX5_liven 32 = .ok (.iload_n 1, 1) := by decide +kernel
theorem dX5_liven_33 : decode cX5_liven 33 = .ok (.baload, 1) := by decide +kernel
theorem dX5_liven_34 : decode cX5_liven 34 = .ok (.ifCond .eq 9, 3) := by decide +kernel
theorem dX5_liven_37 : decode cX5_liven 37 = .ok (.iconst 1, 1) := by decide +kernel
theorem dX5_liven_38 : decode cX5_liven 38 = .ok (.iload_n 1, 1) := by decide +kernel
theorem dX5_liven_39 : decode cX5_liven 39 = .ok (.ishl, 1) := by decide +kernel
theorem dX5_liven_40 : decode cX5_liven 40 = .ok (.goto 4, 3) := by decide +kernel
theorem dX5_liven_43 : decode cX5_liven 43 = .ok (.iconst 0, 1) := by decide +kernel
theorem dX5_liven_44 : decode cX5_liven 44 = .ok (.ior, 1) := by decide +kernel
theorem dX5_liven_45 : decode cX5_liven 45 = .ok (.iastore, 1) := by decide +kernel
theorem dX5_liven_46 : decode cX5_liven 46 = .ok (.iinc 1 1, 3) := by decide +kernel
theorem dX5_liven_49 : decode cX5_liven 49 = .ok (.goto (-37), 3) := by decide +kernel
theorem dX5_liven_52 : decode cX5_liven 52 = .ok (.aload_n 0, 1) := by decide +kernel
theorem dX5_liven_53 : decode cX5_liven 53 = .ok (.getfield 73, 3) := by decide +kernel
theorem dX5_liven_56 : decode cX5_liven 56 = .ok (.iconst 1, 1) := by decide +kernel
theorem dX5_liven_57 : decode cX5_liven 57 = .ok (.isub, 1) := by decide +kernel
theorem dX5_liven_58 : decode cX5_liven 58 = .ok (.istore_n 1, 1) := by decide +kernel
theorem dX5_liven_59 : decode cX5_liven 59 = .ok (.iload_n 1, 1) := by decide +kernel
theorem dX5_liven_60 : decode cX5_liven 60 = .ok (.ifCond .lt 202, 3) := by decide +kernel
theorem dX5_liven_63 : decode cX5_liven 63 = .ok (.aload_n 0, 1) := by decide +kernel
theorem dX5_liven_64 : decode cX5_liven 64 = .ok (.getfield 48, 3) := by decide +kernel
theorem dX5_liven_67 : decode cX5_liven 67 = .ok (.iload_n 1, 1) := by decide +kernel
theorem dX5_liven_68 : decode cX5_liven 68 = .ok (.iconst 1, 1) := by decide +kernel
theorem dX5_liven_69 : decode cX5_liven 69 = .ok (.iadd, 1) := by decide +kernel
theorem dX5_liven_70 : decode cX5_liven 70 = .ok (.iaload, 1) := by decide +kernel
theorem dX5_liven_71 : decode cX5_liven 71 = .ok (.istore_n 2, 1) := by decide +kernel
theorem dX5_liven_72 : decode cX5_liven 72 = .ok (.aload_n 0, 1) := by decide +kernel
theorem dX5_liven_73 : decode cX5_liven 73 = .ok (.getfield 7, 3) := by decide +kernel
theorem dX5_liven_76 : decode cX5_liven 76 = .ok (.iload_n 1, 1) := by decide +kernel
theorem dX5_liven_77 : decode cX5_liven 77 = .ok (.iaload, 1) := by decide +kernel
theorem dX5_liven_78 : decode cX5_liven 78 = .ok (.tableswitch 151 0 4 #[34, 55, 151, 151, 120], 34) := by decide +kernel
theorem dX5_liven_112 : decode cX5_liven 112 = .ok (.aload_n 0, 1) := by decide +kernel
theorem dX5_liven_113 : decode cX5_liven 113 = .ok (.getfield 48, 3) := by decide +kernel
theorem dX5_liven_116 : decode cX5_liven 116 = .ok (.iload_n 1, 1) := by decide +kernel
theorem dX5_liven_117 : decode cX5_liven 117 = .ok (.iload_n 2, 1) := by decide +kernel
theorem dX5_liven_118 : decode cX5_liven 118 = .ok (.iconst 1, 1) := by decide +kernel
theorem dX5_liven_119 : decode cX5_liven 119 = .ok (.aload_n 0, 1) := by decide +kernel
theorem dX5_liven_120 : decode cX5_liven 120 = .ok (.getfield 13, 3) := by decide +kernel
theorem dX5_liven_123 : decode cX5_liven 123 = .ok (.iload_n 1, 1) := by decide +kernel
theorem dX5_liven_124 : decode cX5_liven 124 = .ok (.iaload, 1) := by decide +kernel
theorem dX5_liven_125 : decode cX5_liven 125 = .ok (.ishl, 1) := by decide +kernel
theorem dX5_liven_126 : decode cX5_liven 126 = .ok (.iconst (-1), 1) := by decide +kernel
theorem dX5_liven_127 : decode cX5_liven 127 = .ok (.ixor, 1) := by decide +kernel
theorem dX5_liven_128 : decode cX5_liven 128 = .ok (.iand, 1) := by decide +kernel
theorem dX5_liven_129 : decode cX5_liven 129 = .ok (.iastore, 1) := by decide +kernel
theorem dX5_liven_130 : decode cX5_liven 130 = .ok (.goto 126, 3) := by decide +kernel
theorem dX5_liven_133 : decode cX5_liven 133 = .ok (.aload_n 0, 1) := by decide +kernel
theorem dX5_liven_134 : decode cX5_liven 134 = .ok (.getfield 48, 3) := by decide +kernel
theorem dX5_liven_137 : decode cX5_liven 137 = .ok (.iload_n 1, 1) := by decide +kernel
theorem dX5_liven_138 : decode cX5_liven 138 = .ok (.aload_n 0, 1) := by decide +kernel
theorem dX5_liven_139 : decode cX5_liven 139 = .ok (.getfield 16, 3) := by decide +kernel
theorem dX5_liven_142 : decode cX5_liven 142 = .ok (.iload_n 1, 1) := by decide +kernel
theorem dX5_liven_143 : decode cX5_liven 143 = .ok (.iaload, 1) := by decide +kernel
theorem dX5_liven_144 : decode cX5_liven 144 = .ok (.bipush 6, 2) := by decide +kernel
theorem dX5_liven_146 : decode cX5_liven 146 = .ok (.if_icmp .ne 16, 3) := by decide +kernel
theorem dX5_liven_149 : decode cX5_liven 149 = .ok (.iload_n 2, 1) := by decide +kernel
theorem dX5_liven_150 : decode cX5_liven 150 = .ok (.iconst 1, 1) := by decide +kernel
theorem dX5_liven_151 : decode cX5_liven 151 = .ok (.aload_n 0, 1) := by decide +kernel
theorem dX5_liven_152 : decode cX5_liven 152 = .ok (.getfield 13, 3) := by decide +kernel
theorem dX5_liven_155 : decode cX5_liven 155 = .ok (.iload_n 1, 1) := by decide +kernel
theorem dX5_liven_156 : decode cX5_liven 156 = .ok (.iaload, 1) := by decide +kernel
theorem dX5_liven_157 : decode cX5_liven 157 = .ok (.ishl, 1) := by decide +kernel
theorem dX5_liven_158 : decode cX5_liven 158 = .ok (.ior, 1) := by decide +kernel
theorem dX5_liven_159 : decode cX5_liven 159 = .ok (.goto 15, 3) := by decide +kernel
theorem dX5_liven_162 : decode cX5_liven 162 = .ok (.iload_n 2, 1) := by decide +kernel
theorem dX5_liven_163 : decode cX5_liven 163 = .ok (.iconst 1, 1) := by decide +kernel
theorem dX5_liven_164 : decode cX5_liven 164 = .ok (.aload_n 0, 1) := by decide +kernel
theorem dX5_liven_165 : decode cX5_liven 165 = .ok (.getfield 13, 3) := by decide +kernel
theorem dX5_liven_168 : decode cX5_liven 168 = .ok (.iload_n 1, 1) := by decide +kernel
theorem dX5_liven_169 : decode cX5_liven 169 = .ok (.iaload, 1) := by decide +kernel
theorem dX5_liven_170 : decode cX5_liven 170 = .ok (.ishl, 1) := by decide +kernel
theorem dX5_liven_171 : decode cX5_liven 171 = .ok (.iconst (-1), 1) := by decide +kernel
theorem dX5_liven_172 : decode cX5_liven 172 = .ok (.ixor, 1) := by decide +kernel
theorem dX5_liven_173 : decode cX5_liven 173 = .ok (.iand, 1) := by decide +kernel
theorem dX5_liven_174 : decode cX5_liven 174 = .ok (.aload_n 0, 1) := by decide +kernel
theorem dX5_liven_175 : decode cX5_liven 175 = .ok (.getfield 19, 3) := by decide +kernel
theorem dX5_liven_178 : decode cX5_liven 178 = .ok (.iload_n 1, 1) := by decide +kernel
theorem dX5_liven_179 : decode cX5_liven 179 = .ok (.iaload, 1) := by decide +kernel
theorem dX5_liven_180 : decode cX5_liven 180 = .ok (.invokestatic 98, 3) := by decide +kernel
theorem dX5_liven_183 : decode cX5_liven 183 = .ok (.ior, 1) := by decide +kernel
theorem dX5_liven_184 : decode cX5_liven 184 = .ok (.aload_n 0, 1) := by decide +kernel
theorem dX5_liven_185 : decode cX5_liven 185 = .ok (.getfield 22, 3) := by decide +kernel
theorem dX5_liven_188 : decode cX5_liven 188 = .ok (.iload_n 1, 1) := by decide +kernel
theorem dX5_liven_189 : decode cX5_liven 189 = .ok (.iaload, 1) := by decide +kernel
theorem dX5_liven_190 : decode cX5_liven 190 = .ok (.invokestatic 98, 3) := by decide +kernel
theorem dX5_liven_193 : decode cX5_liven 193 = .ok (.ior, 1) := by decide +kernel
theorem dX5_liven_194 : decode cX5_liven 194 = .ok (.iastore, 1) := by decide +kernel
theorem dX5_liven_195 : decode cX5_liven 195 = .ok (.goto 61, 3) := by decide +kernel
theorem dX5_liven_198 : decode cX5_liven 198 = .ok (.aload_n 0, 1) := by decide +kernel
theorem dX5_liven_199 : decode cX5_liven 199 = .ok (.getfield 48, 3) := by decide +kernel
theorem dX5_liven_202 : decode cX5_liven 202 = .ok (.iload_n 1, 1) := by decide +kernel
theorem dX5_liven_203 : decode cX5_liven 203 = .ok (.iload_n 2, 1) := by decide +kernel
theorem dX5_liven_204 : decode cX5_liven 204 = .ok (.aload_n 0, 1) := by decide +kernel
theorem dX5_liven_205 : decode cX5_liven 205 = .ok (.getfield 48, 3) := by decide +kernel
theorem dX5_liven_208 : decode cX5_liven 208 = .ok (.aload_n 0, 1) := by decide +kernel
theorem dX5_liven_209 : decode cX5_liven 209 = .ok (.iload_n 1, 1) := by decide +kernel
theorem dX5_liven_210 : decode cX5_liven 210 = .ok (.invokevirtual 102, 3) := by decide +kernel
theorem dX5_liven_213 : decode cX5_liven 213 = .ok (.iaload, 1) := by decide +kernel
theorem dX5_liven_214 : decode cX5_liven 214 = .ok (.ior, 1) := by decide +kernel
theorem dX5_liven_215 : decode cX5_liven 215 = .ok (.aload_n 0, 1) := by decide +kernel
theorem dX5_liven_216 : decode cX5_liven 216 = .ok (.getfield 19, 3) := by decide +kernel
theorem dX5_liven_219 : decode cX5_liven 219 = .ok (.iload_n 1, 1) := by decide +kernel
theorem dX5_liven_220 : decode cX5_liven 220 = .ok (.iaload, 1) := by decide +kernel
theorem dX5_liven_221 : decode cX5_liven 221 = .ok (.invokestatic 98, 3) := by decide +kernel
theorem dX5_liven_224 : decode cX5_liven 224 = .ok (.ior, 1) := by decide +kernel
theorem dX5_liven_225 : decode cX5_liven 225 = .ok (.iastore, 1) := by decide +kernel
theorem dX5_liven_226 : decode cX5_liven 226 = .ok (.goto 30, 3) := by decide +kernel
theorem dX5_liven_229 : decode cX5_liven 229 = .ok (.aload_n 0, 1) := by decide +kernel
theorem dX5_liven_230 : decode cX5_liven 230 = .ok (.getfield 48, 3) := by decide +kernel
theorem dX5_liven_233 : decode cX5_liven 233 = .ok (.iload_n 1, 1) := by decide +kernel
theorem dX5_liven_234 : decode cX5_liven 234 = .ok (.iload_n 2, 1) := by decide +kernel
theorem dX5_liven_235 : decode cX5_liven 235 = .ok (.aload_n 0, 1) := by decide +kernel
theorem dX5_liven_236 : decode cX5_liven 236 = .ok (.getfield 19, 3) := by decide +kernel
theorem dX5_liven_239 : decode cX5_liven 239 = .ok (.iload_n 1, 1) := by decide +kernel
theorem dX5_liven_240 : decode cX5_liven 240 = .ok (.iaload, 1) := by decide +kernel
theorem dX5_liven_241 : decode cX5_liven 241 = .ok (.invokestatic 98, 3) := by decide +kernel
theorem dX5_liven_244 : decode cX5_liven 244 = .ok (.ior, 1) := by decide +kernel
theorem dX5_liven_245 : decode cX5_liven 245 = .ok (.aload_n 0, 1) := by decide +kernel
theorem dX5_liven_246 : decode cX5_liven 246 = .ok (.getfield 22, 3) := by decide +kernel
theorem dX5_liven_249 : decode cX5_liven 249 = .ok (.iload_n 1, 1) := by decide +kernel
theorem dX5_liven_250 : decode cX5_liven 250 = .ok (.iaload, 1) := by decide +kernel
theorem dX5_liven_251 : decode cX5_liven 251 = .ok (.invokestatic 98, 3) := by decide +kernel
theorem dX5_liven_254 : decode cX5_liven 254 = .ok (.ior, 1) := by decide +kernel
theorem dX5_liven_255 : decode cX5_liven 255 = .ok (.iastore, 1) := by decide +kernel
theorem dX5_liven_256 : decode cX5_liven 256 = .ok (.iinc 1 (-1), 3) := by decide +kernel
theorem dX5_liven_259 : decode cX5_liven 259 = .ok (.goto (-200), 3) := by decide +kernel
theorem dX5_liven_262 : decode cX5_liven 262 = .ok (.return_, 1) := by decide +kernel
theorem dX5_live_0 : decode cX5_live 0 = .ok (.aload_n 0, 1) := by decide +kernel
theorem dX5_live_1 : decode cX5_live 1 = .ok (.iconst 0, 1) := by decide +kernel
theorem dX5_live_2 : decode cX5_live 2 = .ok (.putfield 69, 3) := by decide +kernel
theorem dX5_live_5 : decode cX5_live 5 = .ok (.iload_n 1, 1) := by decide +kernel
theorem dX5_live_6 : decode cX5_live 6 = .ok (.iconst 0, 1) := by decide +kernel
theorem dX5_live_7 : decode cX5_live 7 = .ok (.aload_n 0, 1) := by decide +kernel
theorem dX5_live_8 : decode cX5_live 8 = .ok (.getfield 73, 3) := by decide +kernel
theorem dX5_live_11 : decode cX5_live 11 = .ok (.invokestatic 86, 3) := by decide +kernel
theorem dX5_live_14 : decode cX5_live 14 = .ok (.ifCond .ne 5, 3) := by decide +kernel
theorem dX5_live_17 : decode cX5_live 17 = .ok (.iconst (-1), 1) := by decide +kernel
theorem dX5_live_18 : decode cX5_live 18 = .ok (.ireturn, 1) := by decide +kernel
theorem dX5_live_19 : decode cX5_live 19 = .ok (.aload_n 0, 1) := by decide +kernel
theorem dX5_live_20 : decode cX5_live 20 = .ok (.invokevirtual 105, 3) := by decide +kernel
theorem dX5_live_23 : decode cX5_live 23 = .ok (.aload_n 0, 1) := by decide +kernel
theorem dX5_live_24 : decode cX5_live 24 = .ok (.getfield 48, 3) := by decide +kernel
theorem dX5_live_27 : decode cX5_live 27 = .ok (.iload_n 1, 1) := by decide +kernel
theorem dX5_live_28 : decode cX5_live 28 = .ok (.iaload, 1) := by decide +kernel
theorem dX5_live_29 : decode cX5_live 29 = .ok (.ireturn, 1) := by decide +kernel
theorem dX5_digit_0 : decode cX5_digit 0 = .ok (.iload_n 0, 1) := by decide +kernel
theorem dX5_digit_1 : decode cX5_digit 1 = .ok (.istore_n 2, 1) := by decide +kernel
theorem dX5_digit_2 : decode cX5_digit 2 = .ok (.iload_n 1, 1) := by decide +kernel
theorem dX5_digit_3 : decode cX5_digit 3 = .ok (.istore_n 3, 1) := by decide +kernel
theorem dX5_digit_4 : decode cX5_digit 4 = .ok (.iload_n 3, 1) := by decide +kernel
theorem dX5_digit_5 : decode cX5_digit 5 = .ok (.iconst 5, 1) := by decide +kernel
theorem dX5_digit_6 : decode cX5_digit 6 = .ok (.if_icmp .ge 14, 3) := by decide +kernel
theorem dX5_digit_9 : decode cX5_digit 9 = .ok (.iload_n 2, 1) := by decide +kernel
theorem dX5_digit_10 : decode cX5_digit 10 = .ok (.bipush 10, 2) := by decide +kernel
theorem dX5_digit_12 : decode cX5_digit 12 = .ok (.idiv, 1) := by decide +kernel
theorem dX5_digit_13 : decode cX5_digit 13 = .ok (.istore_n 2, 1) := by decide +kernel
theorem dX5_digit_14 : decode cX5_digit 14 = .ok (.iinc 3 1, 3) := by decide +kernel
theorem dX5_digit_17 : decode cX5_digit 17 = .ok (.goto (-13), 3) := by decide +kernel
theorem dX5_digit_20 : decode cX5_digit 20 = .ok (.iload_n 2, 1) := by decide +kernel
theorem dX5_digit_21 : decode cX5_digit 21 = .ok (.bipush 10, 2) := by decide +kernel
theorem dX5_digit_23 : decode cX5_digit 23 = .ok (.irem, 1) := by decide +kernel
theorem dX5_digit_24 : decode cX5_digit 24 = .ok (.ireturn, 1) := by decide +kernel
theorem dX5_with_0 : decode cX5_with 0 = .ok (.iconst 1, 1) := by decide +kernel
theorem dX5_with_1 : decode cX5_with 1 = .ok (.istore_n 3, 1) := by decide +kernel
theorem dX5_with_2 : decode cX5_with 2 = .ok (.iload_n 1, 1) := by decide +kernel
theorem dX5_with_3 : decode cX5_with 3 = .ok (.istore 4, 2) := by decide +kernel
theorem dX5_with_5 : decode cX5_with 5 = .ok (.iload 4, 2) := by decide +kernel
theorem dX5_with_7 : decode cX5_with 7 = .ok (.iconst 5, 1) := by decide +kernel
theorem dX5_with_8 : decode cX5_with 8 = .ok (.if_icmp .ge 14, 3) := by decide +kernel
theorem dX5_with_11 : decode cX5_with 11 = .ok (.iload_n 3, 1) := by decide +kernel
theorem dX5_with_12 : decode cX5_with 12 = .ok (.bipush 10, 2) := by decide +kernel
theorem dX5_with_14 : decode cX5_with 14 = .ok (.imul, 1) := by decide +kernel
theorem dX5_with_15 : decode cX5_with 15 = .ok (.istore_n 3, 1) := by decide +kernel
theorem dX5_with_16 : decode cX5_with 16 = .ok (.iinc 4 1, 3) := by decide +kernel
theorem dX5_with_19 : decode cX5_with 19 = .ok (.goto (-14), 3) := by decide +kernel
theorem dX5_with_22 : decode cX5_with 22 = .ok (.iload_n 0, 1) := by decide +kernel
theorem dX5_with_23 : decode cX5_with 23 = .ok (.iload_n 2, 1) := by decide +kernel
theorem dX5_with_24 : decode cX5_with 24 = .ok (.iload_n 0, 1) := by decide +kernel
theorem dX5_with_25 : decode cX5_with 25 = .ok (.iload_n 1, 1) := by decide +kernel
theorem dX5_with_26 : decode cX5_with 26 = .ok (.invokestatic 108, 3) := by decide +kernel
theorem dX5_with_29 : decode cX5_with 29 = .ok (.isub, 1) := by decide +kernel
theorem dX5_with_30 : decode cX5_with 30 = .ok (.iload_n 3, 1) := by decide +kernel
theorem dX5_with_31 : decode cX5_with 31 = .ok (.imul, 1) := by decide +kernel
theorem dX5_with_32 : decode cX5_with 32 = .ok (.iadd, 1) := by decide +kernel
theorem dX5_with_33 : decode cX5_with 33 = .ok (.ireturn, 1) := by decide +kernel
theorem dX5_termOf_0 : decode cX5_termOf 0 = .ok (.iload_n 1, 1) := by decide +kernel
theorem dX5_termOf_1 : decode cX5_termOf 1 = .ok (.bipush 6, 2) := by decide +kernel
theorem dX5_termOf_3 : decode cX5_termOf 3 = .ok (.if_icmp .ge 11, 3) := by decide +kernel
theorem dX5_termOf_6 : decode cX5_termOf 6 = .ok (.iload_n 0, 1) := by decide +kernel
theorem dX5_termOf_7 : decode cX5_termOf 7 = .ok (.iload_n 1, 1) := by decide +kernel
theorem dX5_termOf_8 : decode cX5_termOf 8 = .ok (.invokestatic 108, 3) := by decide +kernel
theorem dX5_termOf_11 : decode cX5_termOf 11 = .ok (.goto 7, 3) := by decide +kernel
theorem dX5_termOf_14 : decode cX5_termOf 14 = .ok (.iload_n 1, 1) := by decide +kernel
theorem dX5_termOf_15 : decode cX5_termOf 15 = .ok (.bipush 10, 2) := by decide +kernel
theorem dX5_termOf_17 : decode cX5_termOf 17 = .ok (.isub, 1) := by decide +kernel
theorem dX5_termOf_18 : decode cX5_termOf 18 = .ok (.ireturn, 1) := by decide +kernel
theorem dX5_worth_0 : decode cX5_worth 0 = .ok (.iload_n 0, 1) := by decide +kernel
theorem dX5_worth_1 : decode cX5_worth 1 = .ok (.tableswitch 96 0 5 #[39, 46, 56, 63, 74, 85], 39) := by decide +kernel
theorem dX5_worth_40 : decode cX5_worth 40 = .ok (.iload_n 1, 1) := by decide +kernel
theorem dX5_worth_41 : decode cX5_worth 41 = .ok (.iload_n 2, 1) := by decide +kernel
theorem dX5_worth_42 : decode cX5_worth 42 = .ok (.iadd, 1) := by decide +kernel
theorem dX5_worth_43 : decode cX5_worth 43 = .ok (.bipush 10, 2) := by decide +kernel
theorem dX5_worth_45 : decode cX5_worth 45 = .ok (.irem, 1) := by decide +kernel
theorem dX5_worth_46 : decode cX5_worth 46 = .ok (.ireturn, 1) := by decide +kernel
theorem dX5_worth_47 : decode cX5_worth 47 = .ok (.iload_n 1, 1) := by decide +kernel
theorem dX5_worth_48 : decode cX5_worth 48 = .ok (.iload_n 2, 1) := by decide +kernel
theorem dX5_worth_49 : decode cX5_worth 49 = .ok (.isub, 1) := by decide +kernel
theorem dX5_worth_50 : decode cX5_worth 50 = .ok (.bipush 10, 2) := by decide +kernel
theorem dX5_worth_52 : decode cX5_worth 52 = .ok (.iadd, 1) := by decide +kernel
theorem dX5_worth_53 : decode cX5_worth 53 = .ok (.bipush 10, 2) := by decide +kernel
theorem dX5_worth_55 : decode cX5_worth 55 = .ok (.irem, 1) := by decide +kernel
theorem dX5_worth_56 : decode cX5_worth 56 = .ok (.ireturn, 1) := by decide +kernel
theorem dX5_worth_57 : decode cX5_worth 57 = .ok (.iload_n 1, 1) := by decide +kernel
theorem dX5_worth_58 : decode cX5_worth 58 = .ok (.iload_n 2, 1) := by decide +kernel
theorem dX5_worth_59 : decode cX5_worth 59 = .ok (.imul, 1) := by decide +kernel
theorem dX5_worth_60 : decode cX5_worth 60 = .ok (.bipush 10, 2) := by decide +kernel
theorem dX5_worth_62 : decode cX5_worth 62 = .ok (.irem, 1) := by decide +kernel
theorem dX5_worth_63 : decode cX5_worth 63 = .ok (.ireturn, 1) := by decide +kernel
theorem dX5_worth_64 : decode cX5_worth 64 = .ok (.iload_n 1, 1) := by decide +kernel
theorem dX5_worth_65 : decode cX5_worth 65 = .ok (.iload_n 2, 1) := by decide +kernel
theorem dX5_worth_66 : decode cX5_worth 66 = .ok (.if_icmp .ge 7, 3) := by decide +kernel
theorem dX5_worth_69 : decode cX5_worth 69 = .ok (.iload_n 1, 1) := by decide +kernel
theorem dX5_worth_70 : decode cX5_worth 70 = .ok (.goto 4, 3) := by decide +kernel
theorem dX5_worth_73 : decode cX5_worth 73 = .ok (.iload_n 2, 1) := by decide +kernel
theorem dX5_worth_74 : decode cX5_worth 74 = .ok (.ireturn, 1) := by decide +kernel
theorem dX5_worth_75 : decode cX5_worth 75 = .ok (.iload_n 1, 1) := by decide +kernel
theorem dX5_worth_76 : decode cX5_worth 76 = .ok (.iload_n 2, 1) := by decide +kernel
theorem dX5_worth_77 : decode cX5_worth 77 = .ok (.if_icmp .le 7, 3) := by decide +kernel
theorem dX5_worth_80 : decode cX5_worth 80 = .ok (.iload_n 1, 1) := by decide +kernel
theorem dX5_worth_81 : decode cX5_worth 81 = .ok (.goto 4, 3) := by decide +kernel
theorem dX5_worth_84 : decode cX5_worth 84 = .ok (.iload_n 2, 1) := by decide +kernel
theorem dX5_worth_85 : decode cX5_worth 85 = .ok (.ireturn, 1) := by decide +kernel
theorem dX5_worth_86 : decode cX5_worth 86 = .ok (.iload_n 1, 1) := by decide +kernel
theorem dX5_worth_87 : decode cX5_worth 87 = .ok (.iload_n 2, 1) := by decide +kernel
theorem dX5_worth_88 : decode cX5_worth 88 = .ok (.if_icmp .ne 7, 3) := by decide +kernel
theorem dX5_worth_91 : decode cX5_worth 91 = .ok (.iconst 1, 1) := by decide +kernel
theorem dX5_worth_92 : decode cX5_worth 92 = .ok (.goto 4, 3) := by decide +kernel
theorem dX5_worth_95 : decode cX5_worth 95 = .ok (.iconst 0, 1) := by decide +kernel
theorem dX5_worth_96 : decode cX5_worth 96 = .ok (.ireturn, 1) := by decide +kernel
theorem dX5_worth_97 : decode cX5_worth 97 = .ok (.iload_n 2, 1) := by decide +kernel
theorem dX5_worth_98 : decode cX5_worth 98 = .ok (.ifCond .ne 7, 3) := by decide +kernel
theorem dX5_worth_101 : decode cX5_worth 101 = .ok (.iload_n 1, 1) := by decide +kernel
theorem dX5_worth_102 : decode cX5_worth 102 = .ok (.goto 4, 3) := by decide +kernel
theorem dX5_worth_105 : decode cX5_worth 105 = .ok (.iload_n 3, 1) := by decide +kernel
theorem dX5_worth_106 : decode cX5_worth 106 = .ok (.ireturn, 1) := by decide +kernel
theorem dX5_holds_0 : decode cX5_holds 0 = .ok (.iload_n 0, 1) := by decide +kernel
theorem dX5_holds_1 : decode cX5_holds 1 = .ok (.ifCond .ne 16, 3) := by decide +kernel
theorem dX5_holds_4 : decode cX5_holds 4 = .ok (.iload_n 1, 1) := by decide +kernel
theorem dX5_holds_5 : decode cX5_holds 5 = .ok (.iload_n 2, 1) := by decide +kernel
theorem dX5_holds_6 : decode cX5_holds 6 = .ok (.if_icmp .ne 7, 3) := by decide +kernel
theorem dX5_holds_9 : decode cX5_holds 9 = .ok (.iconst 1, 1) := by decide +kernel
theorem dX5_holds_10 : decode cX5_holds 10 = .ok (.goto 53, 3) := by decide +kernel
theorem dX5_holds_13 : decode cX5_holds 13 = .ok (.iconst 0, 1) := by decide +kernel
theorem dX5_holds_14 : decode cX5_holds 14 = .ok (.goto 49, 3) := by decide +kernel
theorem dX5_holds_17 : decode cX5_holds 17 = .ok (.iload_n 0, 1) := by decide +kernel
theorem dX5_holds_18 : decode cX5_holds 18 = .ok (.iconst 1, 1) := by decide +kernel
theorem dX5_holds_19 : decode cX5_holds 19 = .ok (.if_icmp .ne 16, 3) := by decide +kernel
theorem dX5_holds_22 : decode cX5_holds 22 = .ok (.iload_n 1, 1) := by decide +kernel
theorem dX5_holds_23 : decode cX5_holds 23 = .ok (.iload_n 2, 1) := by decide +kernel
theorem dX5_holds_24 : decode cX5_holds 24 = .ok (.if_icmp .eq 7, 3) := by decide +kernel
theorem dX5_holds_27 : decode cX5_holds 27 = .ok (.iconst 1, 1) := by decide +kernel
theorem dX5_holds_28 : decode cX5_holds 28 = .ok (.goto 35, 3) := by decide +kernel
theorem dX5_holds_31 : decode cX5_holds 31 = .ok (.iconst 0, 1) := by decide +kernel
theorem dX5_holds_32 : decode cX5_holds 32 = .ok (.goto 31, 3) := by decide +kernel
theorem dX5_holds_35 : decode cX5_holds 35 = .ok (.iload_n 0, 1) := by decide +kernel
theorem dX5_holds_36 : decode cX5_holds 36 = .ok (.iconst 2, 1) := by decide +kernel
theorem dX5_holds_37 : decode cX5_holds 37 = .ok (.if_icmp .ne 16, 3) := by decide +kernel
theorem dX5_holds_40 : decode cX5_holds 40 = .ok (.iload_n 1, 1) := by decide +kernel
theorem dX5_holds_41 : decode cX5_holds 41 = .ok (.iload_n 2, 1) := by decide +kernel
theorem dX5_holds_42 : decode cX5_holds 42 = .ok (.if_icmp .ge 7, 3) := by decide +kernel
theorem dX5_holds_45 : decode cX5_holds 45 = .ok (.iconst 1, 1) := by decide +kernel
theorem dX5_holds_46 : decode cX5_holds 46 = .ok (.goto 17, 3) := by decide +kernel
theorem dX5_holds_49 : decode cX5_holds 49 = .ok (.iconst 0, 1) := by decide +kernel
theorem dX5_holds_50 : decode cX5_holds 50 = .ok (.goto 13, 3) := by decide +kernel
theorem dX5_holds_53 : decode cX5_holds 53 = .ok (.iload_n 1, 1) := by decide +kernel
theorem dX5_holds_54 : decode cX5_holds 54 = .ok (.iload_n 2, 1) := by decide +kernel
theorem dX5_holds_55 : decode cX5_holds 55 = .ok (.if_icmp .le 7, 3) := by decide +kernel
theorem dX5_holds_58 : decode cX5_holds 58 = .ok (.iconst 1, 1) := by decide +kernel
theorem dX5_holds_59 : decode cX5_holds 59 = .ok (.goto 4, 3) := by decide +kernel
theorem dX5_holds_62 : decode cX5_holds 62 = .ok (.iconst 0, 1) := by decide +kernel
theorem dX5_holds_63 : decode cX5_holds 63 = .ok (.ireturn, 1) := by decide +kernel
theorem dX5_make_0 : decode cX5_make 0 = .ok (.aload_n 0, 1) := by decide +kernel
theorem dX5_make_1 : decode cX5_make 1 = .ok (.getfield 51, 3) := by decide +kernel
theorem dX5_make_4 : decode cX5_make 4 = .ok (.aload_n 0, 1) := by decide +kernel
theorem dX5_make_5 : decode cX5_make 5 = .ok (.getfield 112, 3) := by decide +kernel
theorem dX5_make_8 : decode cX5_make 8 = .ok (.iload_n 1, 1) := by decide +kernel
theorem dX5_make_9 : decode cX5_make 9 = .ok (.iastore, 1) := by decide +kernel
theorem dX5_make_10 : decode cX5_make 10 = .ok (.aload_n 0, 1) := by decide +kernel
theorem dX5_make_11 : decode cX5_make 11 = .ok (.getfield 54, 3) := by decide +kernel
theorem dX5_make_14 : decode cX5_make 14 = .ok (.aload_n 0, 1) := by decide +kernel
theorem dX5_make_15 : decode cX5_make 15 = .ok (.getfield 112, 3) := by decide +kernel
theorem dX5_make_18 : decode cX5_make 18 = .ok (.lload_n 2, 1) := by decide +kernel
theorem dX5_make_19 : decode cX5_make 19 = .ok (.lastore, 1) := by decide +kernel
theorem dX5_make_20 : decode cX5_make 20 = .ok (.aload_n 0, 1) := by decide +kernel
theorem dX5_make_21 : decode cX5_make 21 = .ok (.dup, 1) := by decide +kernel
theorem dX5_make_22 : decode cX5_make 22 = .ok (.getfield 112, 3) := by decide +kernel
theorem dX5_make_25 : decode cX5_make 25 = .ok (.iconst 1, 1) := by decide +kernel
theorem dX5_make_26 : decode cX5_make 26 = .ok (.iadd, 1) := by decide +kernel
theorem dX5_make_27 : decode cX5_make 27 = .ok (.putfield 112, 3) := by decide +kernel
theorem dX5_make_30 : decode cX5_make 30 = .ok (.return_, 1) := by decide +kernel
theorem dX5_go_0 : decode cX5_go 0 = .ok (.aload_n 0, 1) := by decide +kernel
theorem dX5_go_1 : decode cX5_go 1 = .ok (.iconst 0, 1) := by decide +kernel
theorem dX5_go_2 : decode cX5_go 2 = .ok (.putfield 112, 3) := by decide +kernel
theorem dX5_go_5 : decode cX5_go 5 = .ok (.aload_n 0, 1) := by decide +kernel
theorem dX5_go_6 : decode cX5_go 6 = .ok (.iload_n 1, 1) := by decide +kernel
theorem dX5_go_7 : decode cX5_go 7 = .ok (.iconst 1, 1) := by decide +kernel
theorem dX5_go_8 : decode cX5_go 8 = .ok (.iadd, 1) := by decide +kernel
theorem dX5_go_9 : decode cX5_go 9 = .ok (.putfield 115, 3) := by decide +kernel
theorem dX5_go_12 : decode cX5_go 12 = .ok (.aload_n 0, 1) := by decide +kernel
theorem dX5_go_13 : decode cX5_go 13 = .ok (.lconst 0, 1) := by decide +kernel
theorem dX5_go_14 : decode cX5_go 14 = .ok (.putfield 118, 3) := by decide +kernel
theorem dX5_go_17 : decode cX5_go 17 = .ok (.iload_n 2, 1) := by decide +kernel
theorem dX5_go_18 : decode cX5_go 18 = .ok (.aload_n 0, 1) := by decide +kernel
theorem dX5_go_19 : decode cX5_go 19 = .ok (.getfield 19, 3) := by decide +kernel
theorem dX5_go_22 : decode cX5_go 22 = .ok (.iload_n 1, 1) := by decide +kernel
theorem dX5_go_23 : decode cX5_go 23 = .ok (.iaload, 1) := by decide +kernel
theorem dX5_go_24 : decode cX5_go 24 = .ok (.invokestatic 122, 3) := by decide +kernel
theorem dX5_go_27 : decode cX5_go 27 = .ok (.istore 5, 2) := by decide +kernel
theorem dX5_go_29 : decode cX5_go 29 = .ok (.iload_n 2, 1) := by decide +kernel
theorem dX5_go_30 : decode cX5_go 30 = .ok (.aload_n 0, 1) := by decide +kernel
theorem dX5_go_31 : decode cX5_go 31 = .ok (.getfield 22, 3) := by decide +kernel
theorem dX5_go_34 : decode cX5_go 34 = .ok (.iload_n 1, 1) := by decide +kernel
theorem dX5_go_35 : decode cX5_go 35 = .ok (.iaload, 1) := by decide +kernel
theorem dX5_go_36 : decode cX5_go 36 = .ok (.invokestatic 122, 3) := by decide +kernel
theorem dX5_go_39 : decode cX5_go 39 = .ok (.istore 6, 2) := by decide +kernel
theorem dX5_go_41 : decode cX5_go 41 = .ok (.aload_n 0, 1) := by decide +kernel
theorem dX5_go_42 : decode cX5_go 42 = .ok (.getfield 7, 3) := by decide +kernel
theorem dX5_go_45 : decode cX5_go 45 = .ok (.iload_n 1, 1) := by decide +kernel
theorem dX5_go_46 : decode cX5_go 46 = .ok (.iaload, 1) := by decide +kernel
theorem dX5_go_47 : decode cX5_go 47 = .ok (.tableswitch 197 0 3 #[29, 97, 138, 171], 29) := by decide +kernel
theorem dX5_go_76 : decode cX5_go 76 = .ok (.iconst 0, 1) := by decide +kernel
theorem dX5_go_77 : decode cX5_go 77 = .ok (.istore 7, 2) := by decide +kernel
theorem dX5_go_79 : decode cX5_go 79 = .ok (.iload 7, 2) := by decide +kernel
theorem dX5_go_81 : decode cX5_go 81 = .ok (.bipush 10, 2) := by decide +kernel
theorem dX5_go_83 : decode cX5_go 83 = .ok (.if_icmp .ge 58, 3) := by decide +kernel
theorem dX5_go_86 : decode cX5_go 86 = .ok (.aload_n 0, 1) := by decide +kernel
theorem dX5_go_87 : decode cX5_go 87 = .ok (.getfield 25, 3) := by decide +kernel
theorem dX5_go_90 : decode cX5_go 90 = .ok (.bipush 10, 2) := by decide +kernel
theorem dX5_go_92 : decode cX5_go 92 = .ok (.aload_n 0, 1) := by decide +kernel
theorem dX5_go_93 : decode cX5_go 93 = .ok (.getfield 16, 3) := by decide +kernel
theorem dX5_go_96 : decode cX5_go 96 = .ok (.iload_n 1, 1) := by decide +kernel
theorem dX5_go_97 : decode cX5_go 97 = .ok (.iaload, 1) := by decide +kernel
theorem dX5_go_98 : decode cX5_go 98 = .ok (.imul, 1) := by decide +kernel
theorem dX5_go_99 : decode cX5_go 99 = .ok (.iload 7, 2) := by decide +kernel
theorem dX5_go_101 : decode cX5_go 101 = .ok (.iadd, 1) := by decide +kernel
theorem dX5_go_102 : decode cX5_go 102 = .ok (.iaload, 1) := by decide +kernel
theorem dX5_go_103 : decode cX5_go 103 = .ok (.istore 8, 2) := by decide +kernel
theorem dX5_go_105 : decode cX5_go 105 = .ok (.iload 8, 2) := by decide +kernel
theorem dX5_go_107 : decode cX5_go 107 = .ok (.ifCond .le 28, 3) := by decide +kernel
theorem dX5_go_110 : decode cX5_go 110 = .ok (.aload_n 0, 1) := by decide +kernel
theorem dX5_go_111 : decode cX5_go 111 = .ok (.iload_n 2, 1) := by decide +kernel
theorem dX5_go_112 : decode cX5_go 112 = .ok (.aload_n 0, 1) := by decide +kernel
theorem dX5_go_113 : decode cX5_go 113 = .ok (.getfield 13, 3) := by decide +kernel
theorem dX5_go_116 : decode cX5_go 116 = .ok (.iload_n 1, 1) := by decide +kernel
theorem dX5_go_117 : decode cX5_go 117 = .ok (.iaload, 1) := by decide +kernel
theorem dX5_go_118 : decode cX5_go 118 = .ok (.iload 7, 2) := by decide +kernel
theorem dX5_go_120 : decode cX5_go 120 = .ok (.invokestatic 125, 3) := by decide +kernel
theorem dX5_go_123 : decode cX5_go 123 = .ok (.lload_n 3, 1) := by decide +kernel
theorem dX5_go_124 : decode cX5_go 124 = .ok (.ldc2_w 129, 3) := by decide +kernel
theorem dX5_go_127 : decode cX5_go 127 = .ok (.ldiv, 1) := by decide +kernel
theorem dX5_go_128 : decode cX5_go 128 = .ok (.iload 8, 2) := by decide +kernel
theorem dX5_go_130 : decode cX5_go 130 = .ok (.i2l, 1) := by decide +kernel
theorem dX5_go_131 : decode cX5_go 131 = .ok (.lmul, 1) := by decide +kernel
theorem dX5_go_132 : decode cX5_go 132 = .ok (.invokevirtual 131, 3) := by decide +kernel
theorem dX5_go_135 : decode cX5_go 135 = .ok (.iinc 7 1, 3) := by decide +kernel
theorem dX5_go_138 : decode cX5_go 138 = .ok (.goto (-59), 3) := by decide +kernel
theorem dX5_go_141 : decode cX5_go 141 = .ok (.goto 129, 3) := by decide +kernel
theorem dX5_go_144 : decode cX5_go 144 = .ok (.aload_n 0, 1) := by decide +kernel
theorem dX5_go_145 : decode cX5_go 145 = .ok (.iload_n 2, 1) := by decide +kernel
theorem dX5_go_146 : decode cX5_go 146 = .ok (.aload_n 0, 1) := by decide +kernel
theorem dX5_go_147 : decode cX5_go 147 = .ok (.getfield 13, 3) := by decide +kernel
theorem dX5_go_150 : decode cX5_go 150 = .ok (.iload_n 1, 1) := by decide +kernel
theorem dX5_go_151 : decode cX5_go 151 = .ok (.iaload, 1) := by decide +kernel
theorem dX5_go_152 : decode cX5_go 152 = .ok (.aload_n 0, 1) := by decide +kernel
theorem dX5_go_153 : decode cX5_go 153 = .ok (.getfield 16, 3) := by decide +kernel
theorem dX5_go_156 : decode cX5_go 156 = .ok (.iload_n 1, 1) := by decide +kernel
theorem dX5_go_157 : decode cX5_go 157 = .ok (.iaload, 1) := by decide +kernel
theorem dX5_go_158 : decode cX5_go 158 = .ok (.iload 5, 2) := by decide +kernel
theorem dX5_go_160 : decode cX5_go 160 = .ok (.iload 6, 2) := by decide +kernel
theorem dX5_go_162 : decode cX5_go 162 = .ok (.iload_n 2, 1) := by decide +kernel
theorem dX5_go_163 : decode cX5_go 163 = .ok (.aload_n 0, 1) := by decide +kernel
theorem dX5_go_164 : decode cX5_go 164 = .ok (.getfield 13, 3) := by decide +kernel
theorem dX5_go_167 : decode cX5_go 167 = .ok (.iload_n 1, 1) := by decide +kernel
theorem dX5_go_168 : decode cX5_go 168 = .ok (.iaload, 1) := by decide +kernel
theorem dX5_go_169 : decode cX5_go 169 = .ok (.invokestatic 108, 3) := by decide +kernel
theorem dX5_go_172 : decode cX5_go 172 = .ok (.invokestatic 135, 3) := by decide +kernel
theorem dX5_go_175 : decode cX5_go 175 = .ok (.invokestatic 125, 3) := by decide +kernel
theorem dX5_go_178 : decode cX5_go 178 = .ok (.lload_n 3, 1) := by decide +kernel
theorem dX5_go_179 : decode cX5_go 179 = .ok (.invokevirtual 131, 3) := by decide +kernel
theorem dX5_go_182 : decode cX5_go 182 = .ok (.goto 88, 3) := by decide +kernel
theorem dX5_go_185 : decode cX5_go 185 = .ok (.aload_n 0, 1) := by decide +kernel
theorem dX5_go_186 : decode cX5_go 186 = .ok (.getfield 16, 3) := by decide +kernel
theorem dX5_go_189 : decode cX5_go 189 = .ok (.iload_n 1, 1) := by decide +kernel
theorem dX5_go_190 : decode cX5_go 190 = .ok (.iaload, 1) := by decide +kernel
theorem dX5_go_191 : decode cX5_go 191 = .ok (.iload 5, 2) := by decide +kernel
theorem dX5_go_193 : decode cX5_go 193 = .ok (.iload 6, 2) := by decide +kernel
theorem dX5_go_195 : decode cX5_go 195 = .ok (.invokestatic 139, 3) := by decide +kernel
theorem dX5_go_198 : decode cX5_go 198 = .ok (.ifCond .eq 12, 3) := by decide +kernel
theorem dX5_go_201 : decode cX5_go 201 = .ok (.aload_n 0, 1) := by decide +kernel
theorem dX5_go_202 : decode cX5_go 202 = .ok (.iload_n 2, 1) := by decide +kernel
theorem dX5_go_203 : decode cX5_go 203 = .ok (.lload_n 3, 1) := by decide +kernel
theorem dX5_go_204 : decode cX5_go 204 = .ok (.invokevirtual 131, 3) := by decide +kernel
theorem dX5_go_207 : decode cX5_go 207 = .ok (.goto 63, 3) := by decide +kernel
theorem dX5_go_210 : decode cX5_go 210 = .ok (.aload_n 0, 1) := by decide +kernel
theorem dX5_go_211 : decode cX5_go 211 = .ok (.lload_n 3, 1) := by decide +kernel
theorem dX5_go_212 : decode cX5_go 212 = .ok (.putfield 118, 3) := by decide +kernel
theorem dX5_go_215 : decode cX5_go 215 = .ok (.goto 55, 3) := by decide +kernel
theorem dX5_go_218 : decode cX5_go 218 = .ok (.iload 5, 2) := by decide +kernel
theorem dX5_go_220 : decode cX5_go 220 = .ok (.ifCond .le 16, 3) := by decide +kernel
theorem dX5_go_223 : decode cX5_go 223 = .ok (.aload_n 0, 1) := by decide +kernel
theorem dX5_go_224 : decode cX5_go 224 = .ok (.iload_n 2, 1) := by decide +kernel
theorem dX5_go_225 : decode cX5_go 225 = .ok (.lload_n 3, 1) := by decide +kernel
theorem dX5_go_226 : decode cX5_go 226 = .ok (.iload 5, 2) := by decide +kernel
theorem dX5_go_228 : decode cX5_go 228 = .ok (.i2l, 1) := by decide +kernel
theorem dX5_go_229 : decode cX5_go 229 = .ok (.lmul, 1) := by decide +kernel
theorem dX5_go_230 : decode cX5_go 230 = .ok (.invokevirtual 131, 3) := by decide +kernel
theorem dX5_go_233 : decode cX5_go 233 = .ok (.goto 37, 3) := by decide +kernel
theorem dX5_go_236 : decode cX5_go 236 = .ok (.aload_n 0, 1) := by decide +kernel
theorem dX5_go_237 : decode cX5_go 237 = .ok (.lload_n 3, 1) := by decide +kernel
theorem dX5_go_238 : decode cX5_go 238 = .ok (.putfield 118, 3) := by decide +kernel
theorem dX5_go_241 : decode cX5_go 241 = .ok (.goto 29, 3) := by decide +kernel
theorem dX5_go_244 : decode cX5_go 244 = .ok (.aload_n 0, 1) := by decide +kernel
theorem dX5_go_245 : decode cX5_go 245 = .ok (.iload 5, 2) := by decide +kernel
theorem dX5_go_247 : decode cX5_go 247 = .ok (.ifCond .ne 11, 3) := by decide +kernel
theorem dX5_go_250 : decode cX5_go 250 = .ok (.aload_n 0, 1) := by decide +kernel
theorem dX5_go_251 : decode cX5_go 251 = .ok (.iload_n 1, 1) := by decide +kernel
theorem dX5_go_252 : decode cX5_go 252 = .ok (.invokevirtual 102, 3) := by decide +kernel
theorem dX5_go_255 : decode cX5_go 255 = .ok (.goto 6, 3) := by decide +kernel
theorem dX5_go_258 : decode cX5_go 258 = .ok (.iload_n 1, 1) := by decide +kernel
theorem dX5_go_259 : decode cX5_go 259 = .ok (.iconst 1, 1) := by decide +kernel
theorem dX5_go_260 : decode cX5_go 260 = .ok (.iadd, 1) := by decide +kernel
theorem dX5_go_261 : decode cX5_go 261 = .ok (.putfield 115, 3) := by decide +kernel
theorem dX5_go_264 : decode cX5_go 264 = .ok (.aload_n 0, 1) := by decide +kernel
theorem dX5_go_265 : decode cX5_go 265 = .ok (.iload_n 2, 1) := by decide +kernel
theorem dX5_go_266 : decode cX5_go 266 = .ok (.lload_n 3, 1) := by decide +kernel
theorem dX5_go_267 : decode cX5_go 267 = .ok (.invokevirtual 131, 3) := by decide +kernel
theorem dX5_go_270 : decode cX5_go 270 = .ok (.return_, 1) := by decide +kernel
theorem dX5_isUneven_0 : decode cX5_isUneven 0 = .ok (.iconst 0, 1) := by decide +kernel
theorem dX5_isUneven_1 : decode cX5_isUneven 1 = .ok (.istore_n 1, 1) := by decide +kernel
theorem dX5_isUneven_2 : decode cX5_isUneven 2 = .ok (.iload_n 1, 1) := by decide +kernel
theorem dX5_isUneven_3 : decode cX5_isUneven 3 = .ok (.aload_n 0, 1) := by decide +kernel
theorem dX5_isUneven_4 : decode cX5_isUneven 4 = .ok (.getfield 73, 3) := by decide +kernel
theorem dX5_isUneven_7 : decode cX5_isUneven 7 = .ok (.if_icmp .ge 61, 3) := by decide +kernel
theorem dX5_isUneven_10 : decode cX5_isUneven 10 = .ok (.aload_n 0, 1) := by decide +kernel
theorem dX5_isUneven_11 : decode cX5_isUneven 11 = .ok (.getfield 7, 3) := by decide +kernel
theorem dX5_isUneven_14 : decode cX5_isUneven 14 = .ok (.iload_n 1, 1) := by decide +kernel
theorem dX5_isUneven_15 : decode cX5_isUneven 15 = .ok (.iaload, 1) := by decide +kernel
theorem dX5_isUneven_16 : decode cX5_isUneven 16 = .ok (.ifCond .ne 46, 3) := by decide +kernel
theorem dX5_isUneven_19 : decode cX5_isUneven 19 = .ok (.iconst 0, 1) := by decide +kernel
theorem dX5_isUneven_20 : decode cX5_isUneven 20 = .ok (.istore_n 2, 1) := by decide +kernel
theorem dX5_isUneven_21 : decode cX5_isUneven 21 = .ok (.iconst 0, 1) := by decide +kernel
theorem dX5_isUneven_22 : decode cX5_isUneven 22 = .ok (.istore_n 3, 1) := by decide +kernel
theorem dX5_isUneven_23 : decode cX5_isUneven 23 = .ok (.iload_n 3, 1) := by decide +kernel
theorem dX5_isUneven_24 : decode cX5_isUneven 24 = .ok (.bipush 10, 2) := by decide +kernel
theorem dX5_isUneven_26 : decode cX5_isUneven 26 = .ok (.if_icmp .ge 28, 3) := by decide +kernel
theorem dX5_isUneven_29 : decode cX5_isUneven 29 = .ok (.iload_n 2, 1) := by decide +kernel
theorem dX5_isUneven_30 : decode cX5_isUneven 30 = .ok (.aload_n 0, 1) := by decide +kernel
theorem dX5_isUneven_31 : decode cX5_isUneven 31 = .ok (.getfield 25, 3) := by decide +kernel
theorem dX5_isUneven_34 : decode cX5_isUneven 34 = .ok (.bipush 10, 2) := by decide +kernel
theorem dX5_isUneven_36 : decode cX5_isUneven 36 = .ok (.aload_n 0, 1) := by decide +kernel
theorem dX5_isUneven_37 : decode cX5_isUneven 37 = .ok (.getfield 16, 3) := by decide +kernel
theorem dX5_isUneven_40 : decode cX5_isUneven 40 = .ok (.iload_n 1, 1) := by decide +kernel
theorem dX5_isUneven_41 : decode cX5_isUneven 41 = .ok (.iaload, 1) := by decide +kernel
theorem dX5_isUneven_42 : decode cX5_isUneven 42 = .ok (.imul, 1) := by decide +kernel
theorem dX5_isUneven_43 : decode cX5_isUneven 43 = .ok (.iload_n 3, 1) := by decide +kernel
theorem dX5_isUneven_44 : decode cX5_isUneven 44 = .ok (.iadd, 1) := by decide +kernel
theorem dX5_isUneven_45 : decode cX5_isUneven 45 = .ok (.iaload, 1) := by decide +kernel
theorem dX5_isUneven_46 : decode cX5_isUneven 46 = .ok (.iadd, 1) := by decide +kernel
theorem dX5_isUneven_47 : decode cX5_isUneven 47 = .ok (.istore_n 2, 1) := by decide +kernel
theorem dX5_isUneven_48 : decode cX5_isUneven 48 = .ok (.iinc 3 1, 3) := by decide +kernel
theorem dX5_isUneven_51 : decode cX5_isUneven 51 = .ok (.goto (-28), 3) := by decide +kernel
theorem dX5_isUneven_54 : decode cX5_isUneven 54 = .ok (.iload_n 2, 1) := by decide +kernel
theorem dX5_isUneven_55 : decode cX5_isUneven 55 = .ok (.bipush 60, 2) := by decide +kernel
theorem dX5_isUneven_57 : decode cX5_isUneven 57 = .ok (.if_icmp .eq 5, 3) := by decide +kernel
theorem dX5_isUneven_60 : decode cX5_isUneven 60 = .ok (.iconst 1, 1) := by decide +kernel
theorem dX5_isUneven_61 : decode cX5_isUneven 61 = .ok (.ireturn, 1) := by decide +kernel
theorem dX5_isUneven_62 : decode cX5_isUneven 62 = .ok (.iinc 1 1, 3) := by decide +kernel
theorem dX5_isUneven_65 : decode cX5_isUneven 65 = .ok (.goto (-63), 3) := by decide +kernel
theorem dX5_isUneven_68 : decode cX5_isUneven 68 = .ok (.iconst 0, 1) := by decide +kernel
theorem dX5_isUneven_69 : decode cX5_isUneven 69 = .ok (.ireturn, 1) := by decide +kernel
theorem dX5_begin_0 : decode cX5_begin 0 = .ok (.aload_n 0, 1) := by decide +kernel
theorem dX5_begin_1 : decode cX5_begin 1 = .ok (.iconst 0, 1) := by decide +kernel
theorem dX5_begin_2 : decode cX5_begin 2 = .ok (.putfield 69, 3) := by decide +kernel
theorem dX5_begin_5 : decode cX5_begin 5 = .ok (.aload_n 0, 1) := by decide +kernel
theorem dX5_begin_6 : decode cX5_begin 6 = .ok (.invokevirtual 142, 3) := by decide +kernel
theorem dX5_begin_9 : decode cX5_begin 9 = .ok (.ifCond .eq 6, 3) := by decide +kernel
theorem dX5_begin_12 : decode cX5_begin 12 = .ok (.bipush (-4), 2) := by decide +kernel
theorem dX5_begin_14 : decode cX5_begin 14 = .ok (.ireturn, 1) := by decide +kernel
theorem dX5_begin_15 : decode cX5_begin 15 = .ok (.iconst 0, 1) := by decide +kernel
theorem dX5_begin_16 : decode cX5_begin 16 = .ok (.istore_n 1, 1) := by decide +kernel
theorem dX5_begin_17 : decode cX5_begin 17 = .ok (.iload_n 1, 1) := by decide +kernel
theorem dX5_begin_18 : decode cX5_begin 18 = .ok (.bipush 30, 2) := by decide +kernel
theorem dX5_begin_20 : decode cX5_begin 20 = .ok (.if_icmp .gt 30, 3) := by decide +kernel
theorem dX5_begin_23 : decode cX5_begin 23 = .ok (.aload_n 0, 1) := by decide +kernel
theorem dX5_begin_24 : decode cX5_begin 24 = .ok (.getfield 32, 3) := by decide +kernel
theorem dX5_begin_27 : decode cX5_begin 27 = .ok (.iload_n 1, 1) := by decide +kernel
theorem dX5_begin_28 : decode cX5_begin 28 = .ok (.iconst 0, 1) := by decide +kernel
theorem dX5_begin_29 : decode cX5_begin 29 = .ok (.iastore, 1) := by decide +kernel
theorem dX5_begin_30 : decode cX5_begin 30 = .ok (.aload_n 0, 1) := by decide +kernel
theorem dX5_begin_31 : decode cX5_begin 31 = .ok (.getfield 35, 3) := by decide +kernel
theorem dX5_begin_34 : decode cX5_begin 34 = .ok (.iload_n 1, 1) := by decide +kernel
theorem dX5_begin_35 : decode cX5_begin 35 = .ok (.iconst 0, 1) := by decide +kernel
theorem dX5_begin_36 : decode cX5_begin 36 = .ok (.iastore, 1) := by decide +kernel
theorem dX5_begin_37 : decode cX5_begin 37 = .ok (.aload_n 0, 1) := by decide +kernel
theorem dX5_begin_38 : decode cX5_begin 38 = .ok (.getfield 38, 3) := by decide +kernel
theorem dX5_begin_41 : decode cX5_begin 41 = .ok (.iload_n 1, 1) := by decide +kernel
theorem dX5_begin_42 : decode cX5_begin 42 = .ok (.iconst 0, 1) := by decide +kernel
theorem dX5_begin_43 : decode cX5_begin 43 = .ok (.iastore, 1) := by decide +kernel
theorem dX5_begin_44 : decode cX5_begin 44 = .ok (.iinc 1 1, 3) := by decide +kernel
theorem dX5_begin_47 : decode cX5_begin 47 = .ok (.goto (-30), 3) := by decide +kernel
theorem dX5_begin_50 : decode cX5_begin 50 = .ok (.aload_n 0, 1) := by decide +kernel
theorem dX5_begin_51 : decode cX5_begin 51 = .ok (.invokevirtual 105, 3) := by decide +kernel
theorem dX5_begin_54 : decode cX5_begin 54 = .ok (.aload_n 0, 1) := by decide +kernel
theorem dX5_begin_55 : decode cX5_begin 55 = .ok (.iconst 1, 1) := by decide +kernel
theorem dX5_begin_56 : decode cX5_begin 56 = .ok (.putfield 82, 3) := by decide +kernel
theorem dX5_begin_59 : decode cX5_begin 59 = .ok (.aload_n 0, 1) := by decide +kernel
theorem dX5_begin_60 : decode cX5_begin 60 = .ok (.iconst 0, 1) := by decide +kernel
theorem dX5_begin_61 : decode cX5_begin 61 = .ok (.putfield 146, 3) := by decide +kernel
theorem dX5_begin_64 : decode cX5_begin 64 = .ok (.aload_n 0, 1) := by decide +kernel
theorem dX5_begin_65 : decode cX5_begin 65 = .ok (.lconst 0, 1) := by decide +kernel
theorem dX5_begin_66 : decode cX5_begin 66 = .ok (.putfield 149, 3) := by decide +kernel
theorem dX5_begin_69 : decode cX5_begin 69 = .ok (.aload_n 0, 1) := by decide +kernel
theorem dX5_begin_70 : decode cX5_begin 70 = .ok (.iconst 0, 1) := by decide +kernel
theorem dX5_begin_71 : decode cX5_begin 71 = .ok (.iconst 0, 1) := by decide +kernel
theorem dX5_begin_72 : decode cX5_begin 72 = .ok (.ldc2_w 152, 3) := by decide +kernel
theorem dX5_begin_75 : decode cX5_begin 75 = .ok (.invokevirtual 154, 3) := by decide +kernel
theorem dX5_begin_78 : decode cX5_begin 78 = .ok (.iconst 1, 1) := by decide +kernel
theorem dX5_begin_79 : decode cX5_begin 79 = .ok (.ireturn, 1) := by decide +kernel
theorem dX5_found_0 : decode cX5_found 0 = .ok (.iconst 0, 1) := by decide +kernel
theorem dX5_found_1 : decode cX5_found 1 = .ok (.istore_n 3, 1) := by decide +kernel
theorem dX5_found_2 : decode cX5_found 2 = .ok (.iload_n 3, 1) := by decide +kernel
theorem dX5_found_3 : decode cX5_found 3 = .ok (.aload_n 0, 1) := by decide +kernel
theorem dX5_found_4 : decode cX5_found 4 = .ok (.getfield 32, 3) := by decide +kernel
theorem dX5_found_7 : decode cX5_found 7 = .ok (.iload_n 1, 1) := by decide +kernel
theorem dX5_found_8 : decode cX5_found 8 = .ok (.iaload, 1) := by decide +kernel
theorem dX5_found_9 : decode cX5_found 9 = .ok (.if_icmp .ge 25, 3) := by decide +kernel
theorem dX5_found_12 : decode cX5_found 12 = .ok (.aload_n 0, 1) := by decide +kernel
theorem dX5_found_13 : decode cX5_found 13 = .ok (.getfield 41, 3) := by decide +kernel
theorem dX5_found_16 : decode cX5_found 16 = .ok (.sipush 200, 3) := by decide +kernel
theorem dX5_found_19 : decode cX5_found 19 = .ok (.iload_n 1, 1) := by decide +kernel
theorem dX5_found_20 : decode cX5_found 20 = .ok (.imul, 1) := by decide +kernel
theorem dX5_found_21 : decode cX5_found 21 = .ok (.iload_n 3, 1) := by decide +kernel
theorem dX5_found_22 : decode cX5_found 22 = .ok (.iadd, 1) := by decide +kernel
theorem dX5_found_23 : decode cX5_found 23 = .ok (.iaload, 1) := by decide +kernel
theorem dX5_found_24 : decode cX5_found 24 = .ok (.iload_n 2, 1) := by decide +kernel
theorem dX5_found_25 : decode cX5_found 25 = .ok (.if_icmp .ge 9, 3) := by decide +kernel
theorem dX5_found_28 : decode cX5_found 28 = .ok (.iinc 3 1, 3) := by decide +kernel
theorem dX5_found_31 : decode cX5_found 31 = .ok (.goto (-29), 3) := by decide +kernel
theorem dX5_found_34 : decode cX5_found 34 = .ok (.iload_n 3, 1) := by decide +kernel
theorem dX5_found_35 : decode cX5_found 35 = .ok (.ireturn, 1) := by decide +kernel
theorem dX5_isThere_0 : decode cX5_isThere 0 = .ok (.aload_n 0, 1) := by decide +kernel
theorem dX5_isThere_1 : decode cX5_isThere 1 = .ok (.iload_n 1, 1) := by decide +kernel
theorem dX5_isThere_2 : decode cX5_isThere 2 = .ok (.iload_n 2, 1) := by decide +kernel
theorem dX5_isThere_3 : decode cX5_isThere 3 = .ok (.invokevirtual 158, 3) := by decide +kernel
theorem dX5_isThere_6 : decode cX5_isThere 6 = .ok (.istore_n 3, 1) := by decide +kernel
theorem dX5_isThere_7 : decode cX5_isThere 7 = .ok (.iload_n 3, 1) := by decide +kernel
theorem dX5_isThere_8 : decode cX5_isThere 8 = .ok (.aload_n 0, 1) := by decide +kernel
theorem dX5_isThere_9 : decode cX5_isThere 9 = .ok (.getfield 32, 3) := by decide +kernel
theorem dX5_isThere_12 : decode cX5_isThere 12 = .ok (.iload_n 1, 1) := by decide +kernel
theorem dX5_isThere_13 : decode cX5_isThere 13 = .ok (.iaload, 1) := by decide +kernel
theorem dX5_isThere_14 : decode cX5_isThere 14 = .ok (.if_icmp .ge 23, 3) := by decide +kernel
theorem dX5_isThere_17 : decode cX5_isThere 17 = .ok (.aload_n 0, 1) := by decide +kernel
theorem dX5_isThere_18 : decode cX5_isThere 18 = .ok (.getfield 41, 3) := by decide +kernel
theorem dX5_isThere_21 : decode cX5_isThere 21 = .ok (.sipush 200, 3) := by decide +kernel
theorem dX5_isThere_24 : decode cX5_isThere 24 = .ok (.iload_n 1, 1) := by decide +kernel
theorem dX5_isThere_25 : decode cX5_isThere 25 = .ok (.imul, 1) := by decide +kernel
theorem dX5_isThere_26 : decode cX5_isThere 26 = .ok (.iload_n 3, 1) := by decide +kernel
theorem dX5_isThere_27 : decode cX5_isThere 27 = .ok (.iadd, 1) := by decide +kernel
theorem dX5_isThere_28 : decode cX5_isThere 28 = .ok (.iaload, 1) := by decide +kernel
theorem dX5_isThere_29 : decode cX5_isThere 29 = .ok (.iload_n 2, 1) := by decide +kernel
theorem dX5_isThere_30 : decode cX5_isThere 30 = .ok (.if_icmp .ne 7, 3) := by decide +kernel
theorem dX5_isThere_33 : decode cX5_isThere 33 = .ok (.iconst 1, 1) := by decide +kernel
theorem dX5_isThere_34 : decode cX5_isThere 34 = .ok (.goto 4, 3) := by decide +kernel
theorem dX5_isThere_37 : decode cX5_isThere 37 = .ok (.iconst 0, 1) := by decide +kernel
theorem dX5_isThere_38 : decode cX5_isThere 38 = .ok (.ireturn, 1) := by decide +kernel
theorem dX5_come_0 : decode cX5_come 0 = .ok (.aload_n 0, 1) := by decide +kernel
theorem dX5_come_1 : decode cX5_come 1 = .ok (.getfield 35, 3) := by decide +kernel
theorem dX5_come_4 : decode cX5_come 4 = .ok (.iload_n 1, 1) := by decide +kernel
theorem dX5_come_5 : decode cX5_come 5 = .ok (.dup2, 1) := by decide +kernel
theorem dX5_come_6 : decode cX5_come 6 = .ok (.iaload, 1) := by decide +kernel
theorem dX5_come_7 : decode cX5_come 7 = .ok (.iconst 1, 1) := by decide +kernel
theorem dX5_come_8 : decode cX5_come 8 = .ok (.iadd, 1) := by decide +kernel
theorem dX5_come_9 : decode cX5_come 9 = .ok (.iastore, 1) := by decide +kernel
theorem dX5_come_10 : decode cX5_come 10 = .ok (.aload_n 0, 1) := by decide +kernel
theorem dX5_come_11 : decode cX5_come 11 = .ok (.iload_n 1, 1) := by decide +kernel
theorem dX5_come_12 : decode cX5_come 12 = .ok (.iload_n 2, 1) := by decide +kernel
theorem dX5_come_13 : decode cX5_come 13 = .ok (.invokevirtual 158, 3) := by decide +kernel
theorem dX5_come_16 : decode cX5_come 16 = .ok (.istore 5, 2) := by decide +kernel
theorem dX5_come_18 : decode cX5_come 18 = .ok (.aload_n 0, 1) := by decide +kernel
theorem dX5_come_19 : decode cX5_come 19 = .ok (.iload_n 1, 1) := by decide +kernel
theorem dX5_come_20 : decode cX5_come 20 = .ok (.iload_n 2, 1) := by decide +kernel
theorem dX5_come_21 : decode cX5_come 21 = .ok (.invokevirtual 161, 3) := by decide +kernel
theorem dX5_come_24 : decode cX5_come 24 = .ok (.ifCond .eq 31, 3) := by decide +kernel
theorem dX5_come_27 : decode cX5_come 27 = .ok (.aload_n 0, 1) := by decide +kernel
theorem dX5_come_28 : decode cX5_come 28 = .ok (.getfield 38, 3) := by decide +kernel
theorem dX5_come_31 : decode cX5_come 31 = .ok (.iload_n 1, 1) := by decide +kernel
theorem dX5_come_32 : decode cX5_come 32 = .ok (.dup2, 1) := by decide +kernel
theorem dX5_come_33 : decode cX5_come 33 = .ok (.iaload, 1) := by decide +kernel
theorem dX5_come_34 : decode cX5_come 34 = .ok (.iconst 1, 1) := by decide +kernel
theorem dX5_come_35 : decode cX5_come 35 = .ok (.iadd, 1) := by decide +kernel
theorem dX5_come_36 : decode cX5_come 36 = .ok (.iastore, 1) := by decide +kernel
theorem dX5_come_37 : decode cX5_come 37 = .ok (.aload_n 0, 1) := by decide +kernel
theorem dX5_come_38 : decode cX5_come 38 = .ok (.getfield 44, 3) := by decide +kernel
theorem dX5_come_41 : decode cX5_come 41 = .ok (.sipush 200, 3) := by decide +kernel
theorem dX5_come_44 : decode cX5_come 44 = .ok (.iload_n 1, 1) := by decide +kernel
theorem dX5_come_45 : decode cX5_come 45 = .ok (.imul, 1) := by decide +kernel
theorem dX5_come_46 : decode cX5_come 46 = .ok (.iload 5, 2) := by decide +kernel
theorem dX5_come_48 : decode cX5_come 48 = .ok (.iadd, 1) := by decide +kernel
theorem dX5_come_49 : decode cX5_come 49 = .ok (.dup2, 1) := by decide +kernel
theorem dX5_come_50 : decode cX5_come 50 = .ok (.laload, 1) := by decide +kernel
theorem dX5_come_51 : decode cX5_come 51 = .ok (.lload_n 3, 1) := by decide +kernel
theorem dX5_come_52 : decode cX5_come 52 = .ok (.ladd, 1) := by decide +kernel
theorem dX5_come_53 : decode cX5_come 53 = .ok (.lastore, 1) := by decide +kernel
theorem dX5_come_54 : decode cX5_come 54 = .ok (.return_, 1) := by decide +kernel
theorem dX5_come_55 : decode cX5_come 55 = .ok (.aload_n 0, 1) := by decide +kernel
theorem dX5_come_56 : decode cX5_come 56 = .ok (.getfield 32, 3) := by decide +kernel
theorem dX5_come_59 : decode cX5_come 59 = .ok (.iload_n 1, 1) := by decide +kernel
theorem dX5_come_60 : decode cX5_come 60 = .ok (.iaload, 1) := by decide +kernel
theorem dX5_come_61 : decode cX5_come 61 = .ok (.istore 6, 2) := by decide +kernel
theorem dX5_come_63 : decode cX5_come 63 = .ok (.iload 6, 2) := by decide +kernel
theorem dX5_come_65 : decode cX5_come 65 = .ok (.iload 5, 2) := by decide +kernel
theorem dX5_come_67 : decode cX5_come 67 = .ok (.if_icmp .le 65, 3) := by decide +kernel
theorem dX5_come_70 : decode cX5_come 70 = .ok (.aload_n 0, 1) := by decide +kernel
theorem dX5_come_71 : decode cX5_come 71 = .ok (.getfield 41, 3) := by decide +kernel
theorem dX5_come_74 : decode cX5_come 74 = .ok (.sipush 200, 3) := by decide +kernel
theorem dX5_come_77 : decode cX5_come 77 = .ok (.iload_n 1, 1) := by decide +kernel
theorem dX5_come_78 : decode cX5_come 78 = .ok (.imul, 1) := by decide +kernel
theorem dX5_come_79 : decode cX5_come 79 = .ok (.iload 6, 2) := by decide +kernel
theorem dX5_come_81 : decode cX5_come 81 = .ok (.iadd, 1) := by decide +kernel
theorem dX5_come_82 : decode cX5_come 82 = .ok (.aload_n 0, 1) := by decide +kernel
theorem dX5_come_83 : decode cX5_come 83 = .ok (.getfield 41, 3) := by decide +kernel
theorem dX5_come_86 : decode cX5_come 86 = .ok (.sipush 200, 3) := by decide +kernel
theorem dX5_come_89 : decode cX5_come 89 = .ok (.iload_n 1, 1) := by decide +kernel
theorem dX5_come_90 : decode cX5_come 90 = .ok (.imul, 1) := by decide +kernel
theorem dX5_come_91 : decode cX5_come 91 = .ok (.iload 6, 2) := by decide +kernel
theorem dX5_come_93 : decode cX5_come 93 = .ok (.iadd, 1) := by decide +kernel
theorem dX5_come_94 : decode cX5_come 94 = .ok (.iconst 1, 1) := by decide +kernel
theorem dX5_come_95 : decode cX5_come 95 = .ok (.isub, 1) := by decide +kernel
theorem dX5_come_96 : decode cX5_come 96 = .ok (.iaload, 1) := by decide +kernel
theorem dX5_come_97 : decode cX5_come 97 = .ok (.iastore, 1) := by decide +kernel
theorem dX5_come_98 : decode cX5_come 98 = .ok (.aload_n 0, 1) := by decide +kernel
theorem dX5_come_99 : decode cX5_come 99 = .ok (.getfield 44, 3) := by decide +kernel
theorem dX5_come_102 : decode cX5_come 102 = .ok (.sipush 200, 3) := by decide +kernel
theorem dX5_come_105 : decode cX5_come 105 = .ok (.iload_n 1, 1) := by decide +kernel
theorem dX5_come_106 : decode cX5_come 106 = .ok (.imul, 1) := by decide +kernel
theorem dX5_come_107 : decode cX5_come 107 = .ok (.iload 6, 2) := by decide +kernel
theorem dX5_come_109 : decode cX5_come 109 = .ok (.iadd, 1) := by decide +kernel
theorem dX5_come_110 : decode cX5_come 110 = .ok (.aload_n 0, 1) := by decide +kernel
theorem dX5_come_111 : decode cX5_come 111 = .ok (.getfield 44, 3) := by decide +kernel
theorem dX5_come_114 : decode cX5_come 114 = .ok (.sipush 200, 3) := by decide +kernel
theorem dX5_come_117 : decode cX5_come 117 = .ok (.iload_n 1, 1) := by decide +kernel
theorem dX5_come_118 : decode cX5_come 118 = .ok (.imul, 1) := by decide +kernel
theorem dX5_come_119 : decode cX5_come 119 = .ok (.iload 6, 2) := by decide +kernel
theorem dX5_come_121 : decode cX5_come 121 = .ok (.iadd, 1) := by decide +kernel
theorem dX5_come_122 : decode cX5_come 122 = .ok (.iconst 1, 1) := by decide +kernel
theorem dX5_come_123 : decode cX5_come 123 = .ok (.isub, 1) := by decide +kernel
theorem dX5_come_124 : decode cX5_come 124 = .ok (.laload, 1) := by decide +kernel
theorem dX5_come_125 : decode cX5_come 125 = .ok (.lastore, 1) := by decide +kernel
theorem dX5_come_126 : decode cX5_come 126 = .ok (.iinc 6 (-1), 3) := by decide +kernel
theorem dX5_come_129 : decode cX5_come 129 = .ok (.goto (-66), 3) := by decide +kernel
theorem dX5_come_132 : decode cX5_come 132 = .ok (.aload_n 0, 1) := by decide +kernel
theorem dX5_come_133 : decode cX5_come 133 = .ok (.getfield 41, 3) := by decide +kernel
theorem dX5_come_136 : decode cX5_come 136 = .ok (.sipush 200, 3) := by decide +kernel
theorem dX5_come_139 : decode cX5_come 139 = .ok (.iload_n 1, 1) := by decide +kernel
theorem dX5_come_140 : decode cX5_come 140 = .ok (.imul, 1) := by decide +kernel
theorem dX5_come_141 : decode cX5_come 141 = .ok (.iload 5, 2) := by decide +kernel
theorem dX5_come_143 : decode cX5_come 143 = .ok (.iadd, 1) := by decide +kernel
theorem dX5_come_144 : decode cX5_come 144 = .ok (.iload_n 2, 1) := by decide +kernel
theorem dX5_come_145 : decode cX5_come 145 = .ok (.iastore, 1) := by decide +kernel
theorem dX5_come_146 : decode cX5_come 146 = .ok (.aload_n 0, 1) := by decide +kernel
theorem dX5_come_147 : decode cX5_come 147 = .ok (.getfield 44, 3) := by decide +kernel
theorem dX5_come_150 : decode cX5_come 150 = .ok (.sipush 200, 3) := by decide +kernel
theorem dX5_come_153 : decode cX5_come 153 = .ok (.iload_n 1, 1) := by decide +kernel
theorem dX5_come_154 : decode cX5_come 154 = .ok (.imul, 1) := by decide +kernel
theorem dX5_come_155 : decode cX5_come 155 = .ok (.iload 5, 2) := by decide +kernel
theorem dX5_come_157 : decode cX5_come 157 = .ok (.iadd, 1) := by decide +kernel
theorem dX5_come_158 : decode cX5_come 158 = .ok (.lload_n 3, 1) := by decide +kernel
theorem dX5_come_159 : decode cX5_come 159 = .ok (.lastore, 1) := by decide +kernel
theorem dX5_come_160 : decode cX5_come 160 = .ok (.aload_n 0, 1) := by decide +kernel
theorem dX5_come_161 : decode cX5_come 161 = .ok (.getfield 32, 3) := by decide +kernel
theorem dX5_come_164 : decode cX5_come 164 = .ok (.iload_n 1, 1) := by decide +kernel
theorem dX5_come_165 : decode cX5_come 165 = .ok (.dup2, 1) := by decide +kernel
theorem dX5_come_166 : decode cX5_come 166 = .ok (.iaload, 1) := by decide +kernel
theorem dX5_come_167 : decode cX5_come 167 = .ok (.iconst 1, 1) := by decide +kernel
theorem dX5_come_168 : decode cX5_come 168 = .ok (.iadd, 1) := by decide +kernel
theorem dX5_come_169 : decode cX5_come 169 = .ok (.iastore, 1) := by decide +kernel
theorem dX5_come_170 : decode cX5_come 170 = .ok (.return_, 1) := by decide +kernel
theorem dX5_cut_0 : decode cX5_cut 0 = .ok (.iload_n 1, 1) := by decide +kernel
theorem dX5_cut_1 : decode cX5_cut 1 = .ok (.istore_n 3, 1) := by decide +kernel
theorem dX5_cut_2 : decode cX5_cut 2 = .ok (.iconst 0, 1) := by decide +kernel
theorem dX5_cut_3 : decode cX5_cut 3 = .ok (.istore 4, 2) := by decide +kernel
theorem dX5_cut_5 : decode cX5_cut 5 = .ok (.iload 4, 2) := by decide +kernel
theorem dX5_cut_7 : decode cX5_cut 7 = .ok (.bipush 6, 2) := by decide +kernel
theorem dX5_cut_9 : decode cX5_cut 9 = .ok (.if_icmp .ge 36, 3) := by decide +kernel
theorem dX5_cut_12 : decode cX5_cut 12 = .ok (.aload_n 0, 1) := by decide +kernel
theorem dX5_cut_13 : decode cX5_cut 13 = .ok (.getfield 48, 3) := by decide +kernel
theorem dX5_cut_16 : decode cX5_cut 16 = .ok (.iload_n 2, 1) := by decide +kernel
theorem dX5_cut_17 : decode cX5_cut 17 = .ok (.iaload, 1) := by decide +kernel
theorem dX5_cut_18 : decode cX5_cut 18 = .ok (.iload 4, 2) := by decide +kernel
theorem dX5_cut_20 : decode cX5_cut 20 = .ok (.ishr, 1) := by decide +kernel
theorem dX5_cut_21 : decode cX5_cut 21 = .ok (.iconst 1, 1) := by decide +kernel
theorem dX5_cut_22 : decode cX5_cut 22 = .ok (.iand, 1) := by decide +kernel
theorem dX5_cut_23 : decode cX5_cut 23 = .ok (.iconst 1, 1) := by decide +kernel
theorem dX5_cut_24 : decode cX5_cut 24 = .ok (.if_icmp .ne 7, 3) := by decide +kernel
theorem dX5_cut_27 : decode cX5_cut 27 = .ok (.iload_n 3, 1) := by decide +kernel
theorem dX5_cut_28 : decode cX5_cut 28 = .ok (.goto 10, 3) := by decide +kernel
theorem dX5_cut_31 : decode cX5_cut 31 = .ok (.iload_n 3, 1) := by decide +kernel
theorem dX5_cut_32 : decode cX5_cut 32 = .ok (.iload 4, 2) := by decide +kernel
theorem dX5_cut_34 : decode cX5_cut 34 = .ok (.iconst 0, 1) := by decide +kernel
theorem dX5_cut_35 : decode cX5_cut 35 = .ok (.invokestatic 125, 3) := by decide +kernel
theorem dX5_cut_38 : decode cX5_cut 38 = .ok (.istore_n 3, 1) := by decide +kernel
theorem dX5_cut_39 : decode cX5_cut 39 = .ok (.iinc 4 1, 3) := by decide +kernel
theorem dX5_cut_42 : decode cX5_cut 42 = .ok (.goto (-37), 3) := by decide +kernel
theorem dX5_cut_45 : decode cX5_cut 45 = .ok (.iload_n 3, 1) := by decide +kernel
theorem dX5_cut_46 : decode cX5_cut 46 = .ok (.ireturn, 1) := by decide +kernel
theorem dX5_least_0 : decode cX5_least 0 = .ok (.iconst 0, 1) := by decide +kernel
theorem dX5_least_1 : decode cX5_least 1 = .ok (.istore_n 1, 1) := by decide +kernel
theorem dX5_least_2 : decode cX5_least 2 = .ok (.iload_n 1, 1) := by decide +kernel
theorem dX5_least_3 : decode cX5_least 3 = .ok (.aload_n 0, 1) := by decide +kernel
theorem dX5_least_4 : decode cX5_least 4 = .ok (.getfield 73, 3) := by decide +kernel
theorem dX5_least_7 : decode cX5_least 7 = .ok (.if_icmp .ge 20, 3) := by decide +kernel
theorem dX5_least_10 : decode cX5_least 10 = .ok (.aload_n 0, 1) := by decide +kernel
theorem dX5_least_11 : decode cX5_least 11 = .ok (.getfield 32, 3) := by decide +kernel
theorem dX5_least_14 : decode cX5_least 14 = .ok (.iload_n 1, 1) := by decide +kernel
theorem dX5_least_15 : decode cX5_least 15 = .ok (.iaload, 1) := by decide +kernel
theorem dX5_least_16 : decode cX5_least 16 = .ok (.ifCond .le 5, 3) := by decide +kernel
theorem dX5_least_19 : decode cX5_least 19 = .ok (.iload_n 1, 1) := by decide +kernel
theorem dX5_least_20 : decode cX5_least 20 = .ok (.ireturn, 1) := by decide +kernel
theorem dX5_least_21 : decode cX5_least 21 = .ok (.iinc 1 1, 3) := by decide +kernel
theorem dX5_least_24 : decode cX5_least 24 = .ok (.goto (-22), 3) := by decide +kernel
theorem dX5_least_27 : decode cX5_least 27 = .ok (.bipush (-5), 2) := by decide +kernel
theorem dX5_least_29 : decode cX5_least 29 = .ok (.ireturn, 1) := by decide +kernel
theorem dX5_isRoom_0 : decode cX5_isRoom 0 = .ok (.aload_n 0, 1) := by decide +kernel
theorem dX5_isRoom_1 : decode cX5_isRoom 1 = .ok (.iload_n 1, 1) := by decide +kernel
theorem dX5_isRoom_2 : decode cX5_isRoom 2 = .ok (.aload_n 0, 1) := by decide +kernel
theorem dX5_isRoom_3 : decode cX5_isRoom 3 = .ok (.getfield 41, 3) := by decide +kernel
theorem dX5_isRoom_6 : decode cX5_isRoom 6 = .ok (.sipush 200, 3) := by decide +kernel
theorem dX5_isRoom_9 : decode cX5_isRoom 9 = .ok (.iload_n 1, 1) := by decide +kernel
theorem dX5_isRoom_10 : decode cX5_isRoom 10 = .ok (.imul, 1) := by decide +kernel
theorem dX5_isRoom_11 : decode cX5_isRoom 11 = .ok (.iaload, 1) := by decide +kernel
theorem dX5_isRoom_12 : decode cX5_isRoom 12 = .ok (.aload_n 0, 1) := by decide +kernel
theorem dX5_isRoom_13 : decode cX5_isRoom 13 = .ok (.getfield 44, 3) := by decide +kernel
theorem dX5_isRoom_16 : decode cX5_isRoom 16 = .ok (.sipush 200, 3) := by decide +kernel
theorem dX5_isRoom_19 : decode cX5_isRoom 19 = .ok (.iload_n 1, 1) := by decide +kernel
theorem dX5_isRoom_20 : decode cX5_isRoom 20 = .ok (.imul, 1) := by decide +kernel
theorem dX5_isRoom_21 : decode cX5_isRoom 21 = .ok (.laload, 1) := by decide +kernel
theorem dX5_isRoom_22 : decode cX5_isRoom 22 = .ok (.invokevirtual 165, 3) := by decide +kernel
theorem dX5_isRoom_25 : decode cX5_isRoom 25 = .ok (.iconst 0, 1) := by decide +kernel
theorem dX5_isRoom_26 : decode cX5_isRoom 26 = .ok (.istore_n 2, 1) := by decide +kernel
theorem dX5_isRoom_27 : decode cX5_isRoom 27 = .ok (.iconst 0, 1) := by decide +kernel
theorem dX5_isRoom_28 : decode cX5_isRoom 28 = .ok (.istore_n 3, 1) := by decide +kernel
theorem dX5_isRoom_29 : decode cX5_isRoom 29 = .ok (.iload_n 3, 1) := by decide +kernel
theorem dX5_isRoom_30 : decode cX5_isRoom 30 = .ok (.aload_n 0, 1) := by decide +kernel
theorem dX5_isRoom_31 : decode cX5_isRoom 31 = .ok (.getfield 112, 3) := by decide +kernel
theorem dX5_isRoom_34 : decode cX5_isRoom 34 = .ok (.if_icmp .ge 109, 3) := by decide +kernel
theorem dX5_isRoom_37 : decode cX5_isRoom 37 = .ok (.aload_n 0, 1) := by decide +kernel
theorem dX5_isRoom_38 : decode cX5_isRoom 38 = .ok (.getfield 51, 3) := by decide +kernel
theorem dX5_isRoom_41 : decode cX5_isRoom 41 = .ok (.iload_n 3, 1) := by decide +kernel
theorem dX5_isRoom_42 : decode cX5_isRoom 42 = .ok (.aload_n 0, 1) := by decide +kernel
theorem dX5_isRoom_43 : decode cX5_isRoom 43 = .ok (.aload_n 0, 1) := by decide +kernel
theorem dX5_isRoom_44 : decode cX5_isRoom 44 = .ok (.getfield 51, 3) := by decide +kernel
theorem dX5_isRoom_47 : decode cX5_isRoom 47 = .ok (.iload_n 3, 1) := by decide +kernel
theorem dX5_isRoom_48 : decode cX5_isRoom 48 = .ok (.iaload, 1) := by decide +kernel
theorem dX5_isRoom_49 : decode cX5_isRoom 49 = .ok (.aload_n 0, 1) := by decide +kernel
theorem dX5_isRoom_50 : decode cX5_isRoom 50 = .ok (.getfield 115, 3) := by decide +kernel
theorem dX5_isRoom_53 : decode cX5_isRoom 53 = .ok (.invokevirtual 168, 3) := by decide +kernel
theorem dX5_isRoom_56 : decode cX5_isRoom 56 = .ok (.iastore, 1) := by decide +kernel
theorem dX5_isRoom_57 : decode cX5_isRoom 57 = .ok (.aload_n 0, 1) := by decide +kernel
theorem dX5_isRoom_58 : decode cX5_isRoom 58 = .ok (.aload_n 0, 1) := by decide +kernel
theorem dX5_isRoom_59 : decode cX5_isRoom 59 = .ok (.getfield 115, 3) := by decide +kernel
theorem dX5_isRoom_62 : decode cX5_isRoom 62 = .ok (.aload_n 0, 1) := by decide +kernel
theorem dX5_isRoom_63 : decode cX5_isRoom 63 = .ok (.getfield 51, 3) := by decide +kernel
theorem dX5_isRoom_66 : decode cX5_isRoom 66 = .ok (.iload_n 3, 1) := by decide +kernel
theorem dX5_isRoom_67 : decode cX5_isRoom 67 = .ok (.iaload, 1) := by decide +kernel
theorem dX5_isRoom_68 : decode cX5_isRoom 68 = .ok (.invokevirtual 161, 3) := by decide +kernel
theorem dX5_isRoom_71 : decode cX5_isRoom 71 = .ok (.ifCond .ne 7, 3) := by decide +kernel
theorem dX5_isRoom_74 : decode cX5_isRoom 74 = .ok (.iconst 1, 1) := by decide +kernel
theorem dX5_isRoom_75 : decode cX5_isRoom 75 = .ok (.goto 4, 3) := by decide +kernel
theorem dX5_isRoom_78 : decode cX5_isRoom 78 = .ok (.iconst 0, 1) := by decide +kernel
theorem dX5_isRoom_79 : decode cX5_isRoom 79 = .ok (.istore 4, 2) := by decide +kernel
theorem dX5_isRoom_81 : decode cX5_isRoom 81 = .ok (.iconst 0, 1) := by decide +kernel
theorem dX5_isRoom_82 : decode cX5_isRoom 82 = .ok (.istore 5, 2) := by decide +kernel
theorem dX5_isRoom_84 : decode cX5_isRoom 84 = .ok (.iload 5, 2) := by decide +kernel
theorem dX5_isRoom_86 : decode cX5_isRoom 86 = .ok (.iload_n 3, 1) := by decide +kernel
theorem dX5_isRoom_87 : decode cX5_isRoom 87 = .ok (.if_icmp .ge 37, 3) := by decide +kernel
theorem dX5_isRoom_90 : decode cX5_isRoom 90 = .ok (.iload 4, 2) := by decide +kernel
theorem dX5_isRoom_92 : decode cX5_isRoom 92 = .ok (.ifCond .eq 23, 3) := by decide +kernel
theorem dX5_isRoom_95 : decode cX5_isRoom 95 = .ok (.aload_n 0, 1) := by decide +kernel
theorem dX5_isRoom_96 : decode cX5_isRoom 96 = .ok (.getfield 51, 3) := by decide +kernel
theorem dX5_isRoom_99 : decode cX5_isRoom 99 = .ok (.iload 5, 2) := by decide +kernel
theorem dX5_isRoom_101 : decode cX5_isRoom 101 = .ok (.iaload, 1) := by decide +kernel
theorem dX5_isRoom_102 : decode cX5_isRoom 102 = .ok (.aload_n 0, 1) := by decide +kernel
theorem dX5_isRoom_103 : decode cX5_isRoom 103 = .ok (.getfield 51, 3) := by decide +kernel
theorem dX5_isRoom_106 : decode cX5_isRoom 106 = .ok (.iload_n 3, 1) := by decide +kernel
theorem dX5_isRoom_107 : decode cX5_isRoom 107 = .ok (.iaload, 1) := by decide +kernel
theorem dX5_isRoom_108 : decode cX5_isRoom 108 = .ok (.if_icmp .eq 7, 3) := by decide +kernel
theorem dX5_isRoom_111 : decode cX5_isRoom 111 = .ok (.iconst 1, 1) := by decide +kernel
theorem dX5_isRoom_112 : decode cX5_isRoom 112 = .ok (.goto 4, 3) := by decide +kernel
theorem dX5_isRoom_115 : decode cX5_isRoom 115 = .ok (.iconst 0, 1) := by decide +kernel
theorem dX5_isRoom_116 : decode cX5_isRoom 116 = .ok (.istore 4, 2) := by decide +kernel
theorem dX5_isRoom_118 : decode cX5_isRoom 118 = .ok (.iinc 5 1, 3) := by decide +kernel
theorem dX5_isRoom_121 : decode cX5_isRoom 121 = .ok (.goto (-37), 3) := by decide +kernel
theorem dX5_isRoom_124 : decode cX5_isRoom 124 = .ok (.iload_n 2, 1) := by decide +kernel
theorem dX5_isRoom_125 : decode cX5_isRoom 125 = .ok (.iload 4, 2) := by decide +kernel
theorem dX5_isRoom_127 : decode cX5_isRoom 127 = .ok (.ifCond .eq 7, 3) := by decide +kernel
theorem dX5_isRoom_130 : decode cX5_isRoom 130 = .ok (.iconst 1, 1) := by decide +kernel
theorem dX5_isRoom_131 : decode cX5_isRoom 131 = .ok (.goto 4, 3) := by decide +kernel
theorem dX5_isRoom_134 : decode cX5_isRoom 134 = .ok (.iconst 0, 1) := by decide +kernel
theorem dX5_isRoom_135 : decode cX5_isRoom 135 = .ok (.iadd, 1) := by decide +kernel
theorem dX5_isRoom_136 : decode cX5_isRoom 136 = .ok (.istore_n 2, 1) := by decide +kernel
theorem dX5_isRoom_137 : decode cX5_isRoom 137 = .ok (.iinc 3 1, 3) := by decide +kernel
theorem dX5_isRoom_140 : decode cX5_isRoom 140 = .ok (.goto (-111), 3) := by decide +kernel
theorem dX5_isRoom_143 : decode cX5_isRoom 143 = .ok (.aload_n 0, 1) := by decide +kernel
theorem dX5_isRoom_144 : decode cX5_isRoom 144 = .ok (.getfield 32, 3) := by decide +kernel
theorem dX5_isRoom_147 : decode cX5_isRoom 147 = .ok (.aload_n 0, 1) := by decide +kernel
theorem dX5_isRoom_148 : decode cX5_isRoom 148 = .ok (.getfield 115, 3) := by decide +kernel
theorem dX5_isRoom_151 : decode cX5_isRoom 151 = .ok (.iaload, 1) := by decide +kernel
theorem dX5_isRoom_152 : decode cX5_isRoom 152 = .ok (.iload_n 2, 1) := by decide +kernel
theorem dX5_isRoom_153 : decode cX5_isRoom 153 = .ok (.iadd, 1) := by decide +kernel
theorem dX5_isRoom_154 : decode cX5_isRoom 154 = .ok (.sipush 200, 3) := by decide +kernel
theorem dX5_isRoom_157 : decode cX5_isRoom 157 = .ok (.if_icmp .gt 7, 3) := by decide +kernel
theorem dX5_isRoom_160 : decode cX5_isRoom 160 = .ok (.iconst 1, 1) := by decide +kernel
theorem dX5_isRoom_161 : decode cX5_isRoom 161 = .ok (.goto 4, 3) := by decide +kernel
theorem dX5_isRoom_164 : decode cX5_isRoom 164 = .ok (.iconst 0, 1) := by decide +kernel
theorem dX5_isRoom_165 : decode cX5_isRoom 165 = .ok (.ireturn, 1) := by decide +kernel
theorem dX5_list_0 : decode cX5_list 0 = .ok (.aload_n 0, 1) := by decide +kernel
theorem dX5_list_1 : decode cX5_list 1 = .ok (.iconst 0, 1) := by decide +kernel
theorem dX5_list_2 : decode cX5_list 2 = .ok (.putfield 69, 3) := by decide +kernel
theorem dX5_list_5 : decode cX5_list 5 = .ok (.iload_n 1, 1) := by decide +kernel
theorem dX5_list_6 : decode cX5_list 6 = .ok (.iconst 1, 1) := by decide +kernel
theorem dX5_list_7 : decode cX5_list 7 = .ok (.sipush 1000, 3) := by decide +kernel
theorem dX5_list_10 : decode cX5_list 10 = .ok (.invokestatic 86, 3) := by decide +kernel
theorem dX5_list_13 : decode cX5_list 13 = .ok (.ifCond .ne 5, 3) := by decide +kernel
theorem dX5_list_16 : decode cX5_list 16 = .ok (.iconst (-1), 1) := by decide +kernel
theorem dX5_list_17 : decode cX5_list 17 = .ok (.ireturn, 1) := by decide +kernel
theorem dX5_list_18 : decode cX5_list 18 = .ok (.aload_n 0, 1) := by decide +kernel
theorem dX5_list_19 : decode cX5_list 19 = .ok (.getfield 82, 3) := by decide +kernel
theorem dX5_list_22 : decode cX5_list 22 = .ok (.ifCond .ne 6, 3) := by decide +kernel
theorem dX5_list_25 : decode cX5_list 25 = .ok (.bipush (-3), 2) := by decide +kernel
theorem dX5_list_27 : decode cX5_list 27 = .ok (.ireturn, 1) := by decide +kernel
theorem dX5_list_28 : decode cX5_list 28 = .ok (.iconst 0, 1) := by decide +kernel
theorem dX5_list_29 : decode cX5_list 29 = .ok (.istore_n 2, 1) := by decide +kernel
theorem dX5_list_30 : decode cX5_list 30 = .ok (.aload_n 0, 1) := by decide +kernel
theorem dX5_list_31 : decode cX5_list 31 = .ok (.invokevirtual 171, 3) := by decide +kernel
theorem dX5_list_34 : decode cX5_list 34 = .ok (.istore_n 3, 1) := by decide +kernel
theorem dX5_list_35 : decode cX5_list 35 = .ok (.iload_n 2, 1) := by decide +kernel
theorem dX5_list_36 : decode cX5_list 36 = .ok (.iload_n 1, 1) := by decide +kernel
theorem dX5_list_37 : decode cX5_list 37 = .ok (.if_icmp .ge 167, 3) := by decide +kernel
theorem dX5_list_40 : decode cX5_list 40 = .ok (.iload_n 3, 1) := by decide +kernel
theorem dX5_list_41 : decode cX5_list 41 = .ok (.bipush (-5), 2) := by decide +kernel
theorem dX5_list_43 : decode cX5_list 43 = .ok (.if_icmp .eq 161, 3) := by decide +kernel
theorem dX5_list_46 : decode cX5_list 46 = .ok (.aload_n 0, 1) := by decide +kernel
theorem dX5_list_47 : decode cX5_list 47 = .ok (.iload_n 3, 1) := by decide +kernel
theorem dX5_list_48 : decode cX5_list 48 = .ok (.invokevirtual 175, 3) := by decide +kernel
theorem dX5_list_51 : decode cX5_list 51 = .ok (.ifCond .eq 153, 3) := by decide +kernel
theorem dX5_list_54 : decode cX5_list 54 = .ok (.aload_n 0, 1) := by decide +kernel
theorem dX5_list_55 : decode cX5_list 55 = .ok (.getfield 32, 3) := by decide +kernel
theorem dX5_list_58 : decode cX5_list 58 = .ok (.iload_n 3, 1) := by decide +kernel
theorem dX5_list_59 : decode cX5_list 59 = .ok (.dup2, 1) := by decide +kernel
theorem dX5_list_60 : decode cX5_list 60 = .ok (.iaload, 1) := by decide +kernel
theorem dX5_list_61 : decode cX5_list 61 = .ok (.iconst 1, 1) := by decide +kernel
theorem dX5_list_62 : decode cX5_list 62 = .ok (.isub, 1) := by decide +kernel
theorem dX5_list_63 : decode cX5_list 63 = .ok (.iastore, 1) := by decide +kernel
theorem dX5_list_64 : decode cX5_list 64 = .ok (.iconst 0, 1) := by decide +kernel
theorem dX5_list_65 : decode cX5_list 65 = .ok (.istore 4, 2) := by decide +kernel
theorem dX5_list_67 : decode cX5_list 67 = .ok (.iload 4, 2) := by decide +kernel
theorem dX5_list_69 : decode cX5_list 69 = .ok (.aload_n 0, 1) := by decide +kernel
theorem dX5_list_70 : decode cX5_list 70 = .ok (.getfield 32, 3) := by decide +kernel
theorem dX5_list_73 : decode cX5_list 73 = .ok (.iload_n 3, 1) := by decide +kernel
theorem dX5_list_74 : decode cX5_list 74 = .ok (.iaload, 1) := by decide +kernel
theorem dX5_list_75 : decode cX5_list 75 = .ok (.if_icmp .ge 65, 3) := by decide +kernel
theorem dX5_list_78 : decode cX5_list 78 = .ok (.aload_n 0, 1) := by decide +kernel
theorem dX5_list_79 : decode cX5_list 79 = .ok (.getfield 41, 3) := by decide +kernel
theorem dX5_list_82 : decode cX5_list 82 = .ok (.sipush 200, 3) := by decide +kernel
theorem dX5_list_85 : decode cX5_list 85 = .ok (.iload_n 3, 1) := by decide +kernel
theorem dX5_list_86 : decode cX5_list 86 = .ok (.imul, 1) := by decide +kernel
theorem dX5_list_87 : decode cX5_list 87 = .ok (.iload 4, 2) := by decide +kernel
theorem dX5_list_89 : decode cX5_list 89 = .ok (.iadd, 1) := by decide +kernel
theorem dX5_list_90 : decode cX5_list 90 = .ok (.aload_n 0, 1) := by decide +kernel
theorem dX5_list_91 : decode cX5_list 91 = .ok (.getfield 41, 3) := by decide +kernel
theorem dX5_list_94 : decode cX5_list 94 = .ok (.sipush 200, 3) := by decide +kernel
theorem dX5_list_97 : decode cX5_list 97 = .ok (.iload_n 3, 1) := by decide +kernel
theorem dX5_list_98 : decode cX5_list 98 = .ok (.imul, 1) := by decide +kernel
theorem dX5_list_99 : decode cX5_list 99 = .ok (.iload 4, 2) := by decide +kernel
theorem dX5_list_101 : decode cX5_list 101 = .ok (.iadd, 1) := by decide +kernel
theorem dX5_list_102 : decode cX5_list 102 = .ok (.iconst 1, 1) := by decide +kernel
theorem dX5_list_103 : decode cX5_list 103 = .ok (.iadd, 1) := by decide +kernel
theorem dX5_list_104 : decode cX5_list 104 = .ok (.iaload, 1) := by decide +kernel
theorem dX5_list_105 : decode cX5_list 105 = .ok (.iastore, 1) := by decide +kernel
theorem dX5_list_106 : decode cX5_list 106 = .ok (.aload_n 0, 1) := by decide +kernel
theorem dX5_list_107 : decode cX5_list 107 = .ok (.getfield 44, 3) := by decide +kernel
theorem dX5_list_110 : decode cX5_list 110 = .ok (.sipush 200, 3) := by decide +kernel
theorem dX5_list_113 : decode cX5_list 113 = .ok (.iload_n 3, 1) := by decide +kernel
theorem dX5_list_114 : decode cX5_list 114 = .ok (.imul, 1) := by decide +kernel
theorem dX5_list_115 : decode cX5_list 115 = .ok (.iload 4, 2) := by decide +kernel
theorem dX5_list_117 : decode cX5_list 117 = .ok (.iadd, 1) := by decide +kernel
theorem dX5_list_118 : decode cX5_list 118 = .ok (.aload_n 0, 1) := by decide +kernel
theorem dX5_list_119 : decode cX5_list 119 = .ok (.getfield 44, 3) := by decide +kernel
theorem dX5_list_122 : decode cX5_list 122 = .ok (.sipush 200, 3) := by decide +kernel
theorem dX5_list_125 : decode cX5_list 125 = .ok (.iload_n 3, 1) := by decide +kernel
theorem dX5_list_126 : decode cX5_list 126 = .ok (.imul, 1) := by decide +kernel
theorem dX5_list_127 : decode cX5_list 127 = .ok (.iload 4, 2) := by decide +kernel
theorem dX5_list_129 : decode cX5_list 129 = .ok (.iadd, 1) := by decide +kernel
theorem dX5_list_130 : decode cX5_list 130 = .ok (.iconst 1, 1) := by decide +kernel
theorem dX5_list_131 : decode cX5_list 131 = .ok (.iadd, 1) := by decide +kernel
theorem dX5_list_132 : decode cX5_list 132 = .ok (.laload, 1) := by decide +kernel
theorem dX5_list_133 : decode cX5_list 133 = .ok (.lastore, 1) := by decide +kernel
theorem dX5_list_134 : decode cX5_list 134 = .ok (.iinc 4 1, 3) := by decide +kernel
theorem dX5_list_137 : decode cX5_list 137 = .ok (.goto (-70), 3) := by decide +kernel
theorem dX5_list_140 : decode cX5_list 140 = .ok (.aload_n 0, 1) := by decide +kernel
theorem dX5_list_141 : decode cX5_list 141 = .ok (.dup, 1) := by decide +kernel
theorem dX5_list_142 : decode cX5_list 142 = .ok (.getfield 149, 3) := by decide +kernel
theorem dX5_list_145 : decode cX5_list 145 = .ok (.aload_n 0, 1) := by decide +kernel
theorem dX5_list_146 : decode cX5_list 146 = .ok (.getfield 118, 3) := by decide +kernel
theorem dX5_list_149 : decode cX5_list 149 = .ok (.ladd, 1) := by decide +kernel
theorem dX5_list_150 : decode cX5_list 150 = .ok (.putfield 149, 3) := by decide +kernel
theorem dX5_list_153 : decode cX5_list 153 = .ok (.iconst 0, 1) := by decide +kernel
theorem dX5_list_154 : decode cX5_list 154 = .ok (.istore 4, 2) := by decide +kernel
theorem dX5_list_156 : decode cX5_list 156 = .ok (.iload 4, 2) := by decide +kernel
theorem dX5_list_158 : decode cX5_list 158 = .ok (.aload_n 0, 1) := by decide +kernel
theorem dX5_list_159 : decode cX5_list 159 = .ok (.getfield 112, 3) := by decide +kernel
theorem dX5_list_162 : decode cX5_list 162 = .ok (.if_icmp .ge 31, 3) := by decide +kernel
theorem dX5_list_165 : decode cX5_list 165 = .ok (.aload_n 0, 1) := by decide +kernel
theorem dX5_list_166 : decode cX5_list 166 = .ok (.aload_n 0, 1) := by decide +kernel
theorem dX5_list_167 : decode cX5_list 167 = .ok (.getfield 115, 3) := by decide +kernel
theorem dX5_list_170 : decode cX5_list 170 = .ok (.aload_n 0, 1) := by decide +kernel
theorem dX5_list_171 : decode cX5_list 171 = .ok (.getfield 51, 3) := by decide +kernel
theorem dX5_list_174 : decode cX5_list 174 = .ok (.iload 4, 2) := by decide +kernel
theorem dX5_list_176 : decode cX5_list 176 = .ok (.iaload, 1) := by decide +kernel
theorem dX5_list_177 : decode cX5_list 177 = .ok (.aload_n 0, 1) := by decide +kernel
theorem dX5_list_178 : decode cX5_list 178 = .ok (.getfield 54, 3) := by decide +kernel
theorem dX5_list_181 : decode cX5_list 181 = .ok (.iload 4, 2) := by decide +kernel
theorem dX5_list_183 : decode cX5_list 183 = .ok (.laload, 1) := by decide +kernel
theorem dX5_list_184 : decode cX5_list 184 = .ok (.invokevirtual 154, 3) := by decide +kernel
theorem dX5_list_187 : decode cX5_list 187 = .ok (.iinc 4 1, 3) := by decide +kernel
theorem dX5_list_190 : decode cX5_list 190 = .ok (.goto (-34), 3) := by decide +kernel
theorem dX5_list_193 : decode cX5_list 193 = .ok (.iinc 2 1, 3) := by decide +kernel
theorem dX5_list_196 : decode cX5_list 196 = .ok (.aload_n 0, 1) := by decide +kernel
theorem dX5_list_197 : decode cX5_list 197 = .ok (.invokevirtual 171, 3) := by decide +kernel
theorem dX5_list_200 : decode cX5_list 200 = .ok (.istore_n 3, 1) := by decide +kernel
theorem dX5_list_201 : decode cX5_list 201 = .ok (.goto (-166), 3) := by decide +kernel
theorem dX5_list_204 : decode cX5_list 204 = .ok (.aload_n 0, 1) := by decide +kernel
theorem dX5_list_205 : decode cX5_list 205 = .ok (.dup, 1) := by decide +kernel
theorem dX5_list_206 : decode cX5_list 206 = .ok (.getfield 146, 3) := by decide +kernel
theorem dX5_list_209 : decode cX5_list 209 = .ok (.iload_n 2, 1) := by decide +kernel
theorem dX5_list_210 : decode cX5_list 210 = .ok (.iadd, 1) := by decide +kernel
theorem dX5_list_211 : decode cX5_list 211 = .ok (.putfield 146, 3) := by decide +kernel
theorem dX5_list_214 : decode cX5_list 214 = .ok (.iload_n 2, 1) := by decide +kernel
theorem dX5_list_215 : decode cX5_list 215 = .ok (.ireturn, 1) := by decide +kernel
theorem dX5_done_0 : decode cX5_done 0 = .ok (.aload_n 0, 1) := by decide +kernel
theorem dX5_done_1 : decode cX5_done 1 = .ok (.iconst 0, 1) := by decide +kernel
theorem dX5_done_2 : decode cX5_done 2 = .ok (.putfield 69, 3) := by decide +kernel
theorem dX5_done_5 : decode cX5_done 5 = .ok (.aload_n 0, 1) := by decide +kernel
theorem dX5_done_6 : decode cX5_done 6 = .ok (.getfield 82, 3) := by decide +kernel
theorem dX5_done_9 : decode cX5_done 9 = .ok (.ifCond .ne 6, 3) := by decide +kernel
theorem dX5_done_12 : decode cX5_done 12 = .ok (.bipush (-3), 2) := by decide +kernel
theorem dX5_done_14 : decode cX5_done 14 = .ok (.ireturn, 1) := by decide +kernel
theorem dX5_done_15 : decode cX5_done 15 = .ok (.aload_n 0, 1) := by decide +kernel
theorem dX5_done_16 : decode cX5_done 16 = .ok (.invokevirtual 171, 3) := by decide +kernel
theorem dX5_done_19 : decode cX5_done 19 = .ok (.istore_n 1, 1) := by decide +kernel
theorem dX5_done_20 : decode cX5_done 20 = .ok (.iload_n 1, 1) := by decide +kernel
theorem dX5_done_21 : decode cX5_done 21 = .ok (.bipush (-5), 2) := by decide +kernel
theorem dX5_done_23 : decode cX5_done 23 = .ok (.if_icmp .ne 7, 3) := by decide +kernel
theorem dX5_done_26 : decode cX5_done 26 = .ok (.iconst 1, 1) := by decide +kernel
theorem dX5_done_27 : decode cX5_done 27 = .ok (.goto 16, 3) := by decide +kernel
theorem dX5_done_30 : decode cX5_done 30 = .ok (.aload_n 0, 1) := by decide +kernel
theorem dX5_done_31 : decode cX5_done 31 = .ok (.iload_n 1, 1) := by decide +kernel
theorem dX5_done_32 : decode cX5_done 32 = .ok (.invokevirtual 175, 3) := by decide +kernel
theorem dX5_done_35 : decode cX5_done 35 = .ok (.ifCond .eq 7, 3) := by decide +kernel
theorem dX5_done_38 : decode cX5_done 38 = .ok (.iconst 0, 1) := by decide +kernel
theorem dX5_done_39 : decode cX5_done 39 = .ok (.goto 4, 3) := by decide +kernel
theorem dX5_done_42 : decode cX5_done 42 = .ok (.iconst 2, 1) := by decide +kernel
theorem dX5_done_43 : decode cX5_done 43 = .ok (.ireturn, 1) := by decide +kernel
theorem dX5_states_0 : decode cX5_states 0 = .ok (.aload_n 0, 1) := by decide +kernel
theorem dX5_states_1 : decode cX5_states 1 = .ok (.iconst 0, 1) := by decide +kernel
theorem dX5_states_2 : decode cX5_states 2 = .ok (.putfield 69, 3) := by decide +kernel
theorem dX5_states_5 : decode cX5_states 5 = .ok (.iload_n 1, 1) := by decide +kernel
theorem dX5_states_6 : decode cX5_states 6 = .ok (.iconst 0, 1) := by decide +kernel
theorem dX5_states_7 : decode cX5_states 7 = .ok (.aload_n 0, 1) := by decide +kernel
theorem dX5_states_8 : decode cX5_states 8 = .ok (.getfield 73, 3) := by decide +kernel
theorem dX5_states_11 : decode cX5_states 11 = .ok (.invokestatic 86, 3) := by decide +kernel
theorem dX5_states_14 : decode cX5_states 14 = .ok (.ifCond .eq 12, 3) := by decide +kernel
theorem dX5_states_17 : decode cX5_states 17 = .ok (.iload_n 2, 1) := by decide +kernel
theorem dX5_states_18 : decode cX5_states 18 = .ok (.iconst 0, 1) := by decide +kernel
theorem dX5_states_19 : decode cX5_states 19 = .ok (.iconst 2, 1) := by decide +kernel
theorem dX5_states_20 : decode cX5_states 20 = .ok (.invokestatic 86, 3) := by decide +kernel
theorem dX5_states_23 : decode cX5_states 23 = .ok (.ifCond .ne 5, 3) := by decide +kernel
theorem dX5_states_26 : decode cX5_states 26 = .ok (.iconst (-1), 1) := by decide +kernel
theorem dX5_states_27 : decode cX5_states 27 = .ok (.ireturn, 1) := by decide +kernel
theorem dX5_states_28 : decode cX5_states 28 = .ok (.aload_n 0, 1) := by decide +kernel
theorem dX5_states_29 : decode cX5_states 29 = .ok (.getfield 82, 3) := by decide +kernel
theorem dX5_states_32 : decode cX5_states 32 = .ok (.ifCond .ne 8, 3) := by decide +kernel
theorem dX5_states_35 : decode cX5_states 35 = .ok (.bipush (-3), 2) := by decide +kernel
theorem dX5_states_37 : decode cX5_states 37 = .ok (.goto 36, 3) := by decide +kernel
theorem dX5_states_40 : decode cX5_states 40 = .ok (.iload_n 2, 1) := by decide +kernel
theorem dX5_states_41 : decode cX5_states 41 = .ok (.ifCond .ne 12, 3) := by decide +kernel
theorem dX5_states_44 : decode cX5_states 44 = .ok (.aload_n 0, 1) := by decide +kernel
theorem dX5_states_45 : decode cX5_states 45 = .ok (.getfield 32, 3) := by decide +kernel
theorem dX5_states_48 : decode cX5_states 48 = .ok (.iload_n 1, 1) := by decide +kernel
theorem dX5_states_49 : decode cX5_states 49 = .ok (.iaload, 1) := by decide +kernel
theorem dX5_states_50 : decode cX5_states 50 = .ok (.goto 23, 3) := by decide +kernel
theorem dX5_states_53 : decode cX5_states 53 = .ok (.iload_n 2, 1) := by decide +kernel
theorem dX5_states_54 : decode cX5_states 54 = .ok (.iconst 1, 1) := by decide +kernel
theorem dX5_states_55 : decode cX5_states 55 = .ok (.if_icmp .ne 12, 3) := by decide +kernel
theorem dX5_states_58 : decode cX5_states 58 = .ok (.aload_n 0, 1) := by decide +kernel
theorem dX5_states_59 : decode cX5_states 59 = .ok (.getfield 35, 3) := by decide +kernel
theorem dX5_states_62 : decode cX5_states 62 = .ok (.iload_n 1, 1) := by decide +kernel
theorem dX5_states_63 : decode cX5_states 63 = .ok (.iaload, 1) := by decide +kernel
theorem dX5_states_64 : decode cX5_states 64 = .ok (.goto 9, 3) := by decide +kernel
theorem dX5_states_67 : decode cX5_states 67 = .ok (.aload_n 0, 1) := by decide +kernel
theorem dX5_states_68 : decode cX5_states 68 = .ok (.getfield 38, 3) := by decide +kernel
theorem dX5_states_71 : decode cX5_states 71 = .ok (.iload_n 1, 1) := by decide +kernel
theorem dX5_states_72 : decode cX5_states 72 = .ok (.iaload, 1) := by decide +kernel
theorem dX5_states_73 : decode cX5_states 73 = .ok (.ireturn, 1) := by decide +kernel
theorem dX5_code_0 : decode cX5_code 0 = .ok (.aload_n 0, 1) := by decide +kernel
theorem dX5_code_1 : decode cX5_code 1 = .ok (.iconst 0, 1) := by decide +kernel
theorem dX5_code_2 : decode cX5_code 2 = .ok (.putfield 69, 3) := by decide +kernel
theorem dX5_code_5 : decode cX5_code 5 = .ok (.iload_n 1, 1) := by decide +kernel
theorem dX5_code_6 : decode cX5_code 6 = .ok (.iconst 0, 1) := by decide +kernel
theorem dX5_code_7 : decode cX5_code 7 = .ok (.aload_n 0, 1) := by decide +kernel
theorem dX5_code_8 : decode cX5_code 8 = .ok (.getfield 73, 3) := by decide +kernel
theorem dX5_code_11 : decode cX5_code 11 = .ok (.invokestatic 86, 3) := by decide +kernel
theorem dX5_code_14 : decode cX5_code 14 = .ok (.ifCond .ne 5, 3) := by decide +kernel
theorem dX5_code_17 : decode cX5_code 17 = .ok (.iconst (-1), 1) := by decide +kernel
theorem dX5_code_18 : decode cX5_code 18 = .ok (.ireturn, 1) := by decide +kernel
theorem dX5_code_19 : decode cX5_code 19 = .ok (.aload_n 0, 1) := by decide +kernel
theorem dX5_code_20 : decode cX5_code 20 = .ok (.getfield 82, 3) := by decide +kernel
theorem dX5_code_23 : decode cX5_code 23 = .ok (.ifCond .ne 8, 3) := by decide +kernel
theorem dX5_code_26 : decode cX5_code 26 = .ok (.bipush (-3), 2) := by decide +kernel
theorem dX5_code_28 : decode cX5_code 28 = .ok (.goto 36, 3) := by decide +kernel
theorem dX5_code_31 : decode cX5_code 31 = .ok (.iload_n 2, 1) := by decide +kernel
theorem dX5_code_32 : decode cX5_code 32 = .ok (.iconst 0, 1) := by decide +kernel
theorem dX5_code_33 : decode cX5_code 33 = .ok (.aload_n 0, 1) := by decide +kernel
theorem dX5_code_34 : decode cX5_code 34 = .ok (.getfield 32, 3) := by decide +kernel
theorem dX5_code_37 : decode cX5_code 37 = .ok (.iload_n 1, 1) := by decide +kernel
theorem dX5_code_38 : decode cX5_code 38 = .ok (.iaload, 1) := by decide +kernel
theorem dX5_code_39 : decode cX5_code 39 = .ok (.iconst 1, 1) := by decide +kernel
theorem dX5_code_40 : decode cX5_code 40 = .ok (.isub, 1) := by decide +kernel
theorem dX5_code_41 : decode cX5_code 41 = .ok (.invokestatic 86, 3) := by decide +kernel
theorem dX5_code_44 : decode cX5_code 44 = .ok (.ifCond .eq 18, 3) := by decide +kernel
theorem dX5_code_47 : decode cX5_code 47 = .ok (.aload_n 0, 1) := by decide +kernel
theorem dX5_code_48 : decode cX5_code 48 = .ok (.getfield 41, 3) := by decide +kernel
theorem dX5_code_51 : decode cX5_code 51 = .ok (.sipush 200, 3) := by decide +kernel
theorem dX5_code_54 : decode cX5_code 54 = .ok (.iload_n 1, 1) := by decide +kernel
theorem dX5_code_55 : decode cX5_code 55 = .ok (.imul, 1) := by decide +kernel
theorem dX5_code_56 : decode cX5_code 56 = .ok (.iload_n 2, 1) := by decide +kernel
theorem dX5_code_57 : decode cX5_code 57 = .ok (.iadd, 1) := by decide +kernel
theorem dX5_code_58 : decode cX5_code 58 = .ok (.iaload, 1) := by decide +kernel
theorem dX5_code_59 : decode cX5_code 59 = .ok (.goto 5, 3) := by decide +kernel
theorem dX5_code_62 : decode cX5_code 62 = .ok (.bipush (-5), 2) := by decide +kernel
theorem dX5_code_64 : decode cX5_code 64 = .ok (.ireturn, 1) := by decide +kernel
theorem dX5_mass_0 : decode cX5_mass 0 = .ok (.aload_n 0, 1) := by decide +kernel
theorem dX5_mass_1 : decode cX5_mass 1 = .ok (.iconst 0, 1) := by decide +kernel
theorem dX5_mass_2 : decode cX5_mass 2 = .ok (.putfield 69, 3) := by decide +kernel
theorem dX5_mass_5 : decode cX5_mass 5 = .ok (.aload_n 0, 1) := by decide +kernel
theorem dX5_mass_6 : decode cX5_mass 6 = .ok (.getfield 82, 3) := by decide +kernel
theorem dX5_mass_9 : decode cX5_mass 9 = .ok (.ifCond .eq 46, 3) := by decide +kernel
theorem dX5_mass_12 : decode cX5_mass 12 = .ok (.iload_n 1, 1) := by decide +kernel
theorem dX5_mass_13 : decode cX5_mass 13 = .ok (.iconst 0, 1) := by decide +kernel
theorem dX5_mass_14 : decode cX5_mass 14 = .ok (.aload_n 0, 1) := by decide +kernel
theorem dX5_mass_15 : decode cX5_mass 15 = .ok (.getfield 73, 3) := by decide +kernel
theorem dX5_mass_18 : decode cX5_mass 18 = .ok (.invokestatic 86, 3) := by decide +kernel
theorem dX5_mass_21 : decode cX5_mass 21 = .ok (.ifCond .eq 34, 3) := by decide +kernel
theorem dX5_mass_24 : decode cX5_mass 24 = .ok (.iload_n 2, 1) := by decide +kernel
theorem dX5_mass_25 : decode cX5_mass 25 = .ok (.iconst 0, 1) := by decide +kernel
theorem dX5_mass_26 : decode cX5_mass 26 = .ok (.aload_n 0, 1) := by decide +kernel
theorem dX5_mass_27 : decode cX5_mass 27 = .ok (.getfield 32, 3) := by decide +kernel
theorem dX5_mass_30 : decode cX5_mass 30 = .ok (.iload_n 1, 1) := by decide +kernel
theorem dX5_mass_31 : decode cX5_mass 31 = .ok (.iaload, 1) := by decide +kernel
theorem dX5_mass_32 : decode cX5_mass 32 = .ok (.iconst 1, 1) := by decide +kernel
theorem dX5_mass_33 : decode cX5_mass 33 = .ok (.isub, 1) := by decide +kernel
theorem dX5_mass_34 : decode cX5_mass 34 = .ok (.invokestatic 86, 3) := by decide +kernel
theorem dX5_mass_37 : decode cX5_mass 37 = .ok (.ifCond .eq 18, 3) := by decide +kernel
theorem dX5_mass_40 : decode cX5_mass 40 = .ok (.aload_n 0, 1) := by decide +kernel
theorem dX5_mass_41 : decode cX5_mass 41 = .ok (.getfield 44, 3) := by decide +kernel
theorem dX5_mass_44 : decode cX5_mass 44 = .ok (.sipush 200, 3) := by decide +kernel
theorem dX5_mass_47 : decode cX5_mass 47 = .ok (.iload_n 1, 1) := by decide +kernel
theorem dX5_mass_48 : decode cX5_mass 48 = .ok (.imul, 1) := by decide +kernel
theorem dX5_mass_49 : decode cX5_mass 49 = .ok (.iload_n 2, 1) := by decide +kernel
theorem dX5_mass_50 : decode cX5_mass 50 = .ok (.iadd, 1) := by decide +kernel
theorem dX5_mass_51 : decode cX5_mass 51 = .ok (.laload, 1) := by decide +kernel
theorem dX5_mass_52 : decode cX5_mass 52 = .ok (.goto 4, 3) := by decide +kernel
theorem dX5_mass_55 : decode cX5_mass 55 = .ok (.lconst 0, 1) := by decide +kernel
theorem dX5_mass_56 : decode cX5_mass 56 = .ok (.lreturn, 1) := by decide +kernel
theorem dX5_sumAt_0 : decode cX5_sumAt 0 = .ok (.lconst 0, 1) := by decide +kernel
theorem dX5_sumAt_1 : decode cX5_sumAt 1 = .ok (.lstore 4, 2) := by decide +kernel
theorem dX5_sumAt_3 : decode cX5_sumAt 3 = .ok (.iconst 0, 1) := by decide +kernel
theorem dX5_sumAt_4 : decode cX5_sumAt 4 = .ok (.istore 6, 2) := by decide +kernel
theorem dX5_sumAt_6 : decode cX5_sumAt 6 = .ok (.iload 6, 2) := by decide +kernel
theorem dX5_sumAt_8 : decode cX5_sumAt 8 = .ok (.aload_n 0, 1) := by decide +kernel
theorem dX5_sumAt_9 : decode cX5_sumAt 9 = .ok (.getfield 32, 3) := by decide +kernel
theorem dX5_sumAt_12 : decode cX5_sumAt 12 = .ok (.iload_n 1, 1) := by decide +kernel
theorem dX5_sumAt_13 : decode cX5_sumAt 13 = .ok (.iaload, 1) := by decide +kernel
theorem dX5_sumAt_14 : decode cX5_sumAt 14 = .ok (.if_icmp .ge 56, 3) := by decide +kernel
theorem dX5_sumAt_17 : decode cX5_sumAt 17 = .ok (.lload 4, 2) := by decide +kernel
theorem dX5_sumAt_19 : decode cX5_sumAt 19 = .ok (.iload_n 2, 1) := by decide +kernel
theorem dX5_sumAt_20 : decode cX5_sumAt 20 = .ok (.ifCond .lt 24, 3) := by decide +kernel
theorem dX5_sumAt_23 : decode cX5_sumAt 23 = .ok (.aload_n 0, 1) := by decide +kernel
theorem dX5_sumAt_24 : decode cX5_sumAt 24 = .ok (.getfield 41, 3) := by decide +kernel
theorem dX5_sumAt_27 : decode cX5_sumAt 27 = .ok (.sipush 200, 3) := by decide +kernel
theorem dX5_sumAt_30 : decode cX5_sumAt 30 = .ok (.iload_n 1, 1) := by decide +kernel
theorem dX5_sumAt_31 : decode cX5_sumAt 31 = .ok (.imul, 1) := by decide +kernel
theorem dX5_sumAt_32 : decode cX5_sumAt 32 = .ok (.iload 6, 2) := by decide +kernel
theorem dX5_sumAt_34 : decode cX5_sumAt 34 = .ok (.iadd, 1) := by decide +kernel
theorem dX5_sumAt_35 : decode cX5_sumAt 35 = .ok (.iaload, 1) := by decide +kernel
theorem dX5_sumAt_36 : decode cX5_sumAt 36 = .ok (.iload_n 2, 1) := by decide +kernel
theorem dX5_sumAt_37 : decode cX5_sumAt 37 = .ok (.invokestatic 108, 3) := by decide +kernel
theorem dX5_sumAt_40 : decode cX5_sumAt 40 = .ok (.iload_n 3, 1) := by decide +kernel
theorem dX5_sumAt_41 : decode cX5_sumAt 41 = .ok (.if_icmp .ne 19, 3) := by decide +kernel
theorem dX5_sumAt_44 : decode cX5_sumAt 44 = .ok (.aload_n 0, 1) := by decide +kernel
theorem dX5_sumAt_45 : decode cX5_sumAt 45 = .ok (.getfield 44, 3) := by decide +kernel
theorem dX5_sumAt_48 : decode cX5_sumAt 48 = .ok (.sipush 200, 3) := by decide +kernel
theorem dX5_sumAt_51 : decode cX5_sumAt 51 = .ok (.iload_n 1, 1) := by decide +kernel
theorem dX5_sumAt_52 : decode cX5_sumAt 52 = .ok (.imul, 1) := by decide +kernel
theorem dX5_sumAt_53 : decode cX5_sumAt 53 = .ok (.iload 6, 2) := by decide +kernel
theorem dX5_sumAt_55 : decode cX5_sumAt 55 = .ok (.iadd, 1) := by decide +kernel
theorem dX5_sumAt_56 : decode cX5_sumAt 56 = .ok (.laload, 1) := by decide +kernel
theorem dX5_sumAt_57 : decode cX5_sumAt 57 = .ok (.goto 4, 3) := by decide +kernel
theorem dX5_sumAt_60 : decode cX5_sumAt 60 = .ok (.lconst 0, 1) := by decide +kernel
theorem dX5_sumAt_61 : decode cX5_sumAt 61 = .ok (.ladd, 1) := by decide +kernel
theorem dX5_sumAt_62 : decode cX5_sumAt 62 = .ok (.lstore 4, 2) := by decide +kernel
theorem dX5_sumAt_64 : decode cX5_sumAt 64 = .ok (.iinc 6 1, 3) := by decide +kernel
theorem dX5_sumAt_67 : decode cX5_sumAt 67 = .ok (.goto (-61), 3) := by decide +kernel
theorem dX5_sumAt_70 : decode cX5_sumAt 70 = .ok (.lload 4, 2) := by decide +kernel
theorem dX5_sumAt_72 : decode cX5_sumAt 72 = .ok (.lreturn, 1) := by decide +kernel
theorem dX5_sum_0 : decode cX5_sum 0 = .ok (.aload_n 0, 1) := by decide +kernel
theorem dX5_sum_1 : decode cX5_sum 1 = .ok (.iconst 0, 1) := by decide +kernel
theorem dX5_sum_2 : decode cX5_sum 2 = .ok (.putfield 69, 3) := by decide +kernel
theorem dX5_sum_5 : decode cX5_sum 5 = .ok (.iload_n 1, 1) := by decide +kernel
theorem dX5_sum_6 : decode cX5_sum 6 = .ok (.iconst 0, 1) := by decide +kernel
theorem dX5_sum_7 : decode cX5_sum 7 = .ok (.iconst 2, 1) := by decide +kernel
theorem dX5_sum_8 : decode cX5_sum 8 = .ok (.invokestatic 86, 3) := by decide +kernel
theorem dX5_sum_11 : decode cX5_sum 11 = .ok (.ifCond .eq 36, 3) := by decide +kernel
theorem dX5_sum_14 : decode cX5_sum 14 = .ok (.iload_n 2, 1) := by decide +kernel
theorem dX5_sum_15 : decode cX5_sum 15 = .ok (.iconst (-1), 1) := by decide +kernel
theorem dX5_sum_16 : decode cX5_sum 16 = .ok (.iconst 5, 1) := by decide +kernel
theorem dX5_sum_17 : decode cX5_sum 17 = .ok (.invokestatic 86, 3) := by decide +kernel
theorem dX5_sum_20 : decode cX5_sum 20 = .ok (.ifCond .eq 27, 3) := by decide +kernel
theorem dX5_sum_23 : decode cX5_sum 23 = .ok (.iload_n 1, 1) := by decide +kernel
theorem dX5_sum_24 : decode cX5_sum 24 = .ok (.iconst 1, 1) := by decide +kernel
theorem dX5_sum_25 : decode cX5_sum 25 = .ok (.if_icmp .ne 8, 3) := by decide +kernel
theorem dX5_sum_28 : decode cX5_sum 28 = .ok (.iload_n 2, 1) := by decide +kernel
theorem dX5_sum_29 : decode cX5_sum 29 = .ok (.iconst (-1), 1) := by decide +kernel
theorem dX5_sum_30 : decode cX5_sum 30 = .ok (.if_icmp .ne 17, 3) := by decide +kernel
theorem dX5_sum_33 : decode cX5_sum 33 = .ok (.iload_n 2, 1) := by decide +kernel
theorem dX5_sum_34 : decode cX5_sum 34 = .ok (.ifCond .lt 17, 3) := by decide +kernel
theorem dX5_sum_37 : decode cX5_sum 37 = .ok (.iload_n 3, 1) := by decide +kernel
theorem dX5_sum_38 : decode cX5_sum 38 = .ok (.iconst 0, 1) := by decide +kernel
theorem dX5_sum_39 : decode cX5_sum 39 = .ok (.bipush 9, 2) := by decide +kernel
theorem dX5_sum_41 : decode cX5_sum 41 = .ok (.invokestatic 86, 3) := by decide +kernel
theorem dX5_sum_44 : decode cX5_sum 44 = .ok (.ifCond .ne 7, 3) := by decide +kernel
theorem dX5_sum_47 : decode cX5_sum 47 = .ok (.ldc2_w 178, 3) := by decide +kernel
theorem dX5_sum_50 : decode cX5_sum 50 = .ok (.lreturn, 1) := by decide +kernel
theorem dX5_sum_51 : decode cX5_sum 51 = .ok (.aload_n 0, 1) := by decide +kernel
theorem dX5_sum_52 : decode cX5_sum 52 = .ok (.getfield 82, 3) := by decide +kernel
theorem dX5_sum_55 : decode cX5_sum 55 = .ok (.ifCond .ne 7, 3) := by decide +kernel
theorem dX5_sum_58 : decode cX5_sum 58 = .ok (.ldc2_w 180, 3) := by decide +kernel
theorem dX5_sum_61 : decode cX5_sum 61 = .ok (.lreturn, 1) := by decide +kernel
theorem dX5_sum_62 : decode cX5_sum 62 = .ok (.iload_n 1, 1) := by decide +kernel
theorem dX5_sum_63 : decode cX5_sum 63 = .ok (.iconst 1, 1) := by decide +kernel
theorem dX5_sum_64 : decode cX5_sum 64 = .ok (.if_icmp .ne 8, 3) := by decide +kernel
theorem dX5_sum_67 : decode cX5_sum 67 = .ok (.aload_n 0, 1) := by decide +kernel
theorem dX5_sum_68 : decode cX5_sum 68 = .ok (.getfield 149, 3) := by decide +kernel
theorem dX5_sum_71 : decode cX5_sum 71 = .ok (.lreturn, 1) := by decide +kernel
theorem dX5_sum_72 : decode cX5_sum 72 = .ok (.iload_n 1, 1) := by decide +kernel
theorem dX5_sum_73 : decode cX5_sum 73 = .ok (.ifCond .ne 14, 3) := by decide +kernel
theorem dX5_sum_76 : decode cX5_sum 76 = .ok (.aload_n 0, 1) := by decide +kernel
theorem dX5_sum_77 : decode cX5_sum 77 = .ok (.aload_n 0, 1) := by decide +kernel
theorem dX5_sum_78 : decode cX5_sum 78 = .ok (.getfield 73, 3) := by decide +kernel
theorem dX5_sum_81 : decode cX5_sum 81 = .ok (.iload_n 2, 1) := by decide +kernel
theorem dX5_sum_82 : decode cX5_sum 82 = .ok (.iload_n 3, 1) := by decide +kernel
theorem dX5_sum_83 : decode cX5_sum 83 = .ok (.invokevirtual 182, 3) := by decide +kernel
theorem dX5_sum_86 : decode cX5_sum 86 = .ok (.lreturn, 1) := by decide +kernel
theorem dX5_sum_87 : decode cX5_sum 87 = .ok (.lconst 0, 1) := by decide +kernel
theorem dX5_sum_88 : decode cX5_sum 88 = .ok (.lstore 4, 2) := by decide +kernel
theorem dX5_sum_90 : decode cX5_sum 90 = .ok (.iconst 0, 1) := by decide +kernel
theorem dX5_sum_91 : decode cX5_sum 91 = .ok (.istore 6, 2) := by decide +kernel
theorem dX5_sum_93 : decode cX5_sum 93 = .ok (.iload 6, 2) := by decide +kernel
theorem dX5_sum_95 : decode cX5_sum 95 = .ok (.aload_n 0, 1) := by decide +kernel
theorem dX5_sum_96 : decode cX5_sum 96 = .ok (.getfield 73, 3) := by decide +kernel
theorem dX5_sum_99 : decode cX5_sum 99 = .ok (.if_icmp .ge 22, 3) := by decide +kernel
theorem dX5_sum_102 : decode cX5_sum 102 = .ok (.lload 4, 2) := by decide +kernel
theorem dX5_sum_104 : decode cX5_sum 104 = .ok (.aload_n 0, 1) := by decide +kernel
theorem dX5_sum_105 : decode cX5_sum 105 = .ok (.iload 6, 2) := by decide +kernel
theorem dX5_sum_107 : decode cX5_sum 107 = .ok (.iload_n 2, 1) := by decide +kernel
theorem dX5_sum_108 : decode cX5_sum 108 = .ok (.iload_n 3, 1) := by decide +kernel
theorem dX5_sum_109 : decode cX5_sum 109 = .ok (.invokevirtual 182, 3) := by decide +kernel
theorem dX5_sum_112 : decode cX5_sum 112 = .ok (.ladd, 1) := by decide +kernel
theorem dX5_sum_113 : decode cX5_sum 113 = .ok (.lstore 4, 2) := by decide +kernel
theorem dX5_sum_115 : decode cX5_sum 115 = .ok (.iinc 6 1, 3) := by decide +kernel
theorem dX5_sum_118 : decode cX5_sum 118 = .ok (.goto (-25), 3) := by decide +kernel
theorem dX5_sum_121 : decode cX5_sum 121 = .ok (.lload 4, 2) := by decide +kernel
theorem dX5_sum_123 : decode cX5_sum 123 = .ok (.lreturn, 1) := by decide +kernel
theorem dX5_odds_0 : decode cX5_odds 0 = .ok (.aload_n 0, 1) := by decide +kernel
theorem dX5_odds_1 : decode cX5_odds 1 = .ok (.iconst 0, 1) := by decide +kernel
theorem dX5_odds_2 : decode cX5_odds 2 = .ok (.putfield 69, 3) := by decide +kernel
theorem dX5_odds_5 : decode cX5_odds 5 = .ok (.iload_n 1, 1) := by decide +kernel
theorem dX5_odds_6 : decode cX5_odds 6 = .ok (.iconst 0, 1) := by decide +kernel
theorem dX5_odds_7 : decode cX5_odds 7 = .ok (.iconst 5, 1) := by decide +kernel
theorem dX5_odds_8 : decode cX5_odds 8 = .ok (.invokestatic 86, 3) := by decide +kernel
theorem dX5_odds_11 : decode cX5_odds 11 = .ok (.ifCond .eq 31, 3) := by decide +kernel
theorem dX5_odds_14 : decode cX5_odds 14 = .ok (.iload_n 2, 1) := by decide +kernel
theorem dX5_odds_15 : decode cX5_odds 15 = .ok (.iconst 0, 1) := by decide +kernel
theorem dX5_odds_16 : decode cX5_odds 16 = .ok (.bipush 9, 2) := by decide +kernel
theorem dX5_odds_18 : decode cX5_odds 18 = .ok (.invokestatic 86, 3) := by decide +kernel
theorem dX5_odds_21 : decode cX5_odds 21 = .ok (.ifCond .eq 21, 3) := by decide +kernel
theorem dX5_odds_24 : decode cX5_odds 24 = .ok (.iload_n 3, 1) := by decide +kernel
theorem dX5_odds_25 : decode cX5_odds 25 = .ok (.iconst 0, 1) := by decide +kernel
theorem dX5_odds_26 : decode cX5_odds 26 = .ok (.iconst 1, 1) := by decide +kernel
theorem dX5_odds_27 : decode cX5_odds 27 = .ok (.invokestatic 86, 3) := by decide +kernel
theorem dX5_odds_30 : decode cX5_odds 30 = .ok (.ifCond .eq 12, 3) := by decide +kernel
theorem dX5_odds_33 : decode cX5_odds 33 = .ok (.aload_n 0, 1) := by decide +kernel
theorem dX5_odds_34 : decode cX5_odds 34 = .ok (.getfield 28, 3) := by decide +kernel
theorem dX5_odds_37 : decode cX5_odds 37 = .ok (.iload_n 1, 1) := by decide +kernel
theorem dX5_odds_38 : decode cX5_odds 38 = .ok (.baload, 1) := by decide +kernel
theorem dX5_odds_39 : decode cX5_odds 39 = .ok (.ifCond .ne 7, 3) := by decide +kernel
theorem dX5_odds_42 : decode cX5_odds 42 = .ok (.ldc2_w 178, 3) := by decide +kernel
theorem dX5_odds_45 : decode cX5_odds 45 = .ok (.lreturn, 1) := by decide +kernel
theorem dX5_odds_46 : decode cX5_odds 46 = .ok (.aload_n 0, 1) := by decide +kernel
theorem dX5_odds_47 : decode cX5_odds 47 = .ok (.getfield 82, 3) := by decide +kernel
theorem dX5_odds_50 : decode cX5_odds 50 = .ok (.ifCond .eq 12, 3) := by decide +kernel
theorem dX5_odds_53 : decode cX5_odds 53 = .ok (.aload_n 0, 1) := by decide +kernel
theorem dX5_odds_54 : decode cX5_odds 54 = .ok (.invokevirtual 171, 3) := by decide +kernel
theorem dX5_odds_57 : decode cX5_odds 57 = .ok (.bipush (-5), 2) := by decide +kernel
theorem dX5_odds_59 : decode cX5_odds 59 = .ok (.if_icmp .eq 7, 3) := by decide +kernel
theorem dX5_odds_62 : decode cX5_odds 62 = .ok (.ldc2_w 180, 3) := by decide +kernel
theorem dX5_odds_65 : decode cX5_odds 65 = .ok (.lreturn, 1) := by decide +kernel
theorem dX5_odds_66 : decode cX5_odds 66 = .ok (.aload_n 0, 1) := by decide +kernel
theorem dX5_odds_67 : decode cX5_odds 67 = .ok (.aload_n 0, 1) := by decide +kernel
theorem dX5_odds_68 : decode cX5_odds 68 = .ok (.getfield 73, 3) := by decide +kernel
theorem dX5_odds_71 : decode cX5_odds 71 = .ok (.iconst (-1), 1) := by decide +kernel
theorem dX5_odds_72 : decode cX5_odds 72 = .ok (.iconst 0, 1) := by decide +kernel
theorem dX5_odds_73 : decode cX5_odds 73 = .ok (.invokevirtual 182, 3) := by decide +kernel
theorem dX5_odds_76 : decode cX5_odds 76 = .ok (.lstore 4, 2) := by decide +kernel
theorem dX5_odds_78 : decode cX5_odds 78 = .ok (.lload 4, 2) := by decide +kernel
theorem dX5_odds_80 : decode cX5_odds 80 = .ok (.lconst 0, 1) := by decide +kernel
theorem dX5_odds_81 : decode cX5_odds 81 = .ok (.lcmp, 1) := by decide +kernel
theorem dX5_odds_82 : decode cX5_odds 82 = .ok (.ifCond .ne 10, 3) := by decide +kernel
theorem dX5_odds_85 : decode cX5_odds 85 = .ok (.aload_n 0, 1) := by decide +kernel
theorem dX5_odds_86 : decode cX5_odds 86 = .ok (.iconst 1, 1) := by decide +kernel
theorem dX5_odds_87 : decode cX5_odds 87 = .ok (.putfield 69, 3) := by decide +kernel
theorem dX5_odds_90 : decode cX5_odds 90 = .ok (.lconst 0, 1) := by decide +kernel
theorem dX5_odds_91 : decode cX5_odds 91 = .ok (.lreturn, 1) := by decide +kernel
theorem dX5_odds_92 : decode cX5_odds 92 = .ok (.aload_n 0, 1) := by decide +kernel
theorem dX5_odds_93 : decode cX5_odds 93 = .ok (.aload_n 0, 1) := by decide +kernel
theorem dX5_odds_94 : decode cX5_odds 94 = .ok (.getfield 73, 3) := by decide +kernel
theorem dX5_odds_97 : decode cX5_odds 97 = .ok (.iload_n 1, 1) := by decide +kernel
theorem dX5_odds_98 : decode cX5_odds 98 = .ok (.iload_n 2, 1) := by decide +kernel
theorem dX5_odds_99 : decode cX5_odds 99 = .ok (.invokevirtual 182, 3) := by decide +kernel
theorem dX5_odds_102 : decode cX5_odds 102 = .ok (.lstore 6, 2) := by decide +kernel
theorem dX5_odds_104 : decode cX5_odds 104 = .ok (.lload 4, 2) := by decide +kernel
theorem dX5_odds_106 : decode cX5_odds 106 = .ok (.lstore 8, 2) := by decide +kernel
theorem dX5_odds_108 : decode cX5_odds 108 = .ok (.lload 6, 2) := by decide +kernel
theorem dX5_odds_110 : decode cX5_odds 110 = .ok (.lstore 10, 2) := by decide +kernel
theorem dX5_odds_112 : decode cX5_odds 112 = .ok (.lload 10, 2) := by decide +kernel
theorem dX5_odds_114 : decode cX5_odds 114 = .ok (.lconst 0, 1) := by decide +kernel
theorem dX5_odds_115 : decode cX5_odds 115 = .ok (.lcmp, 1) := by decide +kernel
theorem dX5_odds_116 : decode cX5_odds 116 = .ok (.ifCond .eq 21, 3) := by decide +kernel
theorem dX5_odds_119 : decode cX5_odds 119 = .ok (.lload 8, 2) := by decide +kernel
theorem dX5_odds_121 : decode cX5_odds 121 = .ok (.lload 10, 2) := by decide +kernel
theorem dX5_odds_123 : decode cX5_odds 123 = .ok (.lrem, 1) := by decide +kernel
theorem dX5_odds_124 : decode cX5_odds 124 = .ok (.lstore 12, 2) := by decide +kernel
theorem dX5_odds_126 : decode cX5_odds 126 = .ok (.lload 10, 2) := by decide +kernel
theorem dX5_odds_128 : decode cX5_odds 128 = .ok (.lstore 8, 2) := by decide +kernel
theorem dX5_odds_130 : decode cX5_odds 130 = .ok (.lload 12, 2) := by decide +kernel
theorem dX5_odds_132 : decode cX5_odds 132 = .ok (.lstore 10, 2) := by decide +kernel
theorem dX5_odds_134 : decode cX5_odds 134 = .ok (.goto (-22), 3) := by decide +kernel
theorem dX5_odds_137 : decode cX5_odds 137 = .ok (.iload_n 3, 1) := by decide +kernel
theorem dX5_odds_138 : decode cX5_odds 138 = .ok (.ifCond .ne 8, 3) := by decide +kernel
theorem dX5_odds_141 : decode cX5_odds 141 = .ok (.lload 6, 2) := by decide +kernel
theorem dX5_odds_143 : decode cX5_odds 143 = .ok (.goto 5, 3) := by decide +kernel
theorem dX5_odds_146 : decode cX5_odds 146 = .ok (.lload 4, 2) := by decide +kernel
theorem dX5_odds_148 : decode cX5_odds 148 = .ok (.lload 8, 2) := by decide +kernel
theorem dX5_odds_150 : decode cX5_odds 150 = .ok (.ldiv, 1) := by decide +kernel
theorem dX5_odds_151 : decode cX5_odds 151 = .ok (.lreturn, 1) := by decide +kernel
theorem dX5_lay_0 : decode cX5_lay 0 = .ok (.aload_n 0, 1) := by decide +kernel
theorem dX5_lay_1 : decode cX5_lay 1 = .ok (.getfield 57, 3) := by decide +kernel
theorem dX5_lay_4 : decode cX5_lay 4 = .ok (.aload_n 0, 1) := by decide +kernel
theorem dX5_lay_5 : decode cX5_lay 5 = .ok (.getfield 186, 3) := by decide +kernel
theorem dX5_lay_8 : decode cX5_lay 8 = .ok (.iload_n 1, 1) := by decide +kernel
theorem dX5_lay_9 : decode cX5_lay 9 = .ok (.iastore, 1) := by decide +kernel
theorem dX5_lay_10 : decode cX5_lay 10 = .ok (.aload_n 0, 1) := by decide +kernel
theorem dX5_lay_11 : decode cX5_lay 11 = .ok (.getfield 60, 3) := by decide +kernel
theorem dX5_lay_14 : decode cX5_lay 14 = .ok (.aload_n 0, 1) := by decide +kernel
theorem dX5_lay_15 : decode cX5_lay 15 = .ok (.getfield 186, 3) := by decide +kernel
theorem dX5_lay_18 : decode cX5_lay 18 = .ok (.iload_n 2, 1) := by decide +kernel
theorem dX5_lay_19 : decode cX5_lay 19 = .ok (.iastore, 1) := by decide +kernel
theorem dX5_lay_20 : decode cX5_lay 20 = .ok (.aload_n 0, 1) := by decide +kernel
theorem dX5_lay_21 : decode cX5_lay 21 = .ok (.getfield 63, 3) := by decide +kernel
theorem dX5_lay_24 : decode cX5_lay 24 = .ok (.aload_n 0, 1) := by decide +kernel
end
section
theorem dX5_lay_25 : decode cX5_lay 25 = .ok (.getfield 186, 3) := by decide +kernel
theorem dX5_lay_28 : decode cX5_lay 28 = .ok (.lload_n 3, 1) := by decide +kernel
theorem dX5_lay_29 : decode cX5_lay 29 = .ok (.lastore, 1) := by decide +kernel
theorem dX5_lay_30 : decode cX5_lay 30 = .ok (.aload_n 0, 1) := by decide +kernel
theorem dX5_lay_31 : decode cX5_lay 31 = .ok (.dup, 1) := by decide +kernel
theorem dX5_lay_32 : decode cX5_lay 32 = .ok (.getfield 186, 3) := by decide +kernel
theorem dX5_lay_35 : decode cX5_lay 35 = .ok (.iconst 1, 1) := by decide +kernel
theorem dX5_lay_36 : decode cX5_lay 36 = .ok (.iadd, 1) := by decide +kernel
theorem dX5_lay_37 : decode cX5_lay 37 = .ok (.putfield 186, 3) := by decide +kernel
theorem dX5_lay_40 : decode cX5_lay 40 = .ok (.return_, 1) := by decide +kernel
theorem dX5_listed_0 : decode cX5_listed 0 = .ok (.aload_n 0, 1) := by decide +kernel
theorem dX5_listed_1 : decode cX5_listed 1 = .ok (.lconst 0, 1) := by decide +kernel
theorem dX5_listed_2 : decode cX5_listed 2 = .ok (.putfield 189, 3) := by decide +kernel
theorem dX5_listed_5 : decode cX5_listed 5 = .ok (.aload_n 0, 1) := by decide +kernel
theorem dX5_listed_6 : decode cX5_listed 6 = .ok (.iconst 0, 1) := by decide +kernel
theorem dX5_listed_7 : decode cX5_listed 7 = .ok (.putfield 186, 3) := by decide +kernel
theorem dX5_listed_10 : decode cX5_listed 10 = .ok (.iconst 0, 1) := by decide +kernel
theorem dX5_listed_11 : decode cX5_listed 11 = .ok (.istore_n 3, 1) := by decide +kernel
theorem dX5_listed_12 : decode cX5_listed 12 = .ok (.aload_n 0, 1) := by decide +kernel
theorem dX5_listed_13 : decode cX5_listed 13 = .ok (.iconst 0, 1) := by decide +kernel
theorem dX5_listed_14 : decode cX5_listed 14 = .ok (.iconst 0, 1) := by decide +kernel
theorem dX5_listed_15 : decode cX5_listed 15 = .ok (.ldc2_w 152, 3) := by decide +kernel
theorem dX5_listed_18 : decode cX5_listed 18 = .ok (.invokevirtual 192, 3) := by decide +kernel
theorem dX5_listed_21 : decode cX5_listed 21 = .ok (.aload_n 0, 1) := by decide +kernel
theorem dX5_listed_22 : decode cX5_listed 22 = .ok (.getfield 186, 3) := by decide +kernel
theorem dX5_listed_25 : decode cX5_listed 25 = .ok (.ifCond .le 169, 3) := by decide +kernel
theorem dX5_listed_28 : decode cX5_listed 28 = .ok (.aload_n 0, 1) := by decide +kernel
theorem dX5_listed_29 : decode cX5_listed 29 = .ok (.dup, 1) := by decide +kernel
theorem dX5_listed_30 : decode cX5_listed 30 = .ok (.getfield 186, 3) := by decide +kernel
theorem dX5_listed_33 : decode cX5_listed 33 = .ok (.iconst 1, 1) := by decide +kernel
theorem dX5_listed_34 : decode cX5_listed 34 = .ok (.isub, 1) := by decide +kernel
theorem dX5_listed_35 : decode cX5_listed 35 = .ok (.putfield 186, 3) := by decide +kernel
theorem dX5_listed_38 : decode cX5_listed 38 = .ok (.aload_n 0, 1) := by decide +kernel
theorem dX5_listed_39 : decode cX5_listed 39 = .ok (.getfield 57, 3) := by decide +kernel
theorem dX5_listed_42 : decode cX5_listed 42 = .ok (.aload_n 0, 1) := by decide +kernel
theorem dX5_listed_43 : decode cX5_listed 43 = .ok (.getfield 186, 3) := by decide +kernel
theorem dX5_listed_46 : decode cX5_listed 46 = .ok (.iaload, 1) := by decide +kernel
theorem dX5_listed_47 : decode cX5_listed 47 = .ok (.istore 4, 2) := by decide +kernel
theorem dX5_listed_49 : decode cX5_listed 49 = .ok (.aload_n 0, 1) := by decide +kernel
theorem dX5_listed_50 : decode cX5_listed 50 = .ok (.getfield 60, 3) := by decide +kernel
theorem dX5_listed_53 : decode cX5_listed 53 = .ok (.aload_n 0, 1) := by decide +kernel
theorem dX5_listed_54 : decode cX5_listed 54 = .ok (.getfield 186, 3) := by decide +kernel
theorem dX5_listed_57 : decode cX5_listed 57 = .ok (.iaload, 1) := by decide +kernel
theorem dX5_listed_58 : decode cX5_listed 58 = .ok (.istore 5, 2) := by decide +kernel
theorem dX5_listed_60 : decode cX5_listed 60 = .ok (.aload_n 0, 1) := by decide +kernel
theorem dX5_listed_61 : decode cX5_listed 61 = .ok (.getfield 63, 3) := by decide +kernel
theorem dX5_listed_64 : decode cX5_listed 64 = .ok (.aload_n 0, 1) := by decide +kernel
theorem dX5_listed_65 : decode cX5_listed 65 = .ok (.getfield 186, 3) := by decide +kernel
theorem dX5_listed_68 : decode cX5_listed 68 = .ok (.laload, 1) := by decide +kernel
theorem dX5_listed_69 : decode cX5_listed 69 = .ok (.lstore 6, 2) := by decide +kernel
theorem dX5_listed_71 : decode cX5_listed 71 = .ok (.iload 4, 2) := by decide +kernel
theorem dX5_listed_73 : decode cX5_listed 73 = .ok (.aload_n 0, 1) := by decide +kernel
theorem dX5_listed_74 : decode cX5_listed 74 = .ok (.getfield 73, 3) := by decide +kernel
theorem dX5_listed_77 : decode cX5_listed 77 = .ok (.if_icmp .ne 38, 3) := by decide +kernel
theorem dX5_listed_80 : decode cX5_listed 80 = .ok (.aload_n 0, 1) := by decide +kernel
theorem dX5_listed_81 : decode cX5_listed 81 = .ok (.dup, 1) := by decide +kernel
theorem dX5_listed_82 : decode cX5_listed 82 = .ok (.getfield 189, 3) := by decide +kernel
theorem dX5_listed_85 : decode cX5_listed 85 = .ok (.iload_n 1, 1) := by decide +kernel
theorem dX5_listed_86 : decode cX5_listed 86 = .ok (.ifCond .lt 13, 3) := by decide +kernel
theorem dX5_listed_89 : decode cX5_listed 89 = .ok (.iload 5, 2) := by decide +kernel
theorem dX5_listed_91 : decode cX5_listed 91 = .ok (.iload_n 1, 1) := by decide +kernel
theorem dX5_listed_92 : decode cX5_listed 92 = .ok (.invokestatic 108, 3) := by decide +kernel
theorem dX5_listed_95 : decode cX5_listed 95 = .ok (.iload_n 2, 1) := by decide +kernel
theorem dX5_listed_96 : decode cX5_listed 96 = .ok (.if_icmp .ne 8, 3) := by decide +kernel
theorem dX5_listed_99 : decode cX5_listed 99 = .ok (.lload 6, 2) := by decide +kernel
theorem dX5_listed_101 : decode cX5_listed 101 = .ok (.goto 4, 3) := by decide +kernel
theorem dX5_listed_104 : decode cX5_listed 104 = .ok (.lconst 0, 1) := by decide +kernel
theorem dX5_listed_105 : decode cX5_listed 105 = .ok (.ladd, 1) := by decide +kernel
theorem dX5_listed_106 : decode cX5_listed 106 = .ok (.putfield 189, 3) := by decide +kernel
theorem dX5_listed_109 : decode cX5_listed 109 = .ok (.iinc 3 1, 3) := by decide +kernel
theorem dX5_listed_112 : decode cX5_listed 112 = .ok (.goto 69, 3) := by decide +kernel
theorem dX5_listed_115 : decode cX5_listed 115 = .ok (.aload_n 0, 1) := by decide +kernel
theorem dX5_listed_116 : decode cX5_listed 116 = .ok (.iload 4, 2) := by decide +kernel
theorem dX5_listed_118 : decode cX5_listed 118 = .ok (.iload 5, 2) := by decide +kernel
theorem dX5_listed_120 : decode cX5_listed 120 = .ok (.lload 6, 2) := by decide +kernel
theorem dX5_listed_122 : decode cX5_listed 122 = .ok (.invokevirtual 165, 3) := by decide +kernel
theorem dX5_listed_125 : decode cX5_listed 125 = .ok (.iload_n 3, 1) := by decide +kernel
theorem dX5_listed_126 : decode cX5_listed 126 = .ok (.aload_n 0, 1) := by decide +kernel
theorem dX5_listed_127 : decode cX5_listed 127 = .ok (.getfield 112, 3) := by decide +kernel
theorem dX5_listed_130 : decode cX5_listed 130 = .ok (.ifCond .ne 7, 3) := by decide +kernel
theorem dX5_listed_133 : decode cX5_listed 133 = .ok (.iconst 1, 1) := by decide +kernel
theorem dX5_listed_134 : decode cX5_listed 134 = .ok (.goto 4, 3) := by decide +kernel
theorem dX5_listed_137 : decode cX5_listed 137 = .ok (.iconst 0, 1) := by decide +kernel
theorem dX5_listed_138 : decode cX5_listed 138 = .ok (.iadd, 1) := by decide +kernel
theorem dX5_listed_139 : decode cX5_listed 139 = .ok (.istore_n 3, 1) := by decide +kernel
theorem dX5_listed_140 : decode cX5_listed 140 = .ok (.aload_n 0, 1) := by decide +kernel
theorem dX5_listed_141 : decode cX5_listed 141 = .ok (.getfield 112, 3) := by decide +kernel
theorem dX5_listed_144 : decode cX5_listed 144 = .ok (.iconst 1, 1) := by decide +kernel
theorem dX5_listed_145 : decode cX5_listed 145 = .ok (.isub, 1) := by decide +kernel
theorem dX5_listed_146 : decode cX5_listed 146 = .ok (.istore 8, 2) := by decide +kernel
theorem dX5_listed_148 : decode cX5_listed 148 = .ok (.iload 8, 2) := by decide +kernel
theorem dX5_listed_150 : decode cX5_listed 150 = .ok (.ifCond .lt 31, 3) := by decide +kernel
theorem dX5_listed_153 : decode cX5_listed 153 = .ok (.aload_n 0, 1) := by decide +kernel
theorem dX5_listed_154 : decode cX5_listed 154 = .ok (.aload_n 0, 1) := by decide +kernel
theorem dX5_listed_155 : decode cX5_listed 155 = .ok (.getfield 115, 3) := by decide +kernel
theorem dX5_listed_158 : decode cX5_listed 158 = .ok (.aload_n 0, 1) := by decide +kernel
theorem dX5_listed_159 : decode cX5_listed 159 = .ok (.getfield 51, 3) := by decide +kernel
theorem dX5_listed_162 : decode cX5_listed 162 = .ok (.iload 8, 2) := by decide +kernel
theorem dX5_listed_164 : decode cX5_listed 164 = .ok (.iaload, 1) := by decide +kernel
theorem dX5_listed_165 : decode cX5_listed 165 = .ok (.aload_n 0, 1) := by decide +kernel
theorem dX5_listed_166 : decode cX5_listed 166 = .ok (.getfield 54, 3) := by decide +kernel
theorem dX5_listed_169 : decode cX5_listed 169 = .ok (.iload 8, 2) := by decide +kernel
theorem dX5_listed_171 : decode cX5_listed 171 = .ok (.laload, 1) := by decide +kernel
theorem dX5_listed_172 : decode cX5_listed 172 = .ok (.invokevirtual 192, 3) := by decide +kernel
theorem dX5_listed_175 : decode cX5_listed 175 = .ok (.iinc 8 (-1), 3) := by decide +kernel
theorem dX5_listed_178 : decode cX5_listed 178 = .ok (.goto (-30), 3) := by decide +kernel
theorem dX5_listed_181 : decode cX5_listed 181 = .ok (.iload_n 3, 1) := by decide +kernel
theorem dX5_listed_182 : decode cX5_listed 182 = .ok (.sipush 20000, 3) := by decide +kernel
theorem dX5_listed_185 : decode cX5_listed 185 = .ok (.if_icmp .le 6, 3) := by decide +kernel
theorem dX5_listed_188 : decode cX5_listed 188 = .ok (.bipush (-2), 2) := by decide +kernel
theorem dX5_listed_190 : decode cX5_listed 190 = .ok (.ireturn, 1) := by decide +kernel
theorem dX5_listed_191 : decode cX5_listed 191 = .ok (.goto (-170), 3) := by decide +kernel
theorem dX5_listed_194 : decode cX5_listed 194 = .ok (.iload_n 3, 1) := by decide +kernel
theorem dX5_listed_195 : decode cX5_listed 195 = .ok (.ireturn, 1) := by decide +kernel
theorem dX5_runs_0 : decode cX5_runs 0 = .ok (.aload_n 0, 1) := by decide +kernel
theorem dX5_runs_1 : decode cX5_runs 1 = .ok (.iconst 0, 1) := by decide +kernel
theorem dX5_runs_2 : decode cX5_runs 2 = .ok (.putfield 69, 3) := by decide +kernel
theorem dX5_runs_5 : decode cX5_runs 5 = .ok (.aload_n 0, 1) := by decide +kernel
theorem dX5_runs_6 : decode cX5_runs 6 = .ok (.invokevirtual 142, 3) := by decide +kernel
theorem dX5_runs_9 : decode cX5_runs 9 = .ok (.ifCond .eq 8, 3) := by decide +kernel
theorem dX5_runs_12 : decode cX5_runs 12 = .ok (.bipush (-4), 2) := by decide +kernel
theorem dX5_runs_14 : decode cX5_runs 14 = .ok (.goto 9, 3) := by decide +kernel
theorem dX5_runs_17 : decode cX5_runs 17 = .ok (.aload_n 0, 1) := by decide +kernel
theorem dX5_runs_18 : decode cX5_runs 18 = .ok (.iconst (-1), 1) := by decide +kernel
theorem dX5_runs_19 : decode cX5_runs 19 = .ok (.iconst 0, 1) := by decide +kernel
theorem dX5_runs_20 : decode cX5_runs 20 = .ok (.invokevirtual 195, 3) := by decide +kernel
theorem dX5_runs_23 : decode cX5_runs 23 = .ok (.ireturn, 1) := by decide +kernel
theorem dX5_plain_0 : decode cX5_plain 0 = .ok (.aload_n 0, 1) := by decide +kernel
theorem dX5_plain_1 : decode cX5_plain 1 = .ok (.iconst 0, 1) := by decide +kernel
theorem dX5_plain_2 : decode cX5_plain 2 = .ok (.putfield 69, 3) := by decide +kernel
theorem dX5_plain_5 : decode cX5_plain 5 = .ok (.iload_n 1, 1) := by decide +kernel
theorem dX5_plain_6 : decode cX5_plain 6 = .ok (.iconst (-1), 1) := by decide +kernel
theorem dX5_plain_7 : decode cX5_plain 7 = .ok (.iconst 5, 1) := by decide +kernel
theorem dX5_plain_8 : decode cX5_plain 8 = .ok (.invokestatic 86, 3) := by decide +kernel
theorem dX5_plain_11 : decode cX5_plain 11 = .ok (.ifCond .eq 17, 3) := by decide +kernel
theorem dX5_plain_14 : decode cX5_plain 14 = .ok (.iload_n 1, 1) := by decide +kernel
theorem dX5_plain_15 : decode cX5_plain 15 = .ok (.ifCond .lt 17, 3) := by decide +kernel
theorem dX5_plain_18 : decode cX5_plain 18 = .ok (.iload_n 2, 1) := by decide +kernel
theorem dX5_plain_19 : decode cX5_plain 19 = .ok (.iconst 0, 1) := by decide +kernel
theorem dX5_plain_20 : decode cX5_plain 20 = .ok (.bipush 9, 2) := by decide +kernel
theorem dX5_plain_22 : decode cX5_plain 22 = .ok (.invokestatic 86, 3) := by decide +kernel
theorem dX5_plain_25 : decode cX5_plain 25 = .ok (.ifCond .ne 7, 3) := by decide +kernel
theorem dX5_plain_28 : decode cX5_plain 28 = .ok (.ldc2_w 178, 3) := by decide +kernel
theorem dX5_plain_31 : decode cX5_plain 31 = .ok (.lreturn, 1) := by decide +kernel
theorem dX5_plain_32 : decode cX5_plain 32 = .ok (.aload_n 0, 1) := by decide +kernel
theorem dX5_plain_33 : decode cX5_plain 33 = .ok (.invokevirtual 142, 3) := by decide +kernel
theorem dX5_plain_36 : decode cX5_plain 36 = .ok (.ifCond .eq 7, 3) := by decide +kernel
theorem dX5_plain_39 : decode cX5_plain 39 = .ok (.ldc2_w 198, 3) := by decide +kernel
theorem dX5_plain_42 : decode cX5_plain 42 = .ok (.lreturn, 1) := by decide +kernel
theorem dX5_plain_43 : decode cX5_plain 43 = .ok (.aload_n 0, 1) := by decide +kernel
theorem dX5_plain_44 : decode cX5_plain 44 = .ok (.iload_n 1, 1) := by decide +kernel
theorem dX5_plain_45 : decode cX5_plain 45 = .ok (.iload_n 2, 1) := by decide +kernel
theorem dX5_plain_46 : decode cX5_plain 46 = .ok (.invokevirtual 195, 3) := by decide +kernel
theorem dX5_plain_49 : decode cX5_plain 49 = .ok (.bipush (-2), 2) := by decide +kernel
theorem dX5_plain_51 : decode cX5_plain 51 = .ok (.if_icmp .ne 9, 3) := by decide +kernel
theorem dX5_plain_54 : decode cX5_plain 54 = .ok (.ldc2_w 200, 3) := by decide +kernel
theorem dX5_plain_57 : decode cX5_plain 57 = .ok (.goto 7, 3) := by decide +kernel
theorem dX5_plain_60 : decode cX5_plain 60 = .ok (.aload_n 0, 1) := by decide +kernel
theorem dX5_plain_61 : decode cX5_plain 61 = .ok (.getfield 189, 3) := by decide +kernel
theorem dX5_plain_64 : decode cX5_plain 64 = .ok (.lreturn, 1) := by decide +kernel
theorem dX5_count_0 : decode cX5_count 0 = .ok (.aload_n 0, 1) := by decide +kernel
theorem dX5_count_1 : decode cX5_count 1 = .ok (.iconst 0, 1) := by decide +kernel
theorem dX5_count_2 : decode cX5_count 2 = .ok (.putfield 69, 3) := by decide +kernel
theorem dX5_count_5 : decode cX5_count 5 = .ok (.iload_n 1, 1) := by decide +kernel
theorem dX5_count_6 : decode cX5_count 6 = .ok (.ifCond .ne 10, 3) := by decide +kernel
theorem dX5_count_9 : decode cX5_count 9 = .ok (.aload_n 0, 1) := by decide +kernel
theorem dX5_count_10 : decode cX5_count 10 = .ok (.getfield 73, 3) := by decide +kernel
theorem dX5_count_13 : decode cX5_count 13 = .ok (.goto 51, 3) := by decide +kernel
theorem dX5_count_16 : decode cX5_count 16 = .ok (.iload_n 1, 1) := by decide +kernel
theorem dX5_count_17 : decode cX5_count 17 = .ok (.iconst 1, 1) := by decide +kernel
theorem dX5_count_18 : decode cX5_count 18 = .ok (.if_icmp .ne 10, 3) := by decide +kernel
theorem dX5_count_21 : decode cX5_count 21 = .ok (.aload_n 0, 1) := by decide +kernel
theorem dX5_count_22 : decode cX5_count 22 = .ok (.getfield 76, 3) := by decide +kernel
theorem dX5_count_25 : decode cX5_count 25 = .ok (.goto 39, 3) := by decide +kernel
theorem dX5_count_28 : decode cX5_count 28 = .ok (.iload_n 1, 1) := by decide +kernel
theorem dX5_count_29 : decode cX5_count 29 = .ok (.iconst 2, 1) := by decide +kernel
theorem dX5_count_30 : decode cX5_count 30 = .ok (.if_icmp .ne 10, 3) := by decide +kernel
theorem dX5_count_33 : decode cX5_count 33 = .ok (.aload_n 0, 1) := by decide +kernel
theorem dX5_count_34 : decode cX5_count 34 = .ok (.getfield 79, 3) := by decide +kernel
theorem dX5_count_37 : decode cX5_count 37 = .ok (.goto 27, 3) := by decide +kernel
theorem dX5_count_40 : decode cX5_count 40 = .ok (.iload_n 1, 1) := by decide +kernel
theorem dX5_count_41 : decode cX5_count 41 = .ok (.iconst 3, 1) := by decide +kernel
theorem dX5_count_42 : decode cX5_count 42 = .ok (.if_icmp .ne 21, 3) := by decide +kernel
theorem dX5_count_45 : decode cX5_count 45 = .ok (.aload_n 0, 1) := by decide +kernel
theorem dX5_count_46 : decode cX5_count 46 = .ok (.getfield 82, 3) := by decide +kernel
theorem dX5_count_49 : decode cX5_count 49 = .ok (.ifCond .eq 10, 3) := by decide +kernel
theorem dX5_count_52 : decode cX5_count 52 = .ok (.aload_n 0, 1) := by decide +kernel
theorem dX5_count_53 : decode cX5_count 53 = .ok (.getfield 146, 3) := by decide +kernel
theorem dX5_count_56 : decode cX5_count 56 = .ok (.goto 8, 3) := by decide +kernel
theorem dX5_count_59 : decode cX5_count 59 = .ok (.iconst 0, 1) := by decide +kernel
theorem dX5_count_60 : decode cX5_count 60 = .ok (.goto 4, 3) := by decide +kernel
theorem dX5_count_63 : decode cX5_count 63 = .ok (.iconst (-1), 1) := by decide +kernel
theorem dX5_count_64 : decode cX5_count 64 = .ok (.ireturn, 1) := by decide +kernel
theorem dX5_clear_0 : decode cX5_clear 0 = .ok (.aload_n 0, 1) := by decide +kernel
theorem dX5_clear_1 : decode cX5_clear 1 = .ok (.iconst 0, 1) := by decide +kernel
theorem dX5_clear_2 : decode cX5_clear 2 = .ok (.putfield 69, 3) := by decide +kernel
theorem dX5_clear_5 : decode cX5_clear 5 = .ok (.aload_n 0, 1) := by decide +kernel
theorem dX5_clear_6 : decode cX5_clear 6 = .ok (.getfield 73, 3) := by decide +kernel
theorem dX5_clear_9 : decode cX5_clear 9 = .ok (.istore_n 1, 1) := by decide +kernel
theorem dX5_clear_10 : decode cX5_clear 10 = .ok (.aload_n 0, 1) := by decide +kernel
theorem dX5_clear_11 : decode cX5_clear 11 = .ok (.invokevirtual 66, 3) := by decide +kernel
theorem dX5_clear_14 : decode cX5_clear 14 = .ok (.iload_n 1, 1) := by decide +kernel
theorem dX5_clear_15 : decode cX5_clear 15 = .ok (.ireturn, 1) := by decide +kernel
theorem dJ9_max_7cf53_0 : decode cJ9_max_7cf53 0 = .ok (.iload_n 0, 1) := by decide +kernel
theorem dJ9_max_7cf53_1 : decode cJ9_max_7cf53 1 = .ok (.iload_n 1, 1) := by decide +kernel
theorem dJ9_max_7cf53_2 : decode cJ9_max_7cf53 2 = .ok (.if_icmp .lt 7, 3) := by decide +kernel
theorem dJ9_max_7cf53_5 : decode cJ9_max_7cf53 5 = .ok (.iload_n 0, 1) := by decide +kernel
theorem dJ9_max_7cf53_6 : decode cJ9_max_7cf53 6 = .ok (.goto 4, 3) := by decide +kernel
theorem dJ9_max_7cf53_9 : decode cJ9_max_7cf53 9 = .ok (.iload_n 1, 1) := by decide +kernel
theorem dJ9_max_7cf53_10 : decode cJ9_max_7cf53 10 = .ok (.ireturn, 1) := by decide +kernel
theorem dJ9_min_7cf53_0 : decode cJ9_min_7cf53 0 = .ok (.iload_n 0, 1) := by decide +kernel
theorem dJ9_min_7cf53_1 : decode cJ9_min_7cf53 1 = .ok (.iload_n 1, 1) := by decide +kernel
theorem dJ9_min_7cf53_2 : decode cJ9_min_7cf53 2 = .ok (.if_icmp .gt 7, 3) := by decide +kernel
theorem dJ9_min_7cf53_5 : decode cJ9_min_7cf53 5 = .ok (.iload_n 0, 1) := by decide +kernel
theorem dJ9_min_7cf53_6 : decode cJ9_min_7cf53 6 = .ok (.goto 4, 3) := by decide +kernel
theorem dJ9_min_7cf53_9 : decode cJ9_min_7cf53 9 = .ok (.iload_n 1, 1) := by decide +kernel
theorem dJ9_min_7cf53_10 : decode cJ9_min_7cf53 10 = .ok (.ireturn, 1) := by decide +kernel
theorem dL_odds_0 : decode cL_odds 0 = .ok (.aload 4, 2) := by decide +kernel
theorem dL_odds_2 : decode cL_odds 2 = .ok (.iconst 0, 1) := by decide +kernel
theorem dL_odds_3 : decode cL_odds 3 = .ok (.aload_n 0, 1) := by decide +kernel
theorem dL_odds_4 : decode cL_odds 4 = .ok (.iload_n 1, 1) := by decide +kernel
theorem dL_odds_5 : decode cL_odds 5 = .ok (.iload_n 2, 1) := by decide +kernel
theorem dL_odds_6 : decode cL_odds 6 = .ok (.iload_n 3, 1) := by decide +kernel
theorem dL_odds_7 : decode cL_odds 7 = .ok (.invokevirtual 7, 3) := by decide +kernel
theorem dL_odds_10 : decode cL_odds 10 = .ok (.lastore, 1) := by decide +kernel
theorem dL_odds_11 : decode cL_odds 11 = .ok (.goto 7, 3) := by decide +kernel
theorem dL_odds_14 : decode cL_odds 14 = .ok (.astore 5, 2) := by decide +kernel
theorem dL_odds_16 : decode cL_odds 16 = .ok (.iconst 1, 1) := by decide +kernel
theorem dL_odds_17 : decode cL_odds 17 = .ok (.ireturn, 1) := by decide +kernel
theorem dL_odds_18 : decode cL_odds 18 = .ok (.iconst 0, 1) := by decide +kernel
theorem dL_odds_19 : decode cL_odds 19 = .ok (.ireturn, 1) := by decide +kernel
theorem dL_law_0 : decode cL_law 0 = .ok (.new 8, 3) := by decide +kernel
theorem dL_law_3 : decode cL_law 3 = .ok (.dup, 1) := by decide +kernel
theorem dL_law_4 : decode cL_law 4 = .ok (.invokespecial 15, 3) := by decide +kernel
theorem dL_law_7 : decode cL_law 7 = .ok (.astore_n 1, 1) := by decide +kernel
theorem dL_law_8 : decode cL_law 8 = .ok (.new 16, 3) := by decide +kernel
theorem dL_law_11 : decode cL_law 11 = .ok (.dup, 1) := by decide +kernel
theorem dL_law_12 : decode cL_law 12 = .ok (.invokespecial 18, 3) := by decide +kernel
theorem dL_law_15 : decode cL_law 15 = .ok (.astore_n 2, 1) := by decide +kernel
theorem dL_law_16 : decode cL_law 16 = .ok (.iconst 1, 1) := by decide +kernel
theorem dL_law_17 : decode cL_law 17 = .ok (.newarray .long, 2) := by decide +kernel
theorem dL_law_19 : decode cL_law 19 = .ok (.astore_n 3, 1) := by decide +kernel
theorem dL_law_20 : decode cL_law 20 = .ok (.iconst 0, 1) := by decide +kernel
theorem dL_law_21 : decode cL_law 21 = .ok (.istore 4, 2) := by decide +kernel
theorem dL_law_23 : decode cL_law 23 = .ok (.iload 4, 2) := by decide +kernel
theorem dL_law_25 : decode cL_law 25 = .ok (.aload_n 0, 1) := by decide +kernel
theorem dL_law_26 : decode cL_law 26 = .ok (.arraylength, 1) := by decide +kernel
theorem dL_law_27 : decode cL_law 27 = .ok (.iconst 5, 1) := by decide +kernel
theorem dL_law_28 : decode cL_law 28 = .ok (.isub, 1) := by decide +kernel
theorem dL_law_29 : decode cL_law 29 = .ok (.if_icmp .gt 843, 3) := by decide +kernel
theorem dL_law_32 : decode cL_law 32 = .ok (.aload_n 0, 1) := by decide +kernel
theorem dL_law_33 : decode cL_law 33 = .ok (.iload 4, 2) := by decide +kernel
theorem dL_law_35 : decode cL_law 35 = .ok (.iaload, 1) := by decide +kernel
theorem dL_law_36 : decode cL_law 36 = .ok (.bipush 31, 2) := by decide +kernel
theorem dL_law_38 : decode cL_law 38 = .ok (.iand, 1) := by decide +kernel
theorem dL_law_39 : decode cL_law 39 = .ok (.tableswitch 827 0 20 #[97, 146, 183, 244, 293, 318, 355, 368, 421, 446, 459, 484, 497, 534, 571, 609, 659, 738, 751, 789, 814], 97) := by decide +kernel
theorem dL_law_136 : decode cL_law 136 = .ok (.aload_n 1, 1) := by decide +kernel
theorem dL_law_137 : decode cL_law 137 = .ok (.aload_n 0, 1) := by decide +kernel
theorem dL_law_138 : decode cL_law 138 = .ok (.iload 4, 2) := by decide +kernel
theorem dL_law_140 : decode cL_law 140 = .ok (.iconst 1, 1) := by decide +kernel
theorem dL_law_141 : decode cL_law 141 = .ok (.iadd, 1) := by decide +kernel
theorem dL_law_142 : decode cL_law 142 = .ok (.iaload, 1) := by decide +kernel
theorem dL_law_143 : decode cL_law 143 = .ok (.aload_n 0, 1) := by decide +kernel
theorem dL_law_144 : decode cL_law 144 = .ok (.iload 4, 2) := by decide +kernel
theorem dL_law_146 : decode cL_law 146 = .ok (.iconst 2, 1) := by decide +kernel
theorem dL_law_147 : decode cL_law 147 = .ok (.iadd, 1) := by decide +kernel
theorem dL_law_148 : decode cL_law 148 = .ok (.iaload, 1) := by decide +kernel
theorem dL_law_149 : decode cL_law 149 = .ok (.aload_n 0, 1) := by decide +kernel
theorem dL_law_150 : decode cL_law 150 = .ok (.iload 4, 2) := by decide +kernel
theorem dL_law_152 : decode cL_law 152 = .ok (.iconst 3, 1) := by decide +kernel
theorem dL_law_153 : decode cL_law 153 = .ok (.iadd, 1) := by decide +kernel
theorem dL_law_154 : decode cL_law 154 = .ok (.iaload, 1) := by decide +kernel
theorem dL_law_155 : decode cL_law 155 = .ok (.invokevirtual 19, 3) := by decide +kernel
theorem dL_law_158 : decode cL_law 158 = .ok (.aload_n 2, 1) := by decide +kernel
theorem dL_law_159 : decode cL_law 159 = .ok (.aload_n 0, 1) := by decide +kernel
theorem dL_law_160 : decode cL_law 160 = .ok (.iload 4, 2) := by decide +kernel
theorem dL_law_162 : decode cL_law 162 = .ok (.iconst 1, 1) := by decide +kernel
theorem dL_law_163 : decode cL_law 163 = .ok (.iadd, 1) := by decide +kernel
theorem dL_law_164 : decode cL_law 164 = .ok (.iaload, 1) := by decide +kernel
theorem dL_law_165 : decode cL_law 165 = .ok (.aload_n 0, 1) := by decide +kernel
theorem dL_law_166 : decode cL_law 166 = .ok (.iload 4, 2) := by decide +kernel
theorem dL_law_168 : decode cL_law 168 = .ok (.iconst 2, 1) := by decide +kernel
theorem dL_law_169 : decode cL_law 169 = .ok (.iadd, 1) := by decide +kernel
theorem dL_law_170 : decode cL_law 170 = .ok (.iaload, 1) := by decide +kernel
theorem dL_law_171 : decode cL_law 171 = .ok (.aload_n 0, 1) := by decide +kernel
theorem dL_law_172 : decode cL_law 172 = .ok (.iload 4, 2) := by decide +kernel
theorem dL_law_174 : decode cL_law 174 = .ok (.iconst 3, 1) := by decide +kernel
theorem dL_law_175 : decode cL_law 175 = .ok (.iadd, 1) := by decide +kernel
theorem dL_law_176 : decode cL_law 176 = .ok (.iaload, 1) := by decide +kernel
theorem dL_law_177 : decode cL_law 177 = .ok (.invokevirtual 23, 3) := by decide +kernel
theorem dL_law_180 : decode cL_law 180 = .ok (.if_icmp .eq 686, 3) := by decide +kernel
theorem dL_law_183 : decode cL_law 183 = .ok (.iconst 0, 1) := by decide +kernel
theorem dL_law_184 : decode cL_law 184 = .ok (.ireturn, 1) := by decide +kernel
theorem dL_law_185 : decode cL_law 185 = .ok (.aload_n 1, 1) := by decide +kernel
theorem dL_law_186 : decode cL_law 186 = .ok (.aload_n 0, 1) := by decide +kernel
theorem dL_law_187 : decode cL_law 187 = .ok (.iload 4, 2) := by decide +kernel
theorem dL_law_189 : decode cL_law 189 = .ok (.iconst 1, 1) := by decide +kernel
theorem dL_law_190 : decode cL_law 190 = .ok (.iadd, 1) := by decide +kernel
theorem dL_law_191 : decode cL_law 191 = .ok (.iaload, 1) := by decide +kernel
theorem dL_law_192 : decode cL_law 192 = .ok (.aload_n 0, 1) := by decide +kernel
theorem dL_law_193 : decode cL_law 193 = .ok (.iload 4, 2) := by decide +kernel
theorem dL_law_195 : decode cL_law 195 = .ok (.iconst 2, 1) := by decide +kernel
theorem dL_law_196 : decode cL_law 196 = .ok (.iadd, 1) := by decide +kernel
theorem dL_law_197 : decode cL_law 197 = .ok (.iaload, 1) := by decide +kernel
theorem dL_law_198 : decode cL_law 198 = .ok (.invokevirtual 24, 3) := by decide +kernel
theorem dL_law_201 : decode cL_law 201 = .ok (.aload_n 2, 1) := by decide +kernel
theorem dL_law_202 : decode cL_law 202 = .ok (.aload_n 0, 1) := by decide +kernel
theorem dL_law_203 : decode cL_law 203 = .ok (.iload 4, 2) := by decide +kernel
theorem dL_law_205 : decode cL_law 205 = .ok (.iconst 1, 1) := by decide +kernel
theorem dL_law_206 : decode cL_law 206 = .ok (.iadd, 1) := by decide +kernel
theorem dL_law_207 : decode cL_law 207 = .ok (.iaload, 1) := by decide +kernel
theorem dL_law_208 : decode cL_law 208 = .ok (.aload_n 0, 1) := by decide +kernel
theorem dL_law_209 : decode cL_law 209 = .ok (.iload 4, 2) := by decide +kernel
theorem dL_law_211 : decode cL_law 211 = .ok (.iconst 2, 1) := by decide +kernel
theorem dL_law_212 : decode cL_law 212 = .ok (.iadd, 1) := by decide +kernel
theorem dL_law_213 : decode cL_law 213 = .ok (.iaload, 1) := by decide +kernel
theorem dL_law_214 : decode cL_law 214 = .ok (.invokevirtual 28, 3) := by decide +kernel
theorem dL_law_217 : decode cL_law 217 = .ok (.if_icmp .eq 649, 3) := by decide +kernel
theorem dL_law_220 : decode cL_law 220 = .ok (.iconst 0, 1) := by decide +kernel
theorem dL_law_221 : decode cL_law 221 = .ok (.ireturn, 1) := by decide +kernel
theorem dL_law_222 : decode cL_law 222 = .ok (.aload_n 1, 1) := by decide +kernel
theorem dL_law_223 : decode cL_law 223 = .ok (.aload_n 0, 1) := by decide +kernel
theorem dL_law_224 : decode cL_law 224 = .ok (.iload 4, 2) := by decide +kernel
theorem dL_law_226 : decode cL_law 226 = .ok (.iconst 1, 1) := by decide +kernel
theorem dL_law_227 : decode cL_law 227 = .ok (.iadd, 1) := by decide +kernel
theorem dL_law_228 : decode cL_law 228 = .ok (.iaload, 1) := by decide +kernel
theorem dL_law_229 : decode cL_law 229 = .ok (.aload_n 0, 1) := by decide +kernel
theorem dL_law_230 : decode cL_law 230 = .ok (.iload 4, 2) := by decide +kernel
theorem dL_law_232 : decode cL_law 232 = .ok (.iconst 2, 1) := by decide +kernel
theorem dL_law_233 : decode cL_law 233 = .ok (.iadd, 1) := by decide +kernel
theorem dL_law_234 : decode cL_law 234 = .ok (.iaload, 1) := by decide +kernel
theorem dL_law_235 : decode cL_law 235 = .ok (.aload_n 0, 1) := by decide +kernel
theorem dL_law_236 : decode cL_law 236 = .ok (.iload 4, 2) := by decide +kernel
theorem dL_law_238 : decode cL_law 238 = .ok (.iconst 3, 1) := by decide +kernel
theorem dL_law_239 : decode cL_law 239 = .ok (.iadd, 1) := by decide +kernel
theorem dL_law_240 : decode cL_law 240 = .ok (.iaload, 1) := by decide +kernel
theorem dL_law_241 : decode cL_law 241 = .ok (.aload_n 0, 1) := by decide +kernel
theorem dL_law_242 : decode cL_law 242 = .ok (.iload 4, 2) := by decide +kernel
theorem dL_law_244 : decode cL_law 244 = .ok (.iconst 4, 1) := by decide +kernel
theorem dL_law_245 : decode cL_law 245 = .ok (.iadd, 1) := by decide +kernel
theorem dL_law_246 : decode cL_law 246 = .ok (.iaload, 1) := by decide +kernel
theorem dL_law_247 : decode cL_law 247 = .ok (.invokevirtual 29, 3) := by decide +kernel
theorem dL_law_250 : decode cL_law 250 = .ok (.aload_n 2, 1) := by decide +kernel
theorem dL_law_251 : decode cL_law 251 = .ok (.aload_n 0, 1) := by decide +kernel
theorem dL_law_252 : decode cL_law 252 = .ok (.iload 4, 2) := by decide +kernel
theorem dL_law_254 : decode cL_law 254 = .ok (.iconst 1, 1) := by decide +kernel
theorem dL_law_255 : decode cL_law 255 = .ok (.iadd, 1) := by decide +kernel
theorem dL_law_256 : decode cL_law 256 = .ok (.iaload, 1) := by decide +kernel
theorem dL_law_257 : decode cL_law 257 = .ok (.aload_n 0, 1) := by decide +kernel
theorem dL_law_258 : decode cL_law 258 = .ok (.iload 4, 2) := by decide +kernel
theorem dL_law_260 : decode cL_law 260 = .ok (.iconst 2, 1) := by decide +kernel
theorem dL_law_261 : decode cL_law 261 = .ok (.iadd, 1) := by decide +kernel
theorem dL_law_262 : decode cL_law 262 = .ok (.iaload, 1) := by decide +kernel
theorem dL_law_263 : decode cL_law 263 = .ok (.aload_n 0, 1) := by decide +kernel
theorem dL_law_264 : decode cL_law 264 = .ok (.iload 4, 2) := by decide +kernel
theorem dL_law_266 : decode cL_law 266 = .ok (.iconst 3, 1) := by decide +kernel
theorem dL_law_267 : decode cL_law 267 = .ok (.iadd, 1) := by decide +kernel
theorem dL_law_268 : decode cL_law 268 = .ok (.iaload, 1) := by decide +kernel
theorem dL_law_269 : decode cL_law 269 = .ok (.aload_n 0, 1) := by decide +kernel
theorem dL_law_270 : decode cL_law 270 = .ok (.iload 4, 2) := by decide +kernel
theorem dL_law_272 : decode cL_law 272 = .ok (.iconst 4, 1) := by decide +kernel
theorem dL_law_273 : decode cL_law 273 = .ok (.iadd, 1) := by decide +kernel
theorem dL_law_274 : decode cL_law 274 = .ok (.iaload, 1) := by decide +kernel
theorem dL_law_275 : decode cL_law 275 = .ok (.invokevirtual 33, 3) := by decide +kernel
theorem dL_law_278 : decode cL_law 278 = .ok (.if_icmp .eq 588, 3) := by decide +kernel
theorem dL_law_281 : decode cL_law 281 = .ok (.iconst 0, 1) := by decide +kernel
theorem dL_law_282 : decode cL_law 282 = .ok (.ireturn, 1) := by decide +kernel
theorem dL_law_283 : decode cL_law 283 = .ok (.aload_n 1, 1) := by decide +kernel
theorem dL_law_284 : decode cL_law 284 = .ok (.aload_n 0, 1) := by decide +kernel
theorem dL_law_285 : decode cL_law 285 = .ok (.iload 4, 2) := by decide +kernel
theorem dL_law_287 : decode cL_law 287 = .ok (.iconst 1, 1) := by decide +kernel
theorem dL_law_288 : decode cL_law 288 = .ok (.iadd, 1) := by decide +kernel
theorem dL_law_289 : decode cL_law 289 = .ok (.iaload, 1) := by decide +kernel
theorem dL_law_290 : decode cL_law 290 = .ok (.aload_n 0, 1) := by decide +kernel
theorem dL_law_291 : decode cL_law 291 = .ok (.iload 4, 2) := by decide +kernel
theorem dL_law_293 : decode cL_law 293 = .ok (.iconst 2, 1) := by decide +kernel
theorem dL_law_294 : decode cL_law 294 = .ok (.iadd, 1) := by decide +kernel
theorem dL_law_295 : decode cL_law 295 = .ok (.iaload, 1) := by decide +kernel
theorem dL_law_296 : decode cL_law 296 = .ok (.aload_n 0, 1) := by decide +kernel
theorem dL_law_297 : decode cL_law 297 = .ok (.iload 4, 2) := by decide +kernel
theorem dL_law_299 : decode cL_law 299 = .ok (.iconst 3, 1) := by decide +kernel
theorem dL_law_300 : decode cL_law 300 = .ok (.iadd, 1) := by decide +kernel
theorem dL_law_301 : decode cL_law 301 = .ok (.iaload, 1) := by decide +kernel
theorem dL_law_302 : decode cL_law 302 = .ok (.invokevirtual 34, 3) := by decide +kernel
theorem dL_law_305 : decode cL_law 305 = .ok (.aload_n 2, 1) := by decide +kernel
theorem dL_law_306 : decode cL_law 306 = .ok (.aload_n 0, 1) := by decide +kernel
theorem dL_law_307 : decode cL_law 307 = .ok (.iload 4, 2) := by decide +kernel
theorem dL_law_309 : decode cL_law 309 = .ok (.iconst 1, 1) := by decide +kernel
theorem dL_law_310 : decode cL_law 310 = .ok (.iadd, 1) := by decide +kernel
theorem dL_law_311 : decode cL_law 311 = .ok (.iaload, 1) := by decide +kernel
theorem dL_law_312 : decode cL_law 312 = .ok (.aload_n 0, 1) := by decide +kernel
theorem dL_law_313 : decode cL_law 313 = .ok (.iload 4, 2) := by decide +kernel
theorem dL_law_315 : decode cL_law 315 = .ok (.iconst 2, 1) := by decide +kernel
theorem dL_law_316 : decode cL_law 316 = .ok (.iadd, 1) := by decide +kernel
theorem dL_law_317 : decode cL_law 317 = .ok (.iaload, 1) := by decide +kernel
theorem dL_law_318 : decode cL_law 318 = .ok (.aload_n 0, 1) := by decide +kernel
theorem dL_law_319 : decode cL_law 319 = .ok (.iload 4, 2) := by decide +kernel
theorem dL_law_321 : decode cL_law 321 = .ok (.iconst 3, 1) := by decide +kernel
theorem dL_law_322 : decode cL_law 322 = .ok (.iadd, 1) := by decide +kernel
theorem dL_law_323 : decode cL_law 323 = .ok (.iaload, 1) := by decide +kernel
theorem dL_law_324 : decode cL_law 324 = .ok (.invokevirtual 37, 3) := by decide +kernel
theorem dL_law_327 : decode cL_law 327 = .ok (.if_icmp .eq 539, 3) := by decide +kernel
theorem dL_law_330 : decode cL_law 330 = .ok (.iconst 0, 1) := by decide +kernel
theorem dL_law_331 : decode cL_law 331 = .ok (.ireturn, 1) := by decide +kernel
theorem dL_law_332 : decode cL_law 332 = .ok (.aload_n 1, 1) := by decide +kernel
theorem dL_law_333 : decode cL_law 333 = .ok (.aload_n 0, 1) := by decide +kernel
theorem dL_law_334 : decode cL_law 334 = .ok (.iload 4, 2) := by decide +kernel
theorem dL_law_336 : decode cL_law 336 = .ok (.iconst 1, 1) := by decide +kernel
theorem dL_law_337 : decode cL_law 337 = .ok (.iadd, 1) := by decide +kernel
theorem dL_law_338 : decode cL_law 338 = .ok (.iaload, 1) := by decide +kernel
theorem dL_law_339 : decode cL_law 339 = .ok (.invokevirtual 38, 3) := by decide +kernel
theorem dL_law_342 : decode cL_law 342 = .ok (.aload_n 2, 1) := by decide +kernel
theorem dL_law_343 : decode cL_law 343 = .ok (.aload_n 0, 1) := by decide +kernel
theorem dL_law_344 : decode cL_law 344 = .ok (.iload 4, 2) := by decide +kernel
theorem dL_law_346 : decode cL_law 346 = .ok (.iconst 1, 1) := by decide +kernel
theorem dL_law_347 : decode cL_law 347 = .ok (.iadd, 1) := by decide +kernel
theorem dL_law_348 : decode cL_law 348 = .ok (.iaload, 1) := by decide +kernel
theorem dL_law_349 : decode cL_law 349 = .ok (.invokevirtual 42, 3) := by decide +kernel
theorem dL_law_352 : decode cL_law 352 = .ok (.if_icmp .eq 514, 3) := by decide +kernel
theorem dL_law_355 : decode cL_law 355 = .ok (.iconst 0, 1) := by decide +kernel
theorem dL_law_356 : decode cL_law 356 = .ok (.ireturn, 1) := by decide +kernel
theorem dL_law_357 : decode cL_law 357 = .ok (.aload_n 1, 1) := by decide +kernel
theorem dL_law_358 : decode cL_law 358 = .ok (.aload_n 0, 1) := by decide +kernel
theorem dL_law_359 : decode cL_law 359 = .ok (.iload 4, 2) := by decide +kernel
theorem dL_law_361 : decode cL_law 361 = .ok (.iconst 1, 1) := by decide +kernel
theorem dL_law_362 : decode cL_law 362 = .ok (.iadd, 1) := by decide +kernel
theorem dL_law_363 : decode cL_law 363 = .ok (.iaload, 1) := by decide +kernel
theorem dL_law_364 : decode cL_law 364 = .ok (.aload_n 0, 1) := by decide +kernel
theorem dL_law_365 : decode cL_law 365 = .ok (.iload 4, 2) := by decide +kernel
theorem dL_law_367 : decode cL_law 367 = .ok (.iconst 2, 1) := by decide +kernel
theorem dL_law_368 : decode cL_law 368 = .ok (.iadd, 1) := by decide +kernel
theorem dL_law_369 : decode cL_law 369 = .ok (.iaload, 1) := by decide +kernel
theorem dL_law_370 : decode cL_law 370 = .ok (.invokevirtual 43, 3) := by decide +kernel
theorem dL_law_373 : decode cL_law 373 = .ok (.aload_n 2, 1) := by decide +kernel
theorem dL_law_374 : decode cL_law 374 = .ok (.aload_n 0, 1) := by decide +kernel
theorem dL_law_375 : decode cL_law 375 = .ok (.iload 4, 2) := by decide +kernel
theorem dL_law_377 : decode cL_law 377 = .ok (.iconst 1, 1) := by decide +kernel
theorem dL_law_378 : decode cL_law 378 = .ok (.iadd, 1) := by decide +kernel
theorem dL_law_379 : decode cL_law 379 = .ok (.iaload, 1) := by decide +kernel
theorem dL_law_380 : decode cL_law 380 = .ok (.aload_n 0, 1) := by decide +kernel
theorem dL_law_381 : decode cL_law 381 = .ok (.iload 4, 2) := by decide +kernel
theorem dL_law_383 : decode cL_law 383 = .ok (.iconst 2, 1) := by decide +kernel
theorem dL_law_384 : decode cL_law 384 = .ok (.iadd, 1) := by decide +kernel
theorem dL_law_385 : decode cL_law 385 = .ok (.iaload, 1) := by decide +kernel
theorem dL_law_386 : decode cL_law 386 = .ok (.invokevirtual 46, 3) := by decide +kernel
theorem dL_law_389 : decode cL_law 389 = .ok (.if_icmp .eq 477, 3) := by decide +kernel
theorem dL_law_392 : decode cL_law 392 = .ok (.iconst 0, 1) := by decide +kernel
theorem dL_law_393 : decode cL_law 393 = .ok (.ireturn, 1) := by decide +kernel
theorem dL_law_394 : decode cL_law 394 = .ok (.aload_n 1, 1) := by decide +kernel
theorem dL_law_395 : decode cL_law 395 = .ok (.invokevirtual 47, 3) := by decide +kernel
theorem dL_law_398 : decode cL_law 398 = .ok (.aload_n 2, 1) := by decide +kernel
theorem dL_law_399 : decode cL_law 399 = .ok (.invokevirtual 51, 3) := by decide +kernel
theorem dL_law_402 : decode cL_law 402 = .ok (.if_icmp .eq 464, 3) := by decide +kernel
theorem dL_law_405 : decode cL_law 405 = .ok (.iconst 0, 1) := by decide +kernel
theorem dL_law_406 : decode cL_law 406 = .ok (.ireturn, 1) := by decide +kernel
theorem dL_law_407 : decode cL_law 407 = .ok (.aload_n 1, 1) := by decide +kernel
theorem dL_law_408 : decode cL_law 408 = .ok (.aload_n 0, 1) := by decide +kernel
theorem dL_law_409 : decode cL_law 409 = .ok (.iload 4, 2) := by decide +kernel
theorem dL_law_411 : decode cL_law 411 = .ok (.iconst 1, 1) := by decide +kernel
theorem dL_law_412 : decode cL_law 412 = .ok (.iadd, 1) := by decide +kernel
theorem dL_law_413 : decode cL_law 413 = .ok (.iaload, 1) := by decide +kernel
theorem dL_law_414 : decode cL_law 414 = .ok (.aload_n 0, 1) := by decide +kernel
theorem dL_law_415 : decode cL_law 415 = .ok (.iload 4, 2) := by decide +kernel
theorem dL_law_417 : decode cL_law 417 = .ok (.iconst 2, 1) := by decide +kernel
theorem dL_law_418 : decode cL_law 418 = .ok (.iadd, 1) := by decide +kernel
theorem dL_law_419 : decode cL_law 419 = .ok (.iaload, 1) := by decide +kernel
theorem dL_law_420 : decode cL_law 420 = .ok (.ifCond .eq 7, 3) := by decide +kernel
theorem dL_law_423 : decode cL_law 423 = .ok (.iconst 1, 1) := by decide +kernel
theorem dL_law_424 : decode cL_law 424 = .ok (.goto 4, 3) := by decide +kernel
theorem dL_law_427 : decode cL_law 427 = .ok (.iconst 0, 1) := by decide +kernel
theorem dL_law_428 : decode cL_law 428 = .ok (.invokevirtual 52, 3) := by decide +kernel
theorem dL_law_431 : decode cL_law 431 = .ok (.aload_n 2, 1) := by decide +kernel
theorem dL_law_432 : decode cL_law 432 = .ok (.aload_n 0, 1) := by decide +kernel
theorem dL_law_433 : decode cL_law 433 = .ok (.iload 4, 2) := by decide +kernel
theorem dL_law_435 : decode cL_law 435 = .ok (.iconst 1, 1) := by decide +kernel
theorem dL_law_436 : decode cL_law 436 = .ok (.iadd, 1) := by decide +kernel
theorem dL_law_437 : decode cL_law 437 = .ok (.iaload, 1) := by decide +kernel
theorem dL_law_438 : decode cL_law 438 = .ok (.aload_n 0, 1) := by decide +kernel
theorem dL_law_439 : decode cL_law 439 = .ok (.iload 4, 2) := by decide +kernel
theorem dL_law_441 : decode cL_law 441 = .ok (.iconst 2, 1) := by decide +kernel
theorem dL_law_442 : decode cL_law 442 = .ok (.iadd, 1) := by decide +kernel
theorem dL_law_443 : decode cL_law 443 = .ok (.iaload, 1) := by decide +kernel
theorem dL_law_444 : decode cL_law 444 = .ok (.ifCond .eq 7, 3) := by decide +kernel
theorem dL_law_447 : decode cL_law 447 = .ok (.iconst 1, 1) := by decide +kernel
theorem dL_law_448 : decode cL_law 448 = .ok (.goto 4, 3) := by decide +kernel
theorem dL_law_451 : decode cL_law 451 = .ok (.iconst 0, 1) := by decide +kernel
theorem dL_law_452 : decode cL_law 452 = .ok (.invokevirtual 56, 3) := by decide +kernel
theorem dL_law_455 : decode cL_law 455 = .ok (.if_icmp .eq 411, 3) := by decide +kernel
theorem dL_law_458 : decode cL_law 458 = .ok (.iconst 0, 1) := by decide +kernel
theorem dL_law_459 : decode cL_law 459 = .ok (.ireturn, 1) := by decide +kernel
theorem dL_law_460 : decode cL_law 460 = .ok (.aload_n 1, 1) := by decide +kernel
theorem dL_law_461 : decode cL_law 461 = .ok (.aload_n 0, 1) := by decide +kernel
theorem dL_law_462 : decode cL_law 462 = .ok (.iload 4, 2) := by decide +kernel
theorem dL_law_464 : decode cL_law 464 = .ok (.iconst 1, 1) := by decide +kernel
theorem dL_law_465 : decode cL_law 465 = .ok (.iadd, 1) := by decide +kernel
theorem dL_law_466 : decode cL_law 466 = .ok (.iaload, 1) := by decide +kernel
theorem dL_law_467 : decode cL_law 467 = .ok (.invokevirtual 57, 3) := by decide +kernel
theorem dL_law_470 : decode cL_law 470 = .ok (.aload_n 2, 1) := by decide +kernel
theorem dL_law_471 : decode cL_law 471 = .ok (.aload_n 0, 1) := by decide +kernel
theorem dL_law_472 : decode cL_law 472 = .ok (.iload 4, 2) := by decide +kernel
theorem dL_law_474 : decode cL_law 474 = .ok (.iconst 1, 1) := by decide +kernel
theorem dL_law_475 : decode cL_law 475 = .ok (.iadd, 1) := by decide +kernel
theorem dL_law_476 : decode cL_law 476 = .ok (.iaload, 1) := by decide +kernel
theorem dL_law_477 : decode cL_law 477 = .ok (.invokevirtual 60, 3) := by decide +kernel
theorem dL_law_480 : decode cL_law 480 = .ok (.if_icmp .eq 386, 3) := by decide +kernel
theorem dL_law_483 : decode cL_law 483 = .ok (.iconst 0, 1) := by decide +kernel
theorem dL_law_484 : decode cL_law 484 = .ok (.ireturn, 1) := by decide +kernel
theorem dL_law_485 : decode cL_law 485 = .ok (.aload_n 1, 1) := by decide +kernel
theorem dL_law_486 : decode cL_law 486 = .ok (.invokevirtual 61, 3) := by decide +kernel
theorem dL_law_489 : decode cL_law 489 = .ok (.aload_n 2, 1) := by decide +kernel
theorem dL_law_490 : decode cL_law 490 = .ok (.invokevirtual 64, 3) := by decide +kernel
theorem dL_law_493 : decode cL_law 493 = .ok (.if_icmp .eq 373, 3) := by decide +kernel
theorem dL_law_496 : decode cL_law 496 = .ok (.iconst 0, 1) := by decide +kernel
theorem dL_law_497 : decode cL_law 497 = .ok (.ireturn, 1) := by decide +kernel
theorem dL_law_498 : decode cL_law 498 = .ok (.aload_n 1, 1) := by decide +kernel
theorem dL_law_499 : decode cL_law 499 = .ok (.aload_n 0, 1) := by decide +kernel
theorem dL_law_500 : decode cL_law 500 = .ok (.iload 4, 2) := by decide +kernel
theorem dL_law_502 : decode cL_law 502 = .ok (.iconst 1, 1) := by decide +kernel
theorem dL_law_503 : decode cL_law 503 = .ok (.iadd, 1) := by decide +kernel
theorem dL_law_504 : decode cL_law 504 = .ok (.iaload, 1) := by decide +kernel
theorem dL_law_505 : decode cL_law 505 = .ok (.invokevirtual 65, 3) := by decide +kernel
theorem dL_law_508 : decode cL_law 508 = .ok (.aload_n 2, 1) := by decide +kernel
theorem dL_law_509 : decode cL_law 509 = .ok (.aload_n 0, 1) := by decide +kernel
theorem dL_law_510 : decode cL_law 510 = .ok (.iload 4, 2) := by decide +kernel
theorem dL_law_512 : decode cL_law 512 = .ok (.iconst 1, 1) := by decide +kernel
theorem dL_law_513 : decode cL_law 513 = .ok (.iadd, 1) := by decide +kernel
theorem dL_law_514 : decode cL_law 514 = .ok (.iaload, 1) := by decide +kernel
theorem dL_law_515 : decode cL_law 515 = .ok (.invokevirtual 68, 3) := by decide +kernel
theorem dL_law_518 : decode cL_law 518 = .ok (.if_icmp .eq 348, 3) := by decide +kernel
theorem dL_law_521 : decode cL_law 521 = .ok (.iconst 0, 1) := by decide +kernel
theorem dL_law_522 : decode cL_law 522 = .ok (.ireturn, 1) := by decide +kernel
theorem dL_law_523 : decode cL_law 523 = .ok (.aload_n 1, 1) := by decide +kernel
theorem dL_law_524 : decode cL_law 524 = .ok (.invokevirtual 69, 3) := by decide +kernel
theorem dL_law_527 : decode cL_law 527 = .ok (.aload_n 2, 1) := by decide +kernel
theorem dL_law_528 : decode cL_law 528 = .ok (.invokevirtual 72, 3) := by decide +kernel
theorem dL_law_531 : decode cL_law 531 = .ok (.if_icmp .eq 335, 3) := by decide +kernel
theorem dL_law_534 : decode cL_law 534 = .ok (.iconst 0, 1) := by decide +kernel
theorem dL_law_535 : decode cL_law 535 = .ok (.ireturn, 1) := by decide +kernel
theorem dL_law_536 : decode cL_law 536 = .ok (.aload_n 1, 1) := by decide +kernel
theorem dL_law_537 : decode cL_law 537 = .ok (.aload_n 0, 1) := by decide +kernel
theorem dL_law_538 : decode cL_law 538 = .ok (.iload 4, 2) := by decide +kernel
theorem dL_law_540 : decode cL_law 540 = .ok (.iconst 1, 1) := by decide +kernel
theorem dL_law_541 : decode cL_law 541 = .ok (.iadd, 1) := by decide +kernel
theorem dL_law_542 : decode cL_law 542 = .ok (.iaload, 1) := by decide +kernel
theorem dL_law_543 : decode cL_law 543 = .ok (.aload_n 0, 1) := by decide +kernel
theorem dL_law_544 : decode cL_law 544 = .ok (.iload 4, 2) := by decide +kernel
theorem dL_law_546 : decode cL_law 546 = .ok (.iconst 2, 1) := by decide +kernel
theorem dL_law_547 : decode cL_law 547 = .ok (.iadd, 1) := by decide +kernel
theorem dL_law_548 : decode cL_law 548 = .ok (.iaload, 1) := by decide +kernel
theorem dL_law_549 : decode cL_law 549 = .ok (.invokevirtual 73, 3) := by decide +kernel
theorem dL_law_552 : decode cL_law 552 = .ok (.aload_n 2, 1) := by decide +kernel
theorem dL_law_553 : decode cL_law 553 = .ok (.aload_n 0, 1) := by decide +kernel
theorem dL_law_554 : decode cL_law 554 = .ok (.iload 4, 2) := by decide +kernel
theorem dL_law_556 : decode cL_law 556 = .ok (.iconst 1, 1) := by decide +kernel
theorem dL_law_557 : decode cL_law 557 = .ok (.iadd, 1) := by decide +kernel
theorem dL_law_558 : decode cL_law 558 = .ok (.iaload, 1) := by decide +kernel
theorem dL_law_559 : decode cL_law 559 = .ok (.aload_n 0, 1) := by decide +kernel
theorem dL_law_560 : decode cL_law 560 = .ok (.iload 4, 2) := by decide +kernel
theorem dL_law_562 : decode cL_law 562 = .ok (.iconst 2, 1) := by decide +kernel
theorem dL_law_563 : decode cL_law 563 = .ok (.iadd, 1) := by decide +kernel
theorem dL_law_564 : decode cL_law 564 = .ok (.iaload, 1) := by decide +kernel
theorem dL_law_565 : decode cL_law 565 = .ok (.invokevirtual 76, 3) := by decide +kernel
theorem dL_law_568 : decode cL_law 568 = .ok (.if_icmp .eq 298, 3) := by decide +kernel
theorem dL_law_571 : decode cL_law 571 = .ok (.iconst 0, 1) := by decide +kernel
theorem dL_law_572 : decode cL_law 572 = .ok (.ireturn, 1) := by decide +kernel
theorem dL_law_573 : decode cL_law 573 = .ok (.aload_n 1, 1) := by decide +kernel
theorem dL_law_574 : decode cL_law 574 = .ok (.aload_n 0, 1) := by decide +kernel
theorem dL_law_575 : decode cL_law 575 = .ok (.iload 4, 2) := by decide +kernel
theorem dL_law_577 : decode cL_law 577 = .ok (.iconst 1, 1) := by decide +kernel
theorem dL_law_578 : decode cL_law 578 = .ok (.iadd, 1) := by decide +kernel
theorem dL_law_579 : decode cL_law 579 = .ok (.iaload, 1) := by decide +kernel
theorem dL_law_580 : decode cL_law 580 = .ok (.aload_n 0, 1) := by decide +kernel
theorem dL_law_581 : decode cL_law 581 = .ok (.iload 4, 2) := by decide +kernel
theorem dL_law_583 : decode cL_law 583 = .ok (.iconst 2, 1) := by decide +kernel
theorem dL_law_584 : decode cL_law 584 = .ok (.iadd, 1) := by decide +kernel
theorem dL_law_585 : decode cL_law 585 = .ok (.iaload, 1) := by decide +kernel
theorem dL_law_586 : decode cL_law 586 = .ok (.invokevirtual 77, 3) := by decide +kernel
theorem dL_law_589 : decode cL_law 589 = .ok (.aload_n 2, 1) := by decide +kernel
theorem dL_law_590 : decode cL_law 590 = .ok (.aload_n 0, 1) := by decide +kernel
theorem dL_law_591 : decode cL_law 591 = .ok (.iload 4, 2) := by decide +kernel
theorem dL_law_593 : decode cL_law 593 = .ok (.iconst 1, 1) := by decide +kernel
theorem dL_law_594 : decode cL_law 594 = .ok (.iadd, 1) := by decide +kernel
theorem dL_law_595 : decode cL_law 595 = .ok (.iaload, 1) := by decide +kernel
theorem dL_law_596 : decode cL_law 596 = .ok (.aload_n 0, 1) := by decide +kernel
theorem dL_law_597 : decode cL_law 597 = .ok (.iload 4, 2) := by decide +kernel
theorem dL_law_599 : decode cL_law 599 = .ok (.iconst 2, 1) := by decide +kernel
theorem dL_law_600 : decode cL_law 600 = .ok (.iadd, 1) := by decide +kernel
theorem dL_law_601 : decode cL_law 601 = .ok (.iaload, 1) := by decide +kernel
theorem dL_law_602 : decode cL_law 602 = .ok (.invokevirtual 80, 3) := by decide +kernel
theorem dL_law_605 : decode cL_law 605 = .ok (.if_icmp .eq 261, 3) := by decide +kernel
theorem dL_law_608 : decode cL_law 608 = .ok (.iconst 0, 1) := by decide +kernel
theorem dL_law_609 : decode cL_law 609 = .ok (.ireturn, 1) := by decide +kernel
theorem dL_law_610 : decode cL_law 610 = .ok (.aload_n 1, 1) := by decide +kernel
theorem dL_law_611 : decode cL_law 611 = .ok (.aload_n 0, 1) := by decide +kernel
theorem dL_law_612 : decode cL_law 612 = .ok (.iload 4, 2) := by decide +kernel
theorem dL_law_614 : decode cL_law 614 = .ok (.iconst 1, 1) := by decide +kernel
theorem dL_law_615 : decode cL_law 615 = .ok (.iadd, 1) := by decide +kernel
theorem dL_law_616 : decode cL_law 616 = .ok (.iaload, 1) := by decide +kernel
theorem dL_law_617 : decode cL_law 617 = .ok (.aload_n 0, 1) := by decide +kernel
theorem dL_law_618 : decode cL_law 618 = .ok (.iload 4, 2) := by decide +kernel
theorem dL_law_620 : decode cL_law 620 = .ok (.iconst 2, 1) := by decide +kernel
theorem dL_law_621 : decode cL_law 621 = .ok (.iadd, 1) := by decide +kernel
theorem dL_law_622 : decode cL_law 622 = .ok (.iaload, 1) := by decide +kernel
theorem dL_law_623 : decode cL_law 623 = .ok (.invokevirtual 81, 3) := by decide +kernel
theorem dL_law_626 : decode cL_law 626 = .ok (.aload_n 2, 1) := by decide +kernel
theorem dL_law_627 : decode cL_law 627 = .ok (.aload_n 0, 1) := by decide +kernel
theorem dL_law_628 : decode cL_law 628 = .ok (.iload 4, 2) := by decide +kernel
theorem dL_law_630 : decode cL_law 630 = .ok (.iconst 1, 1) := by decide +kernel
theorem dL_law_631 : decode cL_law 631 = .ok (.iadd, 1) := by decide +kernel
theorem dL_law_632 : decode cL_law 632 = .ok (.iaload, 1) := by decide +kernel
theorem dL_law_633 : decode cL_law 633 = .ok (.aload_n 0, 1) := by decide +kernel
theorem dL_law_634 : decode cL_law 634 = .ok (.iload 4, 2) := by decide +kernel
theorem dL_law_636 : decode cL_law 636 = .ok (.iconst 2, 1) := by decide +kernel
theorem dL_law_637 : decode cL_law 637 = .ok (.iadd, 1) := by decide +kernel
theorem dL_law_638 : decode cL_law 638 = .ok (.iaload, 1) := by decide +kernel
theorem dL_law_639 : decode cL_law 639 = .ok (.invokevirtual 85, 3) := by decide +kernel
theorem dL_law_642 : decode cL_law 642 = .ok (.lcmp, 1) := by decide +kernel
theorem dL_law_643 : decode cL_law 643 = .ok (.ifCond .eq 223, 3) := by decide +kernel
theorem dL_law_646 : decode cL_law 646 = .ok (.iconst 0, 1) := by decide +kernel
theorem dL_law_647 : decode cL_law 647 = .ok (.ireturn, 1) := by decide +kernel
theorem dL_law_648 : decode cL_law 648 = .ok (.aload_n 1, 1) := by decide +kernel
theorem dL_law_649 : decode cL_law 649 = .ok (.aload_n 0, 1) := by decide +kernel
theorem dL_law_650 : decode cL_law 650 = .ok (.iload 4, 2) := by decide +kernel
theorem dL_law_652 : decode cL_law 652 = .ok (.iconst 1, 1) := by decide +kernel
theorem dL_law_653 : decode cL_law 653 = .ok (.iadd, 1) := by decide +kernel
theorem dL_law_654 : decode cL_law 654 = .ok (.iaload, 1) := by decide +kernel
theorem dL_law_655 : decode cL_law 655 = .ok (.aload_n 0, 1) := by decide +kernel
theorem dL_law_656 : decode cL_law 656 = .ok (.iload 4, 2) := by decide +kernel
theorem dL_law_658 : decode cL_law 658 = .ok (.iconst 2, 1) := by decide +kernel
theorem dL_law_659 : decode cL_law 659 = .ok (.iadd, 1) := by decide +kernel
theorem dL_law_660 : decode cL_law 660 = .ok (.iaload, 1) := by decide +kernel
theorem dL_law_661 : decode cL_law 661 = .ok (.aload_n 0, 1) := by decide +kernel
theorem dL_law_662 : decode cL_law 662 = .ok (.iload 4, 2) := by decide +kernel
theorem dL_law_664 : decode cL_law 664 = .ok (.iconst 3, 1) := by decide +kernel
theorem dL_law_665 : decode cL_law 665 = .ok (.iadd, 1) := by decide +kernel
theorem dL_law_666 : decode cL_law 666 = .ok (.iaload, 1) := by decide +kernel
theorem dL_law_667 : decode cL_law 667 = .ok (.invokevirtual 86, 3) := by decide +kernel
theorem dL_law_670 : decode cL_law 670 = .ok (.aload_n 2, 1) := by decide +kernel
theorem dL_law_671 : decode cL_law 671 = .ok (.aload_n 0, 1) := by decide +kernel
theorem dL_law_672 : decode cL_law 672 = .ok (.iload 4, 2) := by decide +kernel
theorem dL_law_674 : decode cL_law 674 = .ok (.iconst 1, 1) := by decide +kernel
theorem dL_law_675 : decode cL_law 675 = .ok (.iadd, 1) := by decide +kernel
theorem dL_law_676 : decode cL_law 676 = .ok (.iaload, 1) := by decide +kernel
theorem dL_law_677 : decode cL_law 677 = .ok (.aload_n 0, 1) := by decide +kernel
theorem dL_law_678 : decode cL_law 678 = .ok (.iload 4, 2) := by decide +kernel
theorem dL_law_680 : decode cL_law 680 = .ok (.iconst 2, 1) := by decide +kernel
theorem dL_law_681 : decode cL_law 681 = .ok (.iadd, 1) := by decide +kernel
theorem dL_law_682 : decode cL_law 682 = .ok (.iaload, 1) := by decide +kernel
theorem dL_law_683 : decode cL_law 683 = .ok (.aload_n 0, 1) := by decide +kernel
theorem dL_law_684 : decode cL_law 684 = .ok (.iload 4, 2) := by decide +kernel
theorem dL_law_686 : decode cL_law 686 = .ok (.iconst 3, 1) := by decide +kernel
theorem dL_law_687 : decode cL_law 687 = .ok (.iadd, 1) := by decide +kernel
theorem dL_law_688 : decode cL_law 688 = .ok (.iaload, 1) := by decide +kernel
theorem dL_law_689 : decode cL_law 689 = .ok (.invokevirtual 89, 3) := by decide +kernel
theorem dL_law_692 : decode cL_law 692 = .ok (.lcmp, 1) := by decide +kernel
theorem dL_law_693 : decode cL_law 693 = .ok (.ifCond .eq 173, 3) := by decide +kernel
theorem dL_law_696 : decode cL_law 696 = .ok (.iconst 0, 1) := by decide +kernel
theorem dL_law_697 : decode cL_law 697 = .ok (.ireturn, 1) := by decide +kernel
theorem dL_law_698 : decode cL_law 698 = .ok (.aload_n 1, 1) := by decide +kernel
theorem dL_law_699 : decode cL_law 699 = .ok (.aload_n 0, 1) := by decide +kernel
theorem dL_law_700 : decode cL_law 700 = .ok (.iload 4, 2) := by decide +kernel
theorem dL_law_702 : decode cL_law 702 = .ok (.iconst 1, 1) := by decide +kernel
theorem dL_law_703 : decode cL_law 703 = .ok (.iadd, 1) := by decide +kernel
theorem dL_law_704 : decode cL_law 704 = .ok (.iaload, 1) := by decide +kernel
theorem dL_law_705 : decode cL_law 705 = .ok (.aload_n 0, 1) := by decide +kernel
theorem dL_law_706 : decode cL_law 706 = .ok (.iload 4, 2) := by decide +kernel
theorem dL_law_708 : decode cL_law 708 = .ok (.iconst 2, 1) := by decide +kernel
theorem dL_law_709 : decode cL_law 709 = .ok (.iadd, 1) := by decide +kernel
theorem dL_law_710 : decode cL_law 710 = .ok (.iaload, 1) := by decide +kernel
theorem dL_law_711 : decode cL_law 711 = .ok (.aload_n 0, 1) := by decide +kernel
theorem dL_law_712 : decode cL_law 712 = .ok (.iload 4, 2) := by decide +kernel
theorem dL_law_714 : decode cL_law 714 = .ok (.iconst 3, 1) := by decide +kernel
theorem dL_law_715 : decode cL_law 715 = .ok (.iadd, 1) := by decide +kernel
theorem dL_law_716 : decode cL_law 716 = .ok (.iaload, 1) := by decide +kernel
theorem dL_law_717 : decode cL_law 717 = .ok (.aload_n 3, 1) := by decide +kernel
theorem dL_law_718 : decode cL_law 718 = .ok (.invokestatic 90, 3) := by decide +kernel
theorem dL_law_721 : decode cL_law 721 = .ok (.istore 5, 2) := by decide +kernel
theorem dL_law_723 : decode cL_law 723 = .ok (.aload_n 2, 1) := by decide +kernel
theorem dL_law_724 : decode cL_law 724 = .ok (.aload_n 0, 1) := by decide +kernel
theorem dL_law_725 : decode cL_law 725 = .ok (.iload 4, 2) := by decide +kernel
theorem dL_law_727 : decode cL_law 727 = .ok (.iconst 1, 1) := by decide +kernel
theorem dL_law_728 : decode cL_law 728 = .ok (.iadd, 1) := by decide +kernel
theorem dL_law_729 : decode cL_law 729 = .ok (.iaload, 1) := by decide +kernel
theorem dL_law_730 : decode cL_law 730 = .ok (.aload_n 0, 1) := by decide +kernel
theorem dL_law_731 : decode cL_law 731 = .ok (.iload 4, 2) := by decide +kernel
theorem dL_law_733 : decode cL_law 733 = .ok (.iconst 2, 1) := by decide +kernel
theorem dL_law_734 : decode cL_law 734 = .ok (.iadd, 1) := by decide +kernel
theorem dL_law_735 : decode cL_law 735 = .ok (.iaload, 1) := by decide +kernel
theorem dL_law_736 : decode cL_law 736 = .ok (.aload_n 0, 1) := by decide +kernel
theorem dL_law_737 : decode cL_law 737 = .ok (.iload 4, 2) := by decide +kernel
theorem dL_law_739 : decode cL_law 739 = .ok (.iconst 3, 1) := by decide +kernel
theorem dL_law_740 : decode cL_law 740 = .ok (.iadd, 1) := by decide +kernel
theorem dL_law_741 : decode cL_law 741 = .ok (.iaload, 1) := by decide +kernel
theorem dL_law_742 : decode cL_law 742 = .ok (.invokevirtual 95, 3) := by decide +kernel
theorem dL_law_745 : decode cL_law 745 = .ok (.lstore 6, 2) := by decide +kernel
theorem dL_law_747 : decode cL_law 747 = .ok (.aload_n 2, 1) := by decide +kernel
theorem dL_law_748 : decode cL_law 748 = .ok (.invokevirtual 96, 3) := by decide +kernel
theorem dL_law_751 : decode cL_law 751 = .ok (.iload 5, 2) := by decide +kernel
theorem dL_law_753 : decode cL_law 753 = .ok (.if_icmp .eq 5, 3) := by decide +kernel
theorem dL_law_756 : decode cL_law 756 = .ok (.iconst 0, 1) := by decide +kernel
theorem dL_law_757 : decode cL_law 757 = .ok (.ireturn, 1) := by decide +kernel
theorem dL_law_758 : decode cL_law 758 = .ok (.iload 5, 2) := by decide +kernel
theorem dL_law_760 : decode cL_law 760 = .ok (.ifCond .ne 14, 3) := by decide +kernel
theorem dL_law_763 : decode cL_law 763 = .ok (.aload_n 3, 1) := by decide +kernel
theorem dL_law_764 : decode cL_law 764 = .ok (.iconst 0, 1) := by decide +kernel
theorem dL_law_765 : decode cL_law 765 = .ok (.laload, 1) := by decide +kernel
theorem dL_law_766 : decode cL_law 766 = .ok (.lload 6, 2) := by decide +kernel
theorem dL_law_768 : decode cL_law 768 = .ok (.lcmp, 1) := by decide +kernel
theorem dL_law_769 : decode cL_law 769 = .ok (.ifCond .eq 5, 3) := by decide +kernel
theorem dL_law_772 : decode cL_law 772 = .ok (.iconst 0, 1) := by decide +kernel
theorem dL_law_773 : decode cL_law 773 = .ok (.ireturn, 1) := by decide +kernel
theorem dL_law_774 : decode cL_law 774 = .ok (.goto 92, 3) := by decide +kernel
theorem dL_law_777 : decode cL_law 777 = .ok (.aload_n 1, 1) := by decide +kernel
theorem dL_law_778 : decode cL_law 778 = .ok (.invokevirtual 99, 3) := by decide +kernel
theorem dL_law_781 : decode cL_law 781 = .ok (.aload_n 2, 1) := by decide +kernel
theorem dL_law_782 : decode cL_law 782 = .ok (.invokevirtual 102, 3) := by decide +kernel
theorem dL_law_785 : decode cL_law 785 = .ok (.if_icmp .eq 81, 3) := by decide +kernel
theorem dL_law_788 : decode cL_law 788 = .ok (.iconst 0, 1) := by decide +kernel
theorem dL_law_789 : decode cL_law 789 = .ok (.ireturn, 1) := by decide +kernel
theorem dL_law_790 : decode cL_law 790 = .ok (.aload_n 1, 1) := by decide +kernel
theorem dL_law_791 : decode cL_law 791 = .ok (.aload_n 0, 1) := by decide +kernel
theorem dL_law_792 : decode cL_law 792 = .ok (.iload 4, 2) := by decide +kernel
theorem dL_law_794 : decode cL_law 794 = .ok (.iconst 1, 1) := by decide +kernel
theorem dL_law_795 : decode cL_law 795 = .ok (.iadd, 1) := by decide +kernel
theorem dL_law_796 : decode cL_law 796 = .ok (.iaload, 1) := by decide +kernel
theorem dL_law_797 : decode cL_law 797 = .ok (.aload_n 0, 1) := by decide +kernel
theorem dL_law_798 : decode cL_law 798 = .ok (.iload 4, 2) := by decide +kernel
theorem dL_law_800 : decode cL_law 800 = .ok (.iconst 2, 1) := by decide +kernel
theorem dL_law_801 : decode cL_law 801 = .ok (.iadd, 1) := by decide +kernel
theorem dL_law_802 : decode cL_law 802 = .ok (.iaload, 1) := by decide +kernel
theorem dL_law_803 : decode cL_law 803 = .ok (.invokevirtual 103, 3) := by decide +kernel
theorem dL_law_806 : decode cL_law 806 = .ok (.aload_n 2, 1) := by decide +kernel
theorem dL_law_807 : decode cL_law 807 = .ok (.aload_n 0, 1) := by decide +kernel
theorem dL_law_808 : decode cL_law 808 = .ok (.iload 4, 2) := by decide +kernel
theorem dL_law_810 : decode cL_law 810 = .ok (.iconst 1, 1) := by decide +kernel
theorem dL_law_811 : decode cL_law 811 = .ok (.iadd, 1) := by decide +kernel
theorem dL_law_812 : decode cL_law 812 = .ok (.iaload, 1) := by decide +kernel
theorem dL_law_813 : decode cL_law 813 = .ok (.aload_n 0, 1) := by decide +kernel
theorem dL_law_814 : decode cL_law 814 = .ok (.iload 4, 2) := by decide +kernel
theorem dL_law_816 : decode cL_law 816 = .ok (.iconst 2, 1) := by decide +kernel
theorem dL_law_817 : decode cL_law 817 = .ok (.iadd, 1) := by decide +kernel
theorem dL_law_818 : decode cL_law 818 = .ok (.iaload, 1) := by decide +kernel
theorem dL_law_819 : decode cL_law 819 = .ok (.invokevirtual 106, 3) := by decide +kernel
theorem dL_law_822 : decode cL_law 822 = .ok (.lcmp, 1) := by decide +kernel
theorem dL_law_823 : decode cL_law 823 = .ok (.ifCond .eq 43, 3) := by decide +kernel
theorem dL_law_826 : decode cL_law 826 = .ok (.iconst 0, 1) := by decide +kernel
theorem dL_law_827 : decode cL_law 827 = .ok (.ireturn, 1) := by decide +kernel
theorem dL_law_828 : decode cL_law 828 = .ok (.aload_n 1, 1) := by decide +kernel
theorem dL_law_829 : decode cL_law 829 = .ok (.aload_n 0, 1) := by decide +kernel
theorem dL_law_830 : decode cL_law 830 = .ok (.iload 4, 2) := by decide +kernel
theorem dL_law_832 : decode cL_law 832 = .ok (.iconst 1, 1) := by decide +kernel
theorem dL_law_833 : decode cL_law 833 = .ok (.iadd, 1) := by decide +kernel
theorem dL_law_834 : decode cL_law 834 = .ok (.iaload, 1) := by decide +kernel
theorem dL_law_835 : decode cL_law 835 = .ok (.invokevirtual 107, 3) := by decide +kernel
theorem dL_law_838 : decode cL_law 838 = .ok (.aload_n 2, 1) := by decide +kernel
theorem dL_law_839 : decode cL_law 839 = .ok (.aload_n 0, 1) := by decide +kernel
theorem dL_law_840 : decode cL_law 840 = .ok (.iload 4, 2) := by decide +kernel
theorem dL_law_842 : decode cL_law 842 = .ok (.iconst 1, 1) := by decide +kernel
theorem dL_law_843 : decode cL_law 843 = .ok (.iadd, 1) := by decide +kernel
theorem dL_law_844 : decode cL_law 844 = .ok (.iaload, 1) := by decide +kernel
theorem dL_law_845 : decode cL_law 845 = .ok (.invokevirtual 110, 3) := by decide +kernel
theorem dL_law_848 : decode cL_law 848 = .ok (.if_icmp .eq 18, 3) := by decide +kernel
theorem dL_law_851 : decode cL_law 851 = .ok (.iconst 0, 1) := by decide +kernel
theorem dL_law_852 : decode cL_law 852 = .ok (.ireturn, 1) := by decide +kernel
theorem dL_law_853 : decode cL_law 853 = .ok (.aload_n 1, 1) := by decide +kernel
theorem dL_law_854 : decode cL_law 854 = .ok (.invokevirtual 111, 3) := by decide +kernel
theorem dL_law_857 : decode cL_law 857 = .ok (.aload_n 2, 1) := by decide +kernel
theorem dL_law_858 : decode cL_law 858 = .ok (.invokevirtual 114, 3) := by decide +kernel
theorem dL_law_861 : decode cL_law 861 = .ok (.if_icmp .eq 5, 3) := by decide +kernel
theorem dL_law_864 : decode cL_law 864 = .ok (.iconst 0, 1) := by decide +kernel
theorem dL_law_865 : decode cL_law 865 = .ok (.ireturn, 1) := by decide +kernel
theorem dL_law_866 : decode cL_law 866 = .ok (.iinc 4 5, 3) := by decide +kernel
theorem dL_law_869 : decode cL_law 869 = .ok (.goto (-846), 3) := by decide +kernel
theorem dL_law_872 : decode cL_law 872 = .ok (.iconst 1, 1) := by decide +kernel
theorem dL_law_873 : decode cL_law 873 = .ok (.ireturn, 1) := by decide +kernel
abbrev vwCl : List vw_C := [(RX1, TX1, 11), (RX2, TX2, 11), (RX3, TX3, 5), (RX4, TX4, 3), (RX5, TX5, 30)]
end
section
/-! ===== the store of a side, the words of all methods, the judgement KJ ===== -/
/-- a side's store: int fields, long fields, int arrays, long arrays, each by a number -/
abbrev St : Type := (Nat → Int32) × (Nat → Int64) × (Nat → Nat → Int32) × (Nat → Nat → Int64)
def gI (S : St) (k : Nat) : Int32 := S.1 k
def gL (S : St) (k : Nat) : Int64 := S.2.1 k
def gA (S : St) (k : Nat) : Nat → Int32 := S.2.2.1 k
def gB (S : St) (k : Nat) : Nat → Int64 := S.2.2.2 k
def sI (S : St) (k : Nat) (v : Int32) : St := (fun j => if j = k then v else S.1 j, S.2.1, S.2.2.1, S.2.2.2)
def sL (S : St) (k : Nat) (v : Int64) : St := (S.1, fun j => if j = k then v else S.2.1 j, S.2.2.1, S.2.2.2)
def sA (S : St) (k : Nat) (f : Nat → Int32) : St := (S.1, S.2.1, fun j => if j = k then f else S.2.2.1 j, S.2.2.2)
def sB (S : St) (k : Nat) (f : Nat → Int64) : St := (S.1, S.2.1, S.2.2.1, fun j => if j = k then f else S.2.2.2 j)
theorem gI_sI (S : St) (k j : Nat) (v : Int32) : gI (sI S k v) j = if j = k then v else gI S j := rfl
theorem gI_sL (S : St) (k j : Nat) (v : Int64) : gI (sL S k v) j = gI S j := rfl
theorem gI_sA (S : St) (k j : Nat) (v : Nat → Int32) : gI (sA S k v) j = gI S j := rfl
theorem gI_sB (S : St) (k j : Nat) (v : Nat → Int64) : gI (sB S k v) j = gI S j := rfl
theorem gL_sI (S : St) (k j : Nat) (v : Int32) : gL (sI S k v) j = gL S j := rfl
theorem gL_sL (S : St) (k j : Nat) (v : Int64) : gL (sL S k v) j = if j = k then v else gL S j := rfl
theorem gL_sA (S : St) (k j : Nat) (v : Nat → Int32) : gL (sA S k v) j = gL S j := rfl
theorem gL_sB (S : St) (k j : Nat) (v : Nat → Int64) : gL (sB S k v) j = gL S j := rfl
theorem gA_sI (S : St) (k j : Nat) (v : Int32) : gA (sI S k v) j = gA S j := rfl
theorem gA_sL (S : St) (k j : Nat) (v : Int64) : gA (sL S k v) j = gA S j := rfl
theorem gA_sA (S : St) (k j : Nat) (v : Nat → Int32) : gA (sA S k v) j = if j = k then v else gA S j := rfl
theorem gA_sB (S : St) (k j : Nat) (v : Nat → Int64) : gA (sB S k v) j = gA S j := rfl
theorem gB_sI (S : St) (k j : Nat) (v : Int32) : gB (sI S k v) j = gB S j := rfl
theorem gB_sL (S : St) (k j : Nat) (v : Int64) : gB (sL S k v) j = gB S j := rfl
theorem gB_sA (S : St) (k j : Nat) (v : Nat → Int32) : gB (sA S k v) j = gB S j := rfl
theorem gB_sB (S : St) (k j : Nat) (v : Nat → Int64) : gB (sB S k v) j = if j = k then v else gB S j := rfl
/-- a test that stands where the machine itself would throw -/
def chk {α : Type} (b : Bool) (e : Option α) : Option α := if b = true then e else none
theorem chk_some {α : Type} {b : Bool} {e : Option α} {x : α} (h : chk b e = some x) : b = true ∧ e = some x := by
  unfold chk at h
  by_cases c : b = true
  · rw [if_pos c] at h
    exact ⟨c, h⟩
  · rw [if_neg c] at h
    cases h
theorem chk_t {α : Type} {b : Bool} {e : Option α} (h : b = true) : chk b e = e := if_pos h
/-- an index in its row -/
def inB (i : Int32) (n : Nat) : Bool := decide (0 ≤ i) && decide (i.toNatClampNeg < n)
theorem inB_in {i : Int32} {n : Nat} (h : inB i n = true) : vp_in i n := by
  simp only [inB, Bool.and_eq_true, decide_eq_true_eq] at h
  intro q
  rcases q with q | q
  · exact absurd h.1 (Int32.not_le.mpr q)
  · omega
/-- copying inside two rows -/
def cpB (sp dp n : Int32) (n0 n1 : Nat) : Bool := decide (0 ≤ sp) && (decide (0 ≤ dp) && (decide (0 ≤ n) && (decide (sp.toNatClampNeg + n.toNatClampNeg ≤ n0) && decide (dp.toNatClampNeg + n.toNatClampNeg ≤ n1))))
/-- the words that every method here carries: all of the tables' that stay -/
def TsG : List Cond := lw_tbl.filter goodWord
theorem TsG_of {w : Cond} (h : w ∈ lw_tbl) (g : goodWord w = true) : w ∈ TsG := List.mem_filter.mpr ⟨h, g⟩
theorem TsG_good {y : MethodName} {cc : ByteArray} {n : Nat} {rt : Option FieldType} (h : Cond.code y cc n rt ∈ TsG) : GoodIn TsG (Cond.code y cc n rt :: TsG) := by
  intro w hw
  rcases List.mem_cons.mp hw with rfl | hw
  · exact ⟨h, good_of_word (List.mem_filter.mp h).2⟩
  · exact ⟨hw, good_of_word (List.mem_filter.mp hw).2⟩
theorem T1_in {w : Cond} (h : w ∈ tables_1) (g : goodWord w = true) : w ∈ TsG := TsG_of (List.mem_append_right _ h) g
theorem T11 {i : Nat} {w : Cond} (h : tables_1_1[i]? = some w) (g : goodWord w = true) : w ∈ TsG := T1_in (List.mem_append_left _ (List.mem_of_getElem? h)) g
theorem T12 {i : Nat} {w : Cond} (h : tables_1_2[i]? = some w) (g : goodWord w = true) : w ∈ TsG := T1_in (List.mem_append_right _ (List.mem_append_left _ (List.mem_of_getElem? h))) g
theorem T13 {i : Nat} {w : Cond} (h : tables_1_3[i]? = some w) (g : goodWord w = true) : w ∈ TsG := T1_in (List.mem_append_right _ (List.mem_append_right _ (List.mem_append_left _ (List.mem_of_getElem? h)))) g
theorem T14 {i : Nat} {w : Cond} (h : tables_1_4[i]? = some w) (g : goodWord w = true) : w ∈ TsG := T1_in (List.mem_append_right _ (List.mem_append_right _ (List.mem_append_right _ (List.mem_of_getElem? h)))) g
theorem T10 {i : Nat} {w : Cond} (h : (k2_sels lw_privs)[i]? = some w) (g : goodWord w = true) : w ∈ TsG := TsG_of (List.mem_append_left _ (List.mem_of_getElem? h)) g
/-- the words of nest mates: they hold at every later state too, but in a way of their own -/
def isNest : Cond → Bool
  | .fieldLinkNest .. => true
  | .methodLinkNest .. => true
  | _ => false
def NsG : List Cond := lw_tbl.filter isNest
def NwU (U : State) : Prop := ∀ w ∈ NsG, va_Nw w U
theorem NwU.warm {s U : State} (hW : s.WarmedH U.vm) (h : NwU s) : NwU U := by
  intro w hw
  have h1 := h w hw
  have h2 := (List.mem_filter.mp hw).2
  cases w <;> first | exact va_Nw.warmF hW h1 | exact va_Nw.warmM hW h1 | (simp [isNest] at h2; done)
theorem NwU.same {s U : State} (hv : s.vm = U.vm) (h : NwU s) : NwU U := by
  intro w hw
  have h1 := h w hw
  have h2 := (List.mem_filter.mp hw).2
  cases w <;> first | exact va_Nw.same rfl hv h1 | (simp [isNest] at h2; done)
theorem NsG_of {w : Cond} (h : w ∈ lw_tbl) (g : isNest w = true) : w ∈ NsG := List.mem_filter.mpr ⟨h, g⟩
theorem N11 {i : Nat} {w : Cond} (h : tables_1_1[i]? = some w) (g : isNest w = true) : w ∈ NsG := NsG_of (List.mem_append_right _ (List.mem_append_left _ (List.mem_of_getElem? h))) g
theorem N12 {i : Nat} {w : Cond} (h : tables_1_2[i]? = some w) (g : isNest w = true) : w ∈ NsG := NsG_of (List.mem_append_right _ (List.mem_append_right _ (List.mem_append_left _ (List.mem_of_getElem? h)))) g
theorem N13 {i : Nat} {w : Cond} (h : tables_1_3[i]? = some w) (g : isNest w = true) : w ∈ NsG := NsG_of (List.mem_append_right _ (List.mem_append_right _ (List.mem_append_right _ (List.mem_append_left _ (List.mem_of_getElem? h))))) g
theorem N14 {i : Nat} {w : Cond} (h : tables_1_4[i]? = some w) (g : isNest w = true) : w ∈ NsG := NsG_of (List.mem_append_right _ (List.mem_append_right _ (List.mem_append_right _ (List.mem_append_right _ (List.mem_of_getElem? h))))) g
/-- the room of a method of height h -/
def rmD (h : Nat) : Room := { frames := h, cells := 0, slots := 0, locals := 64 * h }
/-- locals by their places -/
def lvO (ls : Array Slot) (nL : Nat) (loc : List (Option Value)) : Prop := ls.size = nL ∧ lv_wf ls ∧ ∀ (i : Nat) (v : Value), loc[i]? = some (some v) → ls[i]? = some (.val v)
/-- where a side's cells lie, and the classes of its rows -/
-- the machine around a method: program, launch, environment, start, method, arguments, frames below, the method's row and code, what may change, the classes, the rows' classes
abbrev Dt : Type := (Nat → Nat) × ClassId × ClassId × ClassId × ClassId × ClassId
/-- the classes of the rows: int[], long[], boolean[], int[][], long[][] -/
def dtT (d : Dt) : List (ClassId × FieldType) := [(d.2.1, .int), (d.2.2.1, .long), (d.2.2.2.1, .boolean), (d.2.2.2.2.1, .array .int), (d.2.2.2.2.2, .array .long)]
abbrev Cx : Type := Program × Launch × Env × State × MethodId × Array Value × List Frame × Method × Code × (Nat → Prop) × va_G × Dt
/-- what a method is: its code, its class, its locals, its height, its answer's type -/
abbrev My : Type := ByteArray × String × Nat × Nat × Option FieldType
def xP (X : Cx) : Program := X.1
def xL (X : Cx) : Launch := X.2.1
def xE (X : Cx) : Env := X.2.2.1
def xS (X : Cx) : State := X.2.2.2.1
def xM (X : Cx) : MethodId := X.2.2.2.2.1
def xArgs (X : Cx) : Array Value := X.2.2.2.2.2.1
def xBelow (X : Cx) : List Frame := X.2.2.2.2.2.2.1
def xMeth (X : Cx) : Method := X.2.2.2.2.2.2.2.1
def xC (X : Cx) : Code := X.2.2.2.2.2.2.2.2.1
def xA (X : Cx) : Nat → Prop := X.2.2.2.2.2.2.2.2.2.1
def xD (X : Cx) : va_G := X.2.2.2.2.2.2.2.2.2.2.1
def xd (X : Cx) : Dt := X.2.2.2.2.2.2.2.2.2.2.2
def xT (X : Cx) : List (ClassId × FieldType) := dtT (xd X)
def xa (X : Cx) (c : Nat) : Nat := (xd X).1 c
def CxOk (X : Cx) (Y : My) : Prop :=
  (xP X).tables.exec = Jvm.exec ∧ (xC X).code = Y.1 ∧ (xC X).maxLocals = Y.2.2.1 ∧ (xS X).vm.findClass Y.2.1 = some (xM X).cls ∧ (∀ w ∈ TsG, w.before (xArgs X) (xS X) = true) ∧ (xMeth X).locks = false ∧ va_K (xD X) vwCl (xT X) (xS X) ∧ (∀ q, (xS X).heap.size ≤ q → xA X q) ∧ (xMeth X).sig.returnType = Y.2.2.2.2 ∧ NwU (xS X)
/-- the end of a method: its answer, the world, what else stays -/
def QcU (wl : Dt → St → va_W) (D : va_G) (d : Dt) (A : Nat → Prop) (r : Option Value) (S : St) : Array Value → State → Outcome → State → Prop := fun _ st oc t => (oc = .returned r ∧ va_P D vwCl (wl d S) t.heap ∧ va_K D vwCl (dtT d) t ∧ va_D A (wl d S)) ∧ va_F A st t
/-- from here, if the computation e answers, the machine ends with its answer and its store -/
def KJ {ρ : Type} (X : Cx) (Y : My) (wl : Dt → St → va_W) (inj : ρ → Option Value) (pc : Nat) (loc : List (Option Value)) (st : List Value) (S : St) (e : Option (ρ × St)) : Prop :=
  ∀ (r : ρ) (S' : St), e = some (r, S') → CxOk X Y → ∀ ls : Array Slot, lvO ls Y.2.2.1 loc → ∀ (H : Heap) (locs : List Loc), va_P (xD X) vwCl (wl (xd X) S) H → va_D (xA X) (wl (xd X) S) → va_S (xA X) (xS X).heap H locs →
    W (xP X) (xL X) (xE X) (rmD Y.2.2.2.1) (xS X) (xM X) (xArgs X) (xBelow X) (xMeth X) (xC X) H locs 0 0 (MQ (xBelow X) (QcU wl (xD X) (xd X) (xA X) (inj r) S') (xArgs X) (xS X) 0 0 (xA X)) (F0 (xM X) pc ls st)
def jI : Int32 → Option Value := fun r => some (.int r)
def jL : Int64 → Option Value := fun r => some (.long r)
def jV : Unit → Option Value := fun _ => none
section KL
variable {ρ : Type} {X : Cx} {cc : ByteArray} {own : String} {nL h : Nat} {rt : Option FieldType} {wl : Dt → St → va_W} {inj : ρ → Option Value} {pc tgt : Nat} {loc : List (Option Value)} {st : List Value} {S : St} {e e1 e2 : Option (ρ × St)} {off : Int}
theorem k_none : KJ X (cc, own, nL, h, rt) wl inj pc loc st S (none : Option (ρ × St)) := fun _ _ he => by cases he
theorem k_to {pc' : Nat} (hp : pc = pc') (k : KJ X (cc, own, nL, h, rt) wl inj pc' loc st S e) : KJ X (cc, own, nL, h, rt) wl inj pc loc st S e := hp ▸ k
theorem k_iconst {n : Int} {v : Int32} (hd : decode cc pc = .ok (.iconst n, 1)) (hv : Int32.ofInt n = v) (k : KJ X (cc, own, nL, h, rt) wl inj (pc + 1) loc (.int v :: st) S e) : KJ X (cc, own, nL, h, rt) wl inj pc loc st S e :=
  fun r S' he hC ls hl H locs hP hD hS => lv_iconst hC.1 hC.2.1 hd hv (k r S' he hC ls hl H locs hP hD hS)
theorem k_bipush {n : Int} {v : Int32} (hd : decode cc pc = .ok (.bipush n, 2)) (hv : (Int8.ofInt n).toInt32 = v) (k : KJ X (cc, own, nL, h, rt) wl inj (pc + 2) loc (.int v :: st) S e) : KJ X (cc, own, nL, h, rt) wl inj pc loc st S e :=
  fun r S' he hC ls hl H locs hP hD hS => lv_bipush hC.1 hC.2.1 hd hv (k r S' he hC ls hl H locs hP hD hS)
theorem k_sipush {n : Int} {v : Int32} (hd : decode cc pc = .ok (.sipush n, 3)) (hv : (Int16.ofInt n).toInt32 = v) (k : KJ X (cc, own, nL, h, rt) wl inj (pc + 3) loc (.int v :: st) S e) : KJ X (cc, own, nL, h, rt) wl inj pc loc st S e :=
  fun r S' he hC ls hl H locs hP hD hS => lv_sipush hC.1 hC.2.1 hd hv (k r S' he hC ls hl H locs hP hD hS)
theorem k_lconst {n : Fin 2} {v : Int64} (hd : decode cc pc = .ok (.lconst n, 1)) (hv : Int64.ofNat (n : Nat) = v) (k : KJ X (cc, own, nL, h, rt) wl inj (pc + 1) loc (.long v :: st) S e) : KJ X (cc, own, nL, h, rt) wl inj pc loc st S e :=
  fun r S' he hC ls hl H locs hP hD hS => lv_lconst hC.1 hC.2.1 hd hv (k r S' he hC ls hl H locs hP hD hS)
theorem k_ldc2 {index : Nat} {v : Int64} (hd : decode cc pc = .ok (.ldc2_w index, 3)) (hw : Cond.constantLong own index v ∈ TsG) (k : KJ X (cc, own, nL, h, rt) wl inj (pc + 3) loc (.long v :: st) S e) : KJ X (cc, own, nL, h, rt) wl inj pc loc st S e :=
  fun r S' he hC ls hl H locs hP hD hS => lv_ldc2 hC.1 hC.2.1 hC.2.2.2.1 (hC.2.2.2.2.1 _ hw) hd (k r S' he hC ls hl H locs hP hD hS)
theorem k_iload_n {j : Fin 4} {x : Int32} (hd : decode cc pc = .ok (.iload_n j, 1)) (hv : loc[(j : Nat)]? = some (some (.int x))) (k : KJ X (cc, own, nL, h, rt) wl inj (pc + 1) loc (.int x :: st) S e) : KJ X (cc, own, nL, h, rt) wl inj pc loc st S e :=
  fun r S' he hC ls hl H locs hP hD hS => lv_iload_n hC.1 hC.2.1 hd rfl (hl.2.2 _ _ hv) (k r S' he hC ls hl H locs hP hD hS)
theorem k_iload {j : Nat} {x : Int32} (hd : decode cc pc = .ok (.iload j, 2)) (hv : loc[j]? = some (some (.int x))) (k : KJ X (cc, own, nL, h, rt) wl inj (pc + 2) loc (.int x :: st) S e) : KJ X (cc, own, nL, h, rt) wl inj pc loc st S e :=
  fun r S' he hC ls hl H locs hP hD hS => lv_iload hC.1 hC.2.1 hd (hl.2.2 _ _ hv) (k r S' he hC ls hl H locs hP hD hS)
theorem k_lload_n {j : Fin 4} {x : Int64} (hd : decode cc pc = .ok (.lload_n j, 1)) (hv : loc[(j : Nat)]? = some (some (.long x))) (k : KJ X (cc, own, nL, h, rt) wl inj (pc + 1) loc (.long x :: st) S e) : KJ X (cc, own, nL, h, rt) wl inj pc loc st S e :=
  fun r S' he hC ls hl H locs hP hD hS => lv_lload_n hC.1 hC.2.1 hd rfl (hl.2.2 _ _ hv) (k r S' he hC ls hl H locs hP hD hS)
theorem k_lload {j : Nat} {x : Int64} (hd : decode cc pc = .ok (.lload j, 2)) (hv : loc[j]? = some (some (.long x))) (k : KJ X (cc, own, nL, h, rt) wl inj (pc + 2) loc (.long x :: st) S e) : KJ X (cc, own, nL, h, rt) wl inj pc loc st S e :=
  fun r S' he hC ls hl H locs hP hD hS => lv_lload hC.1 hC.2.1 hd (hl.2.2 _ _ hv) (k r S' he hC ls hl H locs hP hD hS)
theorem k_aload_n {j : Fin 4} {x : Nat} (hd : decode cc pc = .ok (.aload_n j, 1)) (hv : loc[(j : Nat)]? = some (some (.ref x))) (k : KJ X (cc, own, nL, h, rt) wl inj (pc + 1) loc (.ref x :: st) S e) : KJ X (cc, own, nL, h, rt) wl inj pc loc st S e :=
  fun r S' he hC ls hl H locs hP hD hS => lv_aload_n hC.1 hC.2.1 hd rfl (hl.2.2 _ _ hv) (k r S' he hC ls hl H locs hP hD hS)
/-- the pairs that a list of locals has -/
def lvPr (loc : List (Option Value)) : List (Nat × Value) := (List.range loc.length).filterMap (fun i => match loc[i]? with | some (some v) => some (i, v) | _ => none)
theorem lvPr_mem {loc : List (Option Value)} {i : Nat} {v : Value} : (i, v) ∈ lvPr loc ↔ loc[i]? = some (some v) := by
  unfold lvPr
  rw [List.mem_filterMap]
  constructor
  · rintro ⟨j, -, hj⟩
    cases hq : loc[j]? with
    | none => rw [hq] at hj; cases hj
    | some o =>
      cases o with
      | none => rw [hq] at hj; cases hj
      | some w =>
        rw [hq] at hj
        cases hj
        exact hq
  · intro hq
    refine ⟨i, List.mem_range.mpr ?_, by rw [hq]⟩
    exact (List.getElem?_eq_some_iff.mp hq).1
theorem lvO.has {ls : Array Slot} (hl : lvO ls nL loc) : lv_has ls nL (lvPr loc) := ⟨hl.1, hl.2.1, fun q hq => hl.2.2 q.1 q.2 (lvPr_mem.mp hq)⟩
/-- no long stands just ahead of place i -/
def noL (loc : List (Option Value)) (i : Nat) : Bool := match i with
  | 0 => true
  | j + 1 => match loc[j]? with
    | some (some v) => decide (¬ v.category = 2)
    | _ => true
theorem lvO.set1 {ls' : Array Slot} {loc' : List (Option Value)} {i : Nat} {x : Value} (hn : noL loc i = true) (hs : loc.set i (some x) = loc') (hl : lv_has ls' nL ((i, x) :: (lvPr loc).filter (fun q => !(q.1 == i) && !(q.1 + 1 == i && q.2.category == 2)))) : lvO ls' nL loc' := by
  refine ⟨hl.1, hl.2.1, fun j v hj => ?_⟩
  rw [← hs, List.getElem?_set] at hj
  by_cases hij : i = j
  · subst hij
    rw [if_pos rfl] at hj
    by_cases hlt : i < loc.length
    · rw [if_pos hlt] at hj
      cases hj
      exact hl.2.2 _ List.mem_cons_self
    · rw [if_neg hlt] at hj
      cases hj
  · rw [if_neg hij] at hj
    refine hl.2.2 (j, v) (List.mem_cons_of_mem _ (List.mem_filter.mpr ⟨lvPr_mem.mpr hj, ?_⟩))
    simp only [Bool.and_eq_true, Bool.not_eq_true', beq_eq_false_iff_ne, ne_eq, Bool.and_eq_false_iff]
    refine ⟨fun q => hij q.symm, ?_⟩
    by_cases hi : j + 1 = i
    · right
      subst hi
      simp only [noL, hj, decide_eq_true_eq] at hn
      exact hn
    · exact Or.inl hi
theorem lvO.set2 {ls' : Array Slot} {loc' : List (Option Value)} {i : Nat} {x : Value} (hn : noL loc i = true) (hs : (loc.set i (some x)).set (i + 1) none = loc') (hl : lv_has ls' nL ((i, x) :: (lvPr loc).filter (fun q => !(q.1 == i) && (!(q.1 == i + 1) && !(q.1 + 1 == i && q.2.category == 2))))) : lvO ls' nL loc' := by
  refine ⟨hl.1, hl.2.1, fun j v hj => ?_⟩
  rw [← hs, List.getElem?_set] at hj
  by_cases hij1 : i + 1 = j
  · rw [if_pos hij1] at hj
    split at hj <;> cases hj
  · rw [if_neg hij1, List.getElem?_set] at hj
    by_cases hij : i = j
    · subst hij
      rw [if_pos rfl] at hj
      by_cases hlt : i < loc.length
      · rw [if_pos hlt] at hj
        cases hj
        exact hl.2.2 _ List.mem_cons_self
      · rw [if_neg hlt] at hj
        cases hj
    · rw [if_neg hij] at hj
      refine hl.2.2 (j, v) (List.mem_cons_of_mem _ (List.mem_filter.mpr ⟨lvPr_mem.mpr hj, ?_⟩))
      simp only [Bool.and_eq_true, Bool.not_eq_true', beq_eq_false_iff_ne, ne_eq, Bool.and_eq_false_iff]
      refine ⟨fun q => hij q.symm, fun q => hij1 q.symm, ?_⟩
      by_cases hi : j + 1 = i
      · right
        subst hi
        simp only [noL, hj, decide_eq_true_eq] at hn
        exact hn
      · exact Or.inl hi
theorem k_istore_n {j : Fin 4} {x : Int32} {loc' : List (Option Value)} (hd : decode cc pc = .ok (.istore_n j, 1)) (hi : (j : Nat) < nL) (hn : noL loc j = true) (hs : loc.set j (some (.int x)) = loc') (k : KJ X (cc, own, nL, h, rt) wl inj (pc + 1) loc' st S e) : KJ X (cc, own, nL, h, rt) wl inj pc loc (.int x :: st) S e :=
  fun r S' he hC ls hl H locs hP hD hS => lv_istore_n hC.1 hC.2.1 hd rfl hl.has hi rfl (fun ls' hl' => k r S' he hC ls' (lvO.set1 hn hs hl') H locs hP hD hS)
theorem k_istore {j : Nat} {x : Int32} {loc' : List (Option Value)} (hd : decode cc pc = .ok (.istore j, 2)) (hi : j < nL) (hn : noL loc j = true) (hs : loc.set j (some (.int x)) = loc') (k : KJ X (cc, own, nL, h, rt) wl inj (pc + 2) loc' st S e) : KJ X (cc, own, nL, h, rt) wl inj pc loc (.int x :: st) S e :=
  fun r S' he hC ls hl H locs hP hD hS => lv_istore hC.1 hC.2.1 hd hl.has hi rfl (fun ls' hl' => k r S' he hC ls' (lvO.set1 hn hs hl') H locs hP hD hS)
theorem k_lstore_n {j : Fin 4} {x : Int64} {loc' : List (Option Value)} (hd : decode cc pc = .ok (.lstore_n j, 1)) (hi : (j : Nat) + 1 < nL) (hn : noL loc j = true) (hs : (loc.set j (some (.long x))).set (j + 1) none = loc') (k : KJ X (cc, own, nL, h, rt) wl inj (pc + 1) loc' st S e) : KJ X (cc, own, nL, h, rt) wl inj pc loc (.long x :: st) S e :=
  fun r S' he hC ls hl H locs hP hD hS => lv_lstore_n hC.1 hC.2.1 hd rfl hl.has hi rfl (fun ls' hl' => k r S' he hC ls' (lvO.set2 hn hs hl') H locs hP hD hS)
theorem k_lstore {j : Nat} {x : Int64} {loc' : List (Option Value)} (hd : decode cc pc = .ok (.lstore j, 2)) (hi : j + 1 < nL) (hn : noL loc j = true) (hs : (loc.set j (some (.long x))).set (j + 1) none = loc') (k : KJ X (cc, own, nL, h, rt) wl inj (pc + 2) loc' st S e) : KJ X (cc, own, nL, h, rt) wl inj pc loc (.long x :: st) S e :=
  fun r S' he hC ls hl H locs hP hD hS => lv_lstore hC.1 hC.2.1 hd hl.has hi rfl (fun ls' hl' => k r S' he hC ls' (lvO.set2 hn hs hl') H locs hP hD hS)
theorem k_iinc {j : Nat} {n : Int} {x v : Int32} {loc' : List (Option Value)} (hd : decode cc pc = .ok (.iinc j n, 3)) (hv : loc[j]? = some (some (.int x))) (hw : Int32.ofInt n = v) (hi : j < nL) (hn : noL loc j = true) (hs : loc.set j (some (.int (x + v))) = loc') (k : KJ X (cc, own, nL, h, rt) wl inj (pc + 3) loc' st S e) : KJ X (cc, own, nL, h, rt) wl inj pc loc st S e := by
  intro r S' he hC ls hl H locs hP hD hS
  obtain ⟨k0, hk0⟩ := List.getElem?_of_mem (lvPr_mem.mpr hv)
  exact lv_iinc hC.1 hC.2.1 hd hl.has (k := k0) hk0 (by rw [hw]) hi rfl (fun ls' hl' => k r S' he hC ls' (lvO.set1 hn hs hl') H locs hP hD hS)
theorem k_iadd {x y : Int32} (hd : decode cc pc = .ok (.iadd, 1)) (k : KJ X (cc, own, nL, h, rt) wl inj (pc + 1) loc (.int (x + y) :: st) S e) : KJ X (cc, own, nL, h, rt) wl inj pc loc (.int y :: .int x :: st) S e :=
  fun r S' he hC ls hl H locs hP hD hS => lv_iadd hC.1 hC.2.1 hd (k r S' he hC ls hl H locs hP hD hS)
theorem k_isub {x y : Int32} (hd : decode cc pc = .ok (.isub, 1)) (k : KJ X (cc, own, nL, h, rt) wl inj (pc + 1) loc (.int (x - y) :: st) S e) : KJ X (cc, own, nL, h, rt) wl inj pc loc (.int y :: .int x :: st) S e :=
  fun r S' he hC ls hl H locs hP hD hS => lv_isub hC.1 hC.2.1 hd (k r S' he hC ls hl H locs hP hD hS)
theorem k_imul {x y : Int32} (hd : decode cc pc = .ok (.imul, 1)) (k : KJ X (cc, own, nL, h, rt) wl inj (pc + 1) loc (.int (x * y) :: st) S e) : KJ X (cc, own, nL, h, rt) wl inj pc loc (.int y :: .int x :: st) S e :=
  fun r S' he hC ls hl H locs hP hD hS => lv_imul hC.1 hC.2.1 hd (k r S' he hC ls hl H locs hP hD hS)
theorem k_iand {x y : Int32} (hd : decode cc pc = .ok (.iand, 1)) (k : KJ X (cc, own, nL, h, rt) wl inj (pc + 1) loc (.int (x &&& y) :: st) S e) : KJ X (cc, own, nL, h, rt) wl inj pc loc (.int y :: .int x :: st) S e :=
  fun r S' he hC ls hl H locs hP hD hS => lv_iand hC.1 hC.2.1 hd (k r S' he hC ls hl H locs hP hD hS)
theorem k_ior {x y : Int32} (hd : decode cc pc = .ok (.ior, 1)) (k : KJ X (cc, own, nL, h, rt) wl inj (pc + 1) loc (.int (x ||| y) :: st) S e) : KJ X (cc, own, nL, h, rt) wl inj pc loc (.int y :: .int x :: st) S e :=
  fun r S' he hC ls hl H locs hP hD hS => lv_ior hC.1 hC.2.1 hd (k r S' he hC ls hl H locs hP hD hS)
theorem k_ixor {x y : Int32} (hd : decode cc pc = .ok (.ixor, 1)) (k : KJ X (cc, own, nL, h, rt) wl inj (pc + 1) loc (.int (x ^^^ y) :: st) S e) : KJ X (cc, own, nL, h, rt) wl inj pc loc (.int y :: .int x :: st) S e :=
  fun r S' he hC ls hl H locs hP hD hS => lv_ixor hC.1 hC.2.1 hd (k r S' he hC ls hl H locs hP hD hS)
theorem k_ishl {x y : Int32} (hd : decode cc pc = .ok (.ishl, 1)) (k : KJ X (cc, own, nL, h, rt) wl inj (pc + 1) loc (.int (x <<< (y &&& 31)) :: st) S e) : KJ X (cc, own, nL, h, rt) wl inj pc loc (.int y :: .int x :: st) S e :=
  fun r S' he hC ls hl H locs hP hD hS => lv_ishl hC.1 hC.2.1 hd (k r S' he hC ls hl H locs hP hD hS)
theorem k_ishr {x y : Int32} (hd : decode cc pc = .ok (.ishr, 1)) (k : KJ X (cc, own, nL, h, rt) wl inj (pc + 1) loc (.int (x >>> (y &&& 31)) :: st) S e) : KJ X (cc, own, nL, h, rt) wl inj pc loc (.int y :: .int x :: st) S e :=
  fun r S' he hC ls hl H locs hP hD hS => lv_ishr hC.1 hC.2.1 hd (k r S' he hC ls hl H locs hP hD hS)
theorem k_idiv {x y : Int32} (hd : decode cc pc = .ok (.idiv, 1)) (k : KJ X (cc, own, nL, h, rt) wl inj (pc + 1) loc (.int (x / y) :: st) S e) : KJ X (cc, own, nL, h, rt) wl inj pc loc (.int y :: .int x :: st) S (chk (decide (¬ y = 0)) e) :=
  fun r S' he hC ls hl H locs hP hD hS => lv_idiv hC.1 hC.2.1 hd (of_decide_eq_true (chk_some he).1) (k r S' (chk_some he).2 hC ls hl H locs hP hD hS)
theorem k_irem {x y : Int32} (hd : decode cc pc = .ok (.irem, 1)) (k : KJ X (cc, own, nL, h, rt) wl inj (pc + 1) loc (.int (x - x / y * y) :: st) S e) : KJ X (cc, own, nL, h, rt) wl inj pc loc (.int y :: .int x :: st) S (chk (decide (¬ y = 0)) e) :=
  fun r S' he hC ls hl H locs hP hD hS => lv_irem hC.1 hC.2.1 hd (of_decide_eq_true (chk_some he).1) (k r S' (chk_some he).2 hC ls hl H locs hP hD hS)
theorem k_ladd {x y : Int64} (hd : decode cc pc = .ok (.ladd, 1)) (k : KJ X (cc, own, nL, h, rt) wl inj (pc + 1) loc (.long (x + y) :: st) S e) : KJ X (cc, own, nL, h, rt) wl inj pc loc (.long y :: .long x :: st) S e :=
  fun r S' he hC ls hl H locs hP hD hS => lv_ladd hC.1 hC.2.1 hd (k r S' he hC ls hl H locs hP hD hS)
theorem k_lmul {x y : Int64} (hd : decode cc pc = .ok (.lmul, 1)) (k : KJ X (cc, own, nL, h, rt) wl inj (pc + 1) loc (.long (x * y) :: st) S e) : KJ X (cc, own, nL, h, rt) wl inj pc loc (.long y :: .long x :: st) S e :=
  fun r S' he hC ls hl H locs hP hD hS => lv_lmul hC.1 hC.2.1 hd (k r S' he hC ls hl H locs hP hD hS)
theorem k_ldiv {x y : Int64} (hd : decode cc pc = .ok (.ldiv, 1)) (k : KJ X (cc, own, nL, h, rt) wl inj (pc + 1) loc (.long (x / y) :: st) S e) : KJ X (cc, own, nL, h, rt) wl inj pc loc (.long y :: .long x :: st) S (chk (decide (¬ y = 0)) e) :=
  fun r S' he hC ls hl H locs hP hD hS => lv_ldiv hC.1 hC.2.1 hd (of_decide_eq_true (chk_some he).1) (k r S' (chk_some he).2 hC ls hl H locs hP hD hS)
theorem k_lrem {x y : Int64} (hd : decode cc pc = .ok (.lrem, 1)) (k : KJ X (cc, own, nL, h, rt) wl inj (pc + 1) loc (.long (x - x / y * y) :: st) S e) : KJ X (cc, own, nL, h, rt) wl inj pc loc (.long y :: .long x :: st) S (chk (decide (¬ y = 0)) e) :=
  fun r S' he hC ls hl H locs hP hD hS => lv_lrem hC.1 hC.2.1 hd (of_decide_eq_true (chk_some he).1) (k r S' (chk_some he).2 hC ls hl H locs hP hD hS)
theorem k_i2l {x : Int32} (hd : decode cc pc = .ok (.i2l, 1)) (k : KJ X (cc, own, nL, h, rt) wl inj (pc + 1) loc (.long x.toInt64 :: st) S e) : KJ X (cc, own, nL, h, rt) wl inj pc loc (.int x :: st) S e :=
  fun r S' he hC ls hl H locs hP hD hS => lv_i2l hC.1 hC.2.1 hd rfl (k r S' he hC ls hl H locs hP hD hS)
theorem k_lcmp {x y : Int64} (hd : decode cc pc = .ok (.lcmp, 1)) (k : KJ X (cc, own, nL, h, rt) wl inj (pc + 1) loc (.int (lg_cmp x y) :: st) S e) : KJ X (cc, own, nL, h, rt) wl inj pc loc (.long y :: .long x :: st) S e :=
  fun r S' he hC ls hl H locs hP hD hS => W.lcmp hC.1 hC.2.1 hd (k r S' he hC ls hl H locs hP hD hS)
theorem k_dup {v : Value} (hd : decode cc pc = .ok (.dup, 1)) (hv : v.category = 1) (k : KJ X (cc, own, nL, h, rt) wl inj (pc + 1) loc (v :: v :: st) S e) : KJ X (cc, own, nL, h, rt) wl inj pc loc (v :: st) S e :=
  fun r S' he hC ls hl H locs hP hD hS => lv_dup hC.1 hC.2.1 hd hv (k r S' he hC ls hl H locs hP hD hS)
theorem k_dup2 {v w : Value} (hd : decode cc pc = .ok (.dup2, 1)) (hv : v.category = 1) (hw : w.category = 1) (k : KJ X (cc, own, nL, h, rt) wl inj (pc + 1) loc (v :: w :: v :: w :: st) S e) : KJ X (cc, own, nL, h, rt) wl inj pc loc (v :: w :: st) S e :=
  fun r S' he hC ls hl H locs hP hD hS => lv_dup2_11 hC.1 hC.2.1 hd hv hw (k r S' he hC ls hl H locs hP hD hS)
theorem k_goto (hd : decode cc pc = .ok (.goto off, 3)) (ht : (pc : Int) + off = (tgt : Int)) (k : KJ X (cc, own, nL, h, rt) wl inj tgt loc st S e) : KJ X (cc, own, nL, h, rt) wl inj pc loc st S e :=
  fun r S' he hC ls hl H locs hP hD hS => lv_goto hC.1 hC.2.1 hd ht (k r S' he hC ls hl H locs hP hD hS)
end KL
section KB
variable {ρ : Type} {X : Cx} {cc : ByteArray} {own : String} {nL h : Nat} {rt : Option FieldType} {wl : Dt → St → va_W} {inj : ρ → Option Value} {pc tgt : Nat} {loc : List (Option Value)} {st : List Value} {S : St} {e1 e2 : Option (ρ × St)} {off : Int}
theorem k_icmp_eq {x y : Int32} (hd : decode cc pc = .ok (.if_icmp .eq off, 3)) (ht : (pc : Int) + off = (tgt : Int)) (kt : x = y → KJ X (cc, own, nL, h, rt) wl inj tgt loc st S e1) (kf : ¬ x = y → KJ X (cc, own, nL, h, rt) wl inj (pc + 3) loc st S e2) : KJ X (cc, own, nL, h, rt) wl inj pc loc (.int y :: .int x :: st) S (if x = y then e1 else e2) :=
  fun r S' he hC ls hl H locs hP hD hS => lv_icmp_eq hC.1 hC.2.1 hd ht (fun c => kt c r S' (by rw [if_pos c] at he; exact he) hC ls hl H locs hP hD hS) (fun c => kf c r S' (by rw [if_neg c] at he; exact he) hC ls hl H locs hP hD hS)
theorem k_if_eq {x : Int32} (hd : decode cc pc = .ok (.ifCond .eq off, 3)) (ht : (pc : Int) + off = (tgt : Int)) (kt : x = 0 → KJ X (cc, own, nL, h, rt) wl inj tgt loc st S e1) (kf : ¬ x = 0 → KJ X (cc, own, nL, h, rt) wl inj (pc + 3) loc st S e2) : KJ X (cc, own, nL, h, rt) wl inj pc loc (.int x :: st) S (if x = 0 then e1 else e2) :=
  fun r S' he hC ls hl H locs hP hD hS => lv_if_eq hC.1 hC.2.1 hd ht (fun c => kt c r S' (by rw [if_pos c] at he; exact he) hC ls hl H locs hP hD hS) (fun c => kf c r S' (by rw [if_neg c] at he; exact he) hC ls hl H locs hP hD hS)
theorem k_icmp_lt {x y : Int32} (hd : decode cc pc = .ok (.if_icmp .lt off, 3)) (ht : (pc : Int) + off = (tgt : Int)) (kt : x < y → KJ X (cc, own, nL, h, rt) wl inj tgt loc st S e1) (kf : ¬ x < y → KJ X (cc, own, nL, h, rt) wl inj (pc + 3) loc st S e2) : KJ X (cc, own, nL, h, rt) wl inj pc loc (.int y :: .int x :: st) S (if x < y then e1 else e2) :=
  fun r S' he hC ls hl H locs hP hD hS => lv_icmp_lt hC.1 hC.2.1 hd ht (fun c => kt c r S' (by rw [if_pos c] at he; exact he) hC ls hl H locs hP hD hS) (fun c => kf c r S' (by rw [if_neg c] at he; exact he) hC ls hl H locs hP hD hS)
theorem k_if_lt {x : Int32} (hd : decode cc pc = .ok (.ifCond .lt off, 3)) (ht : (pc : Int) + off = (tgt : Int)) (kt : x < 0 → KJ X (cc, own, nL, h, rt) wl inj tgt loc st S e1) (kf : ¬ x < 0 → KJ X (cc, own, nL, h, rt) wl inj (pc + 3) loc st S e2) : KJ X (cc, own, nL, h, rt) wl inj pc loc (.int x :: st) S (if x < 0 then e1 else e2) :=
  fun r S' he hC ls hl H locs hP hD hS => lv_if_lt hC.1 hC.2.1 hd ht (fun c => kt c r S' (by rw [if_pos c] at he; exact he) hC ls hl H locs hP hD hS) (fun c => kf c r S' (by rw [if_neg c] at he; exact he) hC ls hl H locs hP hD hS)
theorem k_icmp_ge {x y : Int32} (hd : decode cc pc = .ok (.if_icmp .ge off, 3)) (ht : (pc : Int) + off = (tgt : Int)) (kt : y ≤ x → KJ X (cc, own, nL, h, rt) wl inj tgt loc st S e1) (kf : ¬ y ≤ x → KJ X (cc, own, nL, h, rt) wl inj (pc + 3) loc st S e2) : KJ X (cc, own, nL, h, rt) wl inj pc loc (.int y :: .int x :: st) S (if y ≤ x then e1 else e2) :=
  fun r S' he hC ls hl H locs hP hD hS => lv_icmp_ge hC.1 hC.2.1 hd ht (fun c => kt c r S' (by rw [if_pos c] at he; exact he) hC ls hl H locs hP hD hS) (fun c => kf c r S' (by rw [if_neg c] at he; exact he) hC ls hl H locs hP hD hS)
theorem k_if_ge {x : Int32} (hd : decode cc pc = .ok (.ifCond .ge off, 3)) (ht : (pc : Int) + off = (tgt : Int)) (kt : 0 ≤ x → KJ X (cc, own, nL, h, rt) wl inj tgt loc st S e1) (kf : ¬ 0 ≤ x → KJ X (cc, own, nL, h, rt) wl inj (pc + 3) loc st S e2) : KJ X (cc, own, nL, h, rt) wl inj pc loc (.int x :: st) S (if 0 ≤ x then e1 else e2) :=
  fun r S' he hC ls hl H locs hP hD hS => lv_if_ge hC.1 hC.2.1 hd ht (fun c => kt c r S' (by rw [if_pos c] at he; exact he) hC ls hl H locs hP hD hS) (fun c => kf c r S' (by rw [if_neg c] at he; exact he) hC ls hl H locs hP hD hS)
theorem k_icmp_gt {x y : Int32} (hd : decode cc pc = .ok (.if_icmp .gt off, 3)) (ht : (pc : Int) + off = (tgt : Int)) (kt : y < x → KJ X (cc, own, nL, h, rt) wl inj tgt loc st S e1) (kf : ¬ y < x → KJ X (cc, own, nL, h, rt) wl inj (pc + 3) loc st S e2) : KJ X (cc, own, nL, h, rt) wl inj pc loc (.int y :: .int x :: st) S (if y < x then e1 else e2) :=
  fun r S' he hC ls hl H locs hP hD hS => lv_icmp_gt hC.1 hC.2.1 hd ht (fun c => kt c r S' (by rw [if_pos c] at he; exact he) hC ls hl H locs hP hD hS) (fun c => kf c r S' (by rw [if_neg c] at he; exact he) hC ls hl H locs hP hD hS)
theorem k_if_gt {x : Int32} (hd : decode cc pc = .ok (.ifCond .gt off, 3)) (ht : (pc : Int) + off = (tgt : Int)) (kt : 0 < x → KJ X (cc, own, nL, h, rt) wl inj tgt loc st S e1) (kf : ¬ 0 < x → KJ X (cc, own, nL, h, rt) wl inj (pc + 3) loc st S e2) : KJ X (cc, own, nL, h, rt) wl inj pc loc (.int x :: st) S (if 0 < x then e1 else e2) :=
  fun r S' he hC ls hl H locs hP hD hS => lv_if_gt hC.1 hC.2.1 hd ht (fun c => kt c r S' (by rw [if_pos c] at he; exact he) hC ls hl H locs hP hD hS) (fun c => kf c r S' (by rw [if_neg c] at he; exact he) hC ls hl H locs hP hD hS)
theorem k_icmp_le {x y : Int32} (hd : decode cc pc = .ok (.if_icmp .le off, 3)) (ht : (pc : Int) + off = (tgt : Int)) (kt : x ≤ y → KJ X (cc, own, nL, h, rt) wl inj tgt loc st S e1) (kf : ¬ x ≤ y → KJ X (cc, own, nL, h, rt) wl inj (pc + 3) loc st S e2) : KJ X (cc, own, nL, h, rt) wl inj pc loc (.int y :: .int x :: st) S (if x ≤ y then e1 else e2) :=
  fun r S' he hC ls hl H locs hP hD hS => lv_icmp_le hC.1 hC.2.1 hd ht (fun c => kt c r S' (by rw [if_pos c] at he; exact he) hC ls hl H locs hP hD hS) (fun c => kf c r S' (by rw [if_neg c] at he; exact he) hC ls hl H locs hP hD hS)
theorem k_if_le {x : Int32} (hd : decode cc pc = .ok (.ifCond .le off, 3)) (ht : (pc : Int) + off = (tgt : Int)) (kt : x ≤ 0 → KJ X (cc, own, nL, h, rt) wl inj tgt loc st S e1) (kf : ¬ x ≤ 0 → KJ X (cc, own, nL, h, rt) wl inj (pc + 3) loc st S e2) : KJ X (cc, own, nL, h, rt) wl inj pc loc (.int x :: st) S (if x ≤ 0 then e1 else e2) :=
  fun r S' he hC ls hl H locs hP hD hS => lv_if_le hC.1 hC.2.1 hd ht (fun c => kt c r S' (by rw [if_pos c] at he; exact he) hC ls hl H locs hP hD hS) (fun c => kf c r S' (by rw [if_neg c] at he; exact he) hC ls hl H locs hP hD hS)
theorem k_icmp_ne {x y : Int32} (hd : decode cc pc = .ok (.if_icmp .ne off, 3)) (ht : (pc : Int) + off = (tgt : Int)) (kt : ¬ x = y → KJ X (cc, own, nL, h, rt) wl inj tgt loc st S e1) (kf : x = y → KJ X (cc, own, nL, h, rt) wl inj (pc + 3) loc st S e2) : KJ X (cc, own, nL, h, rt) wl inj pc loc (.int y :: .int x :: st) S (if x = y then e2 else e1) :=
  fun r S' he hC ls hl H locs hP hD hS => lv_icmp_ne hC.1 hC.2.1 hd ht (fun c => kt c r S' (by rw [if_neg c] at he; exact he) hC ls hl H locs hP hD hS) (fun c => kf c r S' (by rw [if_pos c] at he; exact he) hC ls hl H locs hP hD hS)
theorem k_if_ne {x : Int32} (hd : decode cc pc = .ok (.ifCond .ne off, 3)) (ht : (pc : Int) + off = (tgt : Int)) (kt : ¬ x = 0 → KJ X (cc, own, nL, h, rt) wl inj tgt loc st S e1) (kf : x = 0 → KJ X (cc, own, nL, h, rt) wl inj (pc + 3) loc st S e2) : KJ X (cc, own, nL, h, rt) wl inj pc loc (.int x :: st) S (if x = 0 then e2 else e1) :=
  fun r S' he hC ls hl H locs hP hD hS => lv_if_ne hC.1 hC.2.1 hd ht (fun c => kt c r S' (by rw [if_neg c] at he; exact he) hC ls hl H locs hP hD hS) (fun c => kf c r S' (by rw [if_pos c] at he; exact he) hC ls hl H locs hP hD hS)
end KB
end
section
/-! ===== rows, fields, calls, ends ===== -/
theorem inB_lt {i : Int32} {n : Nat} (h : inB i n = true) : i.toNatClampNeg < n := by
  simp only [inB, Bool.and_eq_true, decide_eq_true_eq] at h
  exact h.2
/-- cell c of the world is an int row of length n, number c of the store -/
def AI (wl : Dt → St → va_W) (c n : Nat) : Prop := ∀ (d : Dt) (S : St), (wl d S)[c]? = some (d.1 c, .inl (d.2.1, n, .inl (gA S c))) ∧ ∀ f : Nat → Int32, (wl d S).set c (d.1 c, .inl (d.2.1, n, .inl f)) = wl d (sA S c f)
def AL (wl : Dt → St → va_W) (c n : Nat) : Prop := ∀ (d : Dt) (S : St), (wl d S)[c]? = some (d.1 c, .inl (d.2.2.1, n, .inr (.inl (gB S c)))) ∧ ∀ f : Nat → Int64, (wl d S).set c (d.1 c, .inl (d.2.2.1, n, .inr (.inl f))) = wl d (sB S c f)
def AZ (wl : Dt → St → va_W) (c n : Nat) : Prop := ∀ (d : Dt) (S : St), (wl d S)[c]? = some (d.1 c, .inl (d.2.2.2.1, n, .inl (gA S c))) ∧ ∀ f : Nat → Int32, (wl d S).set c (d.1 c, .inl (d.2.2.2.1, n, .inl f)) = wl d (sA S c f)
/-- cell c is a row of n rows, the cells b, b + 1, .. -/
def AR (wl : Dt → St → va_W) (c n b : Nat) : Prop := ∃ (t0 : Nat) (ty : FieldType) (cR : Dt → ClassId), (∀ d : Dt, (dtT d)[t0]? = some (cR d, .array ty)) ∧ ∀ (d : Dt) (S : St), (wl d S)[c]? = some (d.1 c, .inl (cR d, n, .inr (.inr (.inr (.inr (fun i => some (d.1 (b + i))))))))
/-- getfield idx in class own at cell q gives v -/
def GF (wl : Dt → St → va_W) (own : String) (idx q : Nat) (v : Dt → St → Value) : Prop := ∃ (ci sl : Nat) (C : String) (T : u_T) (N : Nat), vwCl[ci]? = some (C, T, N) ∧ (∀ w ∈ u_ws C T N, w ∈ TsG) ∧ sl < N ∧ (Cond.fieldLink own idx C (T sl).2.1 (T sl).2.2.1 ∈ TsG ∨ ∃ host, Cond.fieldLinkNest own idx C (T sl).2.1 (T sl).2.2.1 host ∈ NsG) ∧ (T sl).1 = C ∧ ∀ (d : Dt) (S : St), ∃ fs : List Value, (wl d S)[q]? = some (d.1 q, .inr (ci, fs)) ∧ fs[sl]? = some (v d S)
/-- putfield idx in class own at cell q, of a value that fits -/
def PF (wl : Dt → St → va_W) (own : String) (idx q : Nat) (v : Value) (g : St → St) : Prop := ∃ (ci sl : Nat) (C : String) (T : u_T) (N : Nat) (ty0 : Nat → FieldType), vwCl[ci]? = some (C, T, N) ∧ (∀ w ∈ u_ws C T N, w ∈ TsG) ∧ sl < N ∧ Cond.fieldLink own idx C (T sl).2.1 (T sl).2.2.1 ∈ TsG ∧ (T sl).1 = C ∧ (∀ k, k < N → parseFieldDescriptor (T k).2.2.1 = some (ty0 k)) ∧ (∀ a, a < N → ∀ b, b < N → a ≠ b → (T a).2.1 ≠ (T b).2.1) ∧ (T sl).2.2.2 = false ∧ narrow (ty0 sl) v = v ∧ fits (ty0 sl) v = true ∧ ∀ (d : Dt) (S : St), ∃ fs : List Value, (wl d S)[q]? = some (d.1 q, .inr (ci, fs)) ∧ sl < fs.length ∧ (wl d S).set q (d.1 q, .inr (ci, fs.set sl v)) = wl d (g S)
section KH
variable {ρ : Type} {X : Cx} {cc : ByteArray} {own : String} {nL h : Nat} {rt : Option FieldType} {wl : Dt → St → va_W} {inj : ρ → Option Value} {pc tgt : Nat} {loc : List (Option Value)} {st : List Value} {S : St} {e e1 e2 : Option (ρ × St)} {off : Int} {c n : Nat}
theorem k_iald {i : Int32} (ha : AI wl c n) (hd : decode cc pc = .ok (.iaload, 1)) (k : KJ X (cc, own, nL, h, rt) wl inj (pc + 1) loc (.int (gA S c i.toNatClampNeg) :: st) S e) : KJ X (cc, own, nL, h, rt) wl inj pc loc (.int i :: .ref (xa X c) :: st) S (chk (inB i n) e) :=
  fun r S' he hC ls hl H locs hP hD hS => va_iald hC.1 hC.2.1 hC.2.2.2.2.2.2.1 hP c 0 (ha (xd X) S).1 rfl (inB_in (chk_some he).1) hd (k r S' (chk_some he).2 hC ls hl H locs hP hD hS)
theorem k_zald {i : Int32} (ha : AZ wl c n) (hd : decode cc pc = .ok (.baload, 1)) (k : KJ X (cc, own, nL, h, rt) wl inj (pc + 1) loc (.int (gA S c i.toNatClampNeg) :: st) S e) : KJ X (cc, own, nL, h, rt) wl inj pc loc (.int i :: .ref (xa X c) :: st) S (chk (inB i n) e) :=
  fun r S' he hC ls hl H locs hP hD hS => va_zald hC.1 hC.2.1 hC.2.2.2.2.2.2.1 hP c 2 (ha (xd X) S).1 rfl (inB_in (chk_some he).1) hd (k r S' (chk_some he).2 hC ls hl H locs hP hD hS)
theorem k_lald {i : Int32} (ha : AL wl c n) (hd : decode cc pc = .ok (.laload, 1)) (k : KJ X (cc, own, nL, h, rt) wl inj (pc + 1) loc (.long (gB S c i.toNatClampNeg) :: st) S e) : KJ X (cc, own, nL, h, rt) wl inj pc loc (.int i :: .ref (xa X c) :: st) S (chk (inB i n) e) :=
  fun r S' he hC ls hl H locs hP hD hS => va_lald hC.1 hC.2.1 hC.2.2.2.2.2.2.1 hP c 1 (ha (xd X) S).1 rfl (inB_in (chk_some he).1) hd (k r S' (chk_some he).2 hC ls hl H locs hP hD hS)
theorem k_iast {i x : Int32} (ha : AI wl c n) (hd : decode cc pc = .ok (.iastore, 1)) (k : KJ X (cc, own, nL, h, rt) wl inj (pc + 1) loc st (sA S c (upd (gA S c) i.toNatClampNeg x)) e) : KJ X (cc, own, nL, h, rt) wl inj pc loc (.int x :: .int i :: .ref (xa X c) :: st) S (chk (inB i n) e) :=
  fun r S' he hC ls hl H locs hP hD hS => va_iast hC.1 hC.2.1 hC.2.2.2.2.2.2.1 hP hD hS c 0 (ha (xd X) S).1 rfl (inB_in (chk_some he).1) hd (fun H1 locs1 hP1 hD1 hS1 => k r S' (chk_some he).2 hC ls hl H1 locs1 (by rw [← (ha (xd X) S).2]; exact hP1) (by rw [← (ha (xd X) S).2]; exact hD1) hS1)
theorem k_zast {i x : Int32} (ha : AZ wl c n) (hd : decode cc pc = .ok (.bastore, 1)) (k : KJ X (cc, own, nL, h, rt) wl inj (pc + 1) loc st (sA S c (upd (gA S c) i.toNatClampNeg (vp_nar .boolean x))) e) : KJ X (cc, own, nL, h, rt) wl inj pc loc (.int x :: .int i :: .ref (xa X c) :: st) S (chk (inB i n) e) :=
  fun r S' he hC ls hl H locs hP hD hS => va_zast hC.1 hC.2.1 hC.2.2.2.2.2.2.1 hP hD hS c 2 (ha (xd X) S).1 rfl (inB_in (chk_some he).1) hd (fun H1 locs1 hP1 hD1 hS1 => k r S' (chk_some he).2 hC ls hl H1 locs1 (by rw [← (ha (xd X) S).2]; exact hP1) (by rw [← (ha (xd X) S).2]; exact hD1) hS1)
theorem k_last {i : Int32} {x : Int64} (ha : AL wl c n) (hd : decode cc pc = .ok (.lastore, 1)) (k : KJ X (cc, own, nL, h, rt) wl inj (pc + 1) loc st (sB S c (vp_updL (gB S c) i.toNatClampNeg x)) e) : KJ X (cc, own, nL, h, rt) wl inj pc loc (.long x :: .int i :: .ref (xa X c) :: st) S (chk (inB i n) e) :=
  fun r S' he hC ls hl H locs hP hD hS => va_last hC.1 hC.2.1 hC.2.2.2.2.2.2.1 hP hD hS c 1 (ha (xd X) S).1 rfl (inB_in (chk_some he).1) hd (fun H1 locs1 hP1 hD1 hS1 => k r S' (chk_some he).2 hC ls hl H1 locs1 (by rw [← (ha (xd X) S).2]; exact hP1) (by rw [← (ha (xd X) S).2]; exact hD1) hS1)
theorem k_aald {i : Int32} {b : Nat} (ha : AR wl c n b) (hd : decode cc pc = .ok (.aaload, 1)) (k : inB i n = true → KJ X (cc, own, nL, h, rt) wl inj (pc + 1) loc (.ref (xa X (b + i.toNatClampNeg)) :: st) S e) : KJ X (cc, own, nL, h, rt) wl inj pc loc (.int i :: .ref (xa X c) :: st) S (chk (inB i n) e) := by
  intro r S' he hC ls hl H locs hP hD hS
  obtain ⟨t0, ty, cR, ht, hw⟩ := ha
  have hin := inB_in (chk_some he).1
  have hlt := inB_lt (chk_some he).1
  exact W.aald (v := .ref (xa X (b + i.toNatClampNeg))) (ty := .array ty) hC.1 hC.2.1 (hP c _ (hw (xd X) S)) ((hC.2.2.2.2.2.2.1.2 t0 _ (ht (xd X))).1 n (fun j => va_rf (some ((xd X).1 (b + j))))) rfl (fun q => by cases q) (by show ¬ (i < 0 ∨ (arrV _ _ _).slots.size ≤ _); rw [arrV_size]; exact hin) (by show (arrV _ _ _).slots[_]? = _; rw [arrV_read _ _ hlt]; rfl) rfl rfl hd (k (chk_some he).1 r S' (chk_some he).2 hC ls hl H locs hP hD hS)
theorem k_get {idx q : Nat} {v : Dt → St → Value} (hf : GF wl own idx q v) (hd : decode cc pc = .ok (.getfield idx, 3)) (k : KJ X (cc, own, nL, h, rt) wl inj (pc + 3) loc (v (xd X) S :: st) S e) : KJ X (cc, own, nL, h, rt) wl inj pc loc (.ref (xa X q) :: st) S e := by
  intro r S' he hC ls hl H locs hP hD hS
  obtain ⟨ci, sl, C, T, N, h1, h2, h3, h4, h5, h6⟩ := hf
  obtain ⟨fs, h7, h8⟩ := h6 (xd X) S
  rcases h4 with h4 | ⟨host, h4⟩
  · exact va_get hC.1 hC.2.1 hC.2.2.2.2.1 h2 hC.2.2.2.1 hC.2.2.2.2.2.2.1 hP q h7 h1 sl h3 (hC.2.2.2.2.1 _ h4) (fun x hx => by rw [h5] at hx; exact hx) h8 hd (k r S' he hC ls hl H locs hP hD hS)
  · exact va_getN hC.1 hC.2.1 hC.2.2.2.2.1 h2 hC.2.2.2.1 hC.2.2.2.2.2.2.1 hP q h7 h1 sl h3 (va_Nw.use rfl (hC.2.2.2.2.2.2.2.2.2 _ h4)) (fun x hx => by rw [h5] at hx; exact hx) h8 hd (k r S' he hC ls hl H locs hP hD hS)
theorem k_put {idx q : Nat} {v : Value} {g : St → St} (hf : PF wl own idx q v g) (hd : decode cc pc = .ok (.putfield idx, 3)) (k : KJ X (cc, own, nL, h, rt) wl inj (pc + 3) loc st (g S) e) : KJ X (cc, own, nL, h, rt) wl inj pc loc (v :: .ref (xa X q) :: st) S e := by
  intro r S' he hC ls hl H locs hP hD hS
  obtain ⟨ci, sl, C, T, N, ty0, h1, h2, h3, h4, h5, g1, g2, g3, g4, g5, h6⟩ := hf
  obtain ⟨fs, h7, h8, h9⟩ := h6 (xd X) S
  exact va_put hC.1 hC.2.1 hC.2.2.2.2.1 h2 ty0 g1 g2 hC.2.2.2.1 hC.2.2.2.2.2.2.1 hP hD hS q h7 h1 sl h3 (hC.2.2.2.2.1 _ h4) (fun x hx => by rw [h5] at hx; exact hx) g3 (g1 sl h3) g4 g5 h8 hd (fun H1 locs1 hP1 hD1 hS1 => k r S' he hC ls hl H1 locs1 (by rw [← h9]; exact hP1) (by rw [← h9]; exact hD1) hS1)
theorem k_getI {idx q id : Nat} (hf : GF wl own idx q (fun _ S => .int (gI S id))) (hd : decode cc pc = .ok (.getfield idx, 3)) (k : KJ X (cc, own, nL, h, rt) wl inj (pc + 3) loc (.int (gI S id) :: st) S e) : KJ X (cc, own, nL, h, rt) wl inj pc loc (.ref (xa X q) :: st) S e := k_get hf hd k
theorem k_getL {idx q id : Nat} (hf : GF wl own idx q (fun _ S => .long (gL S id))) (hd : decode cc pc = .ok (.getfield idx, 3)) (k : KJ X (cc, own, nL, h, rt) wl inj (pc + 3) loc (.long (gL S id) :: st) S e) : KJ X (cc, own, nL, h, rt) wl inj pc loc (.ref (xa X q) :: st) S e := k_get hf hd k
theorem k_getR {idx q id : Nat} (hf : GF wl own idx q (fun d _ => .ref (d.1 id))) (hd : decode cc pc = .ok (.getfield idx, 3)) (k : KJ X (cc, own, nL, h, rt) wl inj (pc + 3) loc (.ref (xa X id) :: st) S e) : KJ X (cc, own, nL, h, rt) wl inj pc loc (.ref (xa X q) :: st) S e := k_get hf hd k
theorem k_putI {idx q id : Nat} {x : Int32} (hf : ∀ x : Int32, PF wl own idx q (.int x) (fun S => sI S id x)) (hd : decode cc pc = .ok (.putfield idx, 3)) (k : KJ X (cc, own, nL, h, rt) wl inj (pc + 3) loc st (sI S id x) e) : KJ X (cc, own, nL, h, rt) wl inj pc loc (.int x :: .ref (xa X q) :: st) S e := k_put (hf x) hd k
theorem k_putL {idx q id : Nat} {x : Int64} (hf : ∀ x : Int64, PF wl own idx q (.long x) (fun S => sL S id x)) (hd : decode cc pc = .ok (.putfield idx, 3)) (k : KJ X (cc, own, nL, h, rt) wl inj (pc + 3) loc st (sL S id x) e) : KJ X (cc, own, nL, h, rt) wl inj pc loc (.long x :: .ref (xa X q) :: st) S e := k_put (hf x) hd k
theorem k_putZ {idx q id : Nat} {x : Int32} (hf : ∀ x : Int32, (x = 0 ∨ x = 1) → PF wl own idx q (.int x) (fun S => sI S id x)) (hx : x = 0 ∨ x = 1) (hd : decode cc pc = .ok (.putfield idx, 3)) (k : KJ X (cc, own, nL, h, rt) wl inj (pc + 3) loc st (sI S id x) e) : KJ X (cc, own, nL, h, rt) wl inj pc loc (.int x :: .ref (xa X q) :: st) S e := k_put (hf x hx) hd k
theorem k_iret {v : Int32} (hd : decode cc pc = .ok (.ireturn, 1)) : KJ X (cc, own, nL, h, some .int) wl jI pc loc [.int v] S (some (v, S)) := by
  intro r S' he hC ls hl H locs hP hD hS
  cases he
  have hlocks := hC.2.2.2.2.2.1
  exact W.iret hC.1 hC.2.1 hC.2.2.2.2.2.2.2.2.1 (fun t ht hW => ⟨⟨rfl, by rw [ht]; exact hP, va_K.moved hW.alike hC.2.2.2.2.2.2.1, hD⟩, hS.F ht⟩) hS.2.2 hd
theorem k_zret {v : Int32} (hv : v = 0 ∨ v = 1) (hd : decode cc pc = .ok (.ireturn, 1)) : KJ X (cc, own, nL, h, some .boolean) wl jI pc loc [.int v] S (some (v, S)) := by
  intro r S' he hC ls hl H locs hP hD hS
  cases he
  have hlocks := hC.2.2.2.2.2.1
  exact W.zret hC.1 hC.2.1 hC.2.2.2.2.2.2.2.2.1 (by rcases hv with rfl | rfl <;> rfl) (fun t ht hW => ⟨⟨rfl, by rw [ht]; exact hP, va_K.moved hW.alike hC.2.2.2.2.2.2.1, hD⟩, hS.F ht⟩) hS.2.2 hd
/-- a truth value that isn't written out -/
def isB (v : Int32) : Bool := decide (v = 0) || decide (v = 1)
theorem k_zretB {v : Int32} (hd : decode cc pc = .ok (.ireturn, 1)) : KJ X (cc, own, nL, h, some .boolean) wl jI pc loc [.int v] S (chk (isB v) (some (v, S))) := by
  intro r S' he hC ls hl H locs hP hD hS
  have hv : v = 0 ∨ v = 1 := by simpa [isB] using (chk_some he).1
  exact k_zret hv hd r S' (chk_some he).2 hC ls hl H locs hP hD hS
theorem k_lret {v : Int64} (hd : decode cc pc = .ok (.lreturn, 1)) : KJ X (cc, own, nL, h, some .long) wl jL pc loc [.long v] S (some (v, S)) := by
  intro r S' he hC ls hl H locs hP hD hS
  cases he
  have hlocks := hC.2.2.2.2.2.1
  exact W.lret hC.1 hC.2.1 hC.2.2.2.2.2.2.2.2.1 (fun t ht hW => ⟨⟨rfl, by rw [ht]; exact hP, va_K.moved hW.alike hC.2.2.2.2.2.2.1, hD⟩, hS.F ht⟩) hS.2.2 hd
theorem k_vret (hd : decode cc pc = .ok (.return_, 1)) : KJ X (cc, own, nL, h, none) wl jV pc loc [] S (some ((), S)) := by
  intro r S' he hC ls hl H locs hP hD hS
  cases he
  have hlocks := hC.2.2.2.2.2.1
  exact W.vret hC.1 hC.2.1 hC.2.2.2.2.2.2.2.2.1 (fun t ht hW => ⟨⟨rfl, by rw [ht]; exact hP, va_K.moved hW.alike hC.2.2.2.2.2.2.1, hD⟩, hS.F ht⟩) hS.2.2 hd
theorem k_mmin {x y : Int32} {idx : Nat} (w1 : Cond.methodLink own idx Lib.Math.min.name ∈ TsG) (w2 : Cond.static Lib.Math.min.name ∈ TsG) (w3 : Cond.initialized "java/lang/Math" ∈ TsG) (w4 : Cond.code Lib.Math.min.name Lib.Math.min.code 2 (some .int) ∈ TsG) (hh : 1 ≤ h) (hs : (st.map fun v => v.category).sum ≤ 8) (hd : decode cc pc = .ok (.invokestatic idx, 3)) (k : KJ X (cc, own, nL, h, rt) wl inj (pc + 3) loc (.int (if y < x then y else x) :: st) S e) : KJ X (cc, own, nL, h, rt) wl inj pc loc (.int y :: .int x :: st) S e :=
  fun r S' he hC ls hl H locs hP hD hS => va_mmin hC.1 hC.2.1 (hC.2.2.1.trans hl.1.symm) hC.2.2.2.1 (hC.2.2.2.2.1 _ w1) (hC.2.2.2.2.1 _ w2) (hC.2.2.2.2.1 _ w3) (hC.2.2.2.2.1 _ w4) hh (by show _ ≤ 64 * h; omega) (Nat.zero_le _) (Nat.zero_le _) hd (k r S' he hC ls hl H locs hP hD hS)
theorem k_mmax {x y : Int32} {idx : Nat} (w1 : Cond.methodLink own idx Lib.Math.max.name ∈ TsG) (w2 : Cond.static Lib.Math.max.name ∈ TsG) (w3 : Cond.initialized "java/lang/Math" ∈ TsG) (w4 : Cond.code Lib.Math.max.name Lib.Math.max.code 2 (some .int) ∈ TsG) (hh : 1 ≤ h) (hs : (st.map fun v => v.category).sum ≤ 8) (hd : decode cc pc = .ok (.invokestatic idx, 3)) (k : KJ X (cc, own, nL, h, rt) wl inj (pc + 3) loc (.int (if x < y then y else x) :: st) S e) : KJ X (cc, own, nL, h, rt) wl inj pc loc (.int y :: .int x :: st) S e :=
  fun r S' he hC ls hl H locs hP hD hS => va_mmax hC.1 hC.2.1 (hC.2.2.1.trans hl.1.symm) hC.2.2.2.1 (hC.2.2.2.2.1 _ w1) (hC.2.2.2.2.1 _ w2) (hC.2.2.2.2.1 _ w3) (hC.2.2.2.2.1 _ w4) hh (by show _ ≤ 64 * h; omega) (Nat.zero_le _) (Nat.zero_le _) hd (k r S' he hC ls hl H locs hP hD hS)
theorem cpB_s {sp dp m : Int32} {n0 n1 : Nat} (hc : cpB sp dp m n0 n1 = true) : ¬ sp < 0 ∧ ¬ dp < 0 ∧ ¬ m < 0 ∧ sp.toNatClampNeg + m.toNatClampNeg ≤ n0 ∧ dp.toNatClampNeg + m.toNatClampNeg ≤ n1 := by
  simp only [cpB, Bool.and_eq_true, decide_eq_true_eq] at hc
  exact ⟨Int32.not_lt.mpr hc.1, Int32.not_lt.mpr hc.2.1, Int32.not_lt.mpr hc.2.2.1, hc.2.2.2.1, hc.2.2.2.2⟩
theorem k_copyi {sp dp m : Int32} {idx : Nat} (ha : AI wl c n) (w1 : Cond.methodLink own idx arraycopyName ∈ TsG) (w2 : Cond.native arraycopyName ∈ TsG) (w3 : Cond.static arraycopyName ∈ TsG) (w4 : Cond.initialized "java/lang/System" ∈ TsG) (hh : 1 ≤ h) (hs : (st.map fun v => v.category).sum ≤ 8) (hd : decode cc pc = .ok (.invokestatic idx, 3)) (k : KJ X (cc, own, nL, h, rt) wl inj (pc + 3) loc st (sA S c (va_cpy (gA S c) (gA S c) sp.toNatClampNeg dp.toNatClampNeg m.toNatClampNeg)) e) : KJ X (cc, own, nL, h, rt) wl inj pc loc (.int m :: .int dp :: .ref (xa X c) :: .int sp :: .ref (xa X c) :: st) S (chk (cpB sp dp m n n) e) := by
  intro r S' he hC ls hl H locs hP hD hS
  obtain ⟨c1, c2, c3, c4, c5⟩ := cpB_s (chk_some he).1
  have hroom : (st.map fun v => v.category).sum + (nativeFrameWords "java/lang/System" "arraycopy" 5 + 11) ≤ (rmD h).locals := by
    have h50 : nativeFrameWords "java/lang/System" "arraycopy" 5 + 11 ≤ 50 := by decide +kernel
    show _ ≤ 64 * h
    omega
  exact va_copyi hC.1 hC.2.1 (hC.2.2.1.trans hl.1.symm) hC.2.2.2.1 (hC.2.2.2.2.1 _ w1) (hC.2.2.2.2.1 _ w2) (hC.2.2.2.2.1 _ w3) (hC.2.2.2.2.1 _ w4) hC.2.2.2.2.2.2.1 hP hD hS c c 0 0 (ha (xd X) S).1 (ha (xd X) S).1 rfl rfl rfl c1 c2 c3 c4 c5 (fun _ _ => rfl) hh hroom hd (fun H1 locs1 hP1 hD1 hS1 => k r S' (chk_some he).2 hC ls hl H1 locs1 (by rw [← (ha (xd X) S).2]; exact hP1) (by rw [← (ha (xd X) S).2]; exact hD1) hS1)
theorem k_copyl {sp dp m : Int32} {idx : Nat} (ha : AL wl c n) (w1 : Cond.methodLink own idx arraycopyName ∈ TsG) (w2 : Cond.native arraycopyName ∈ TsG) (w3 : Cond.static arraycopyName ∈ TsG) (w4 : Cond.initialized "java/lang/System" ∈ TsG) (hh : 1 ≤ h) (hs : (st.map fun v => v.category).sum ≤ 8) (hd : decode cc pc = .ok (.invokestatic idx, 3)) (k : KJ X (cc, own, nL, h, rt) wl inj (pc + 3) loc st (sB S c (va_cpy (gB S c) (gB S c) sp.toNatClampNeg dp.toNatClampNeg m.toNatClampNeg)) e) : KJ X (cc, own, nL, h, rt) wl inj pc loc (.int m :: .int dp :: .ref (xa X c) :: .int sp :: .ref (xa X c) :: st) S (chk (cpB sp dp m n n) e) := by
  intro r S' he hC ls hl H locs hP hD hS
  obtain ⟨c1, c2, c3, c4, c5⟩ := cpB_s (chk_some he).1
  have hroom : (st.map fun v => v.category).sum + (nativeFrameWords "java/lang/System" "arraycopy" 5 + 11) ≤ (rmD h).locals := by
    have h50 : nativeFrameWords "java/lang/System" "arraycopy" 5 + 11 ≤ 50 := by decide +kernel
    show _ ≤ 64 * h
    omega
  exact va_copyl hC.1 hC.2.1 (hC.2.2.1.trans hl.1.symm) hC.2.2.2.1 (hC.2.2.2.2.1 _ w1) (hC.2.2.2.2.1 _ w2) (hC.2.2.2.2.1 _ w3) (hC.2.2.2.2.1 _ w4) hC.2.2.2.2.2.2.1 hP hD hS c c 1 1 (ha (xd X) S).1 (ha (xd X) S).1 rfl rfl rfl c1 c2 c3 c4 c5 (fun _ _ => rfl) hh hroom hd (fun H1 locs1 hP1 hD1 hS1 => k r S' (chk_some he).2 hC ls hl H1 locs1 (by rw [← (ha (xd X) S).2]; exact hP1) (by rw [← (ha (xd X) S).2]; exact hD1) hS1)
theorem k_tin {x v : Int32} {dflt lo hi : Int} {offs : Array Int} {len : Nat} (hd : decode cc pc = .ok (.tableswitch dflt lo hi offs, len)) (h1 : ¬ v.toInt < lo) (h2 : ¬ hi < v.toInt) (ho : offs[(v.toInt - lo).toNat]? = some off) (ht : (pc : Int) + off = (tgt : Int)) (kt : x = v → KJ X (cc, own, nL, h, rt) wl inj tgt loc st S e1) (kf : ¬ x = v → KJ X (cc, own, nL, h, rt) wl inj pc loc (.int x :: st) S e2) : KJ X (cc, own, nL, h, rt) wl inj pc loc (.int x :: st) S (if x = v then e1 else e2) := by
  intro r S' he hC ls hl H locs hP hD hS
  by_cases c : x = v
  · rw [if_pos c] at he
    have k := kt c r S' he hC ls hl H locs hP hD hS
    subst c
    exact lv_tableIn hC.1 hC.2.1 hd h1 h2 ho ht k
  · rw [if_neg c] at he
    exact kf c r S' he hC ls hl H locs hP hD hS
theorem k_tout {x : Int32} {dflt lo hi : Int} {offs : Array Int} {len : Nat} (hd : decode cc pc = .ok (.tableswitch dflt lo hi offs, len)) (hx : x.toInt < lo ∨ hi < x.toInt) (ht : (pc : Int) + dflt = (tgt : Int)) (k : KJ X (cc, own, nL, h, rt) wl inj tgt loc st S e) : KJ X (cc, own, nL, h, rt) wl inj pc loc (.int x :: st) S e :=
  fun r S' he hC ls hl H locs hP hD hS => lv_tableOut hC.1 hC.2.1 hd hx ht (k r S' he hC ls hl H locs hP hD hS)
theorem ne_int {x v : Int32} (h : ¬ x = v) : ¬ x.toInt = v.toInt := fun q => h (Int32.toInt_inj.mp q)
end KH
end
section
/-! ===== contracts and calls ===== -/
def bnd {ρ β : Type} (f : Option (ρ × St)) (k : ρ → St → Option β) : Option β := match f with
  | some (r, S) => k r S
  | none => none
theorem bnd_some {ρ β : Type} {f : Option (ρ × St)} {k : ρ → St → Option β} {x : β} (h : bnd f k = some x) : ∃ r S, f = some (r, S) ∧ k r S = some x := by
  match f, h with
  | some (r, S), h => exact ⟨r, S, rfl, h⟩
  | none, h => cases h
theorem bnd_s {ρ β : Type} {r : ρ} {S : St} {k : ρ → St → Option β} : bnd (some (r, S)) k = k r S := rfl
theorem bnd_n {ρ β : Type} {k : ρ → St → Option β} : bnd (none : Option (ρ × St)) k = none := rfl
/-- an empty store -/
def st0 : St := (fun _ => 0, fun _ => 0, fun _ _ => 0, fun _ _ => 0)
/-- where the cells of a world lie doesn't hang on its store -/
def wlAd (wl : Dt → St → va_W) : Prop := ∀ (d : Dt) (S S' : St) (k q : Nat) (e : va_E), (wl d S)[k]? = some (q, e) → ∃ e' : va_E, (wl d S')[k]? = some (q, e')
def aA (wl : Dt → St → va_W) (d : Dt) (sz : Nat) : Nat → Prop := va_A (wl d st0) sz
theorem aA_D {wl : Dt → St → va_W} (hw : wlAd wl) {d : Dt} {S : St} {sz : Nat} {A : Nat → Prop} (h : va_D A (wl d S)) : va_D (aA wl d sz) (wl d S) := ⟨h.1, fun k q hk => by
  obtain ⟨e', he⟩ := hw d S st0 k q.1 q.2 hk
  exact Or.inl ⟨k, e', he⟩⟩
/-- the contract of one call: with these arguments and this store it answers r and leaves S1 -/
def Mt (l : Launch) (D : va_G) (d : Dt) (wl : Dt → St → va_W) (y : MethodName) (cy : ByteArray) (nLy : Nat) (rty : Option FieldType) (h1 : Nat) (vs : List Value) (S : St) (r : Option Value) (S1 : St) : Prop :=
  ∀ sz : Nat, Met l y (Cond.code y cy nLy rty :: TsG) (rmD h1) (va_Pc vs (fun U => U.heap.size = sz ∧ va_P D vwCl (wl d S) U.heap ∧ va_K D vwCl (dtT d) U ∧ va_D (fun _ => True) (wl d S) ∧ NwU U)) (QcU wl D d (aA wl d sz) r S1) 0 0 (aA wl d sz)
/-- a method's locals at its entry -/
def ent : List Value → Nat → List (Option Value)
  | [], n => List.replicate n none
  | v :: vs, n => if v.category = 2 then some v :: none :: ent vs (n - 2) else some v :: ent vs (n - 1)
theorem ent_args : ∀ (vs : List Value) (n i j : Nat) (v : Value), (ent vs n)[j]? = some (some v) → (i + j, v) ∈ lv_args i vs
  | [], n, i, j, v, h => by
    simp only [ent, List.getElem?_replicate] at h
    split at h <;> cases h
  | w :: vs, n, i, j, v, h => by
    unfold ent at h
    unfold lv_args
    by_cases c : w.category = 2
    · rw [if_pos c] at h
      rw [if_pos c]
      match j, h with
      | 0, h => cases h; exact List.mem_cons_self
      | 1, h => cases h
      | j + 2, h =>
        have := ent_args vs (n - 2) (i + 2) j v h
        exact List.mem_cons_of_mem _ (by rw [show i + (j + 2) = i + 2 + j by omega]; exact this)
    · rw [if_neg c] at h
      rw [if_neg c]
      match j, h with
      | 0, h => cases h; exact List.mem_cons_self
      | j + 1, h =>
        have := ent_args vs (n - 1) (i + 1) j v h
        exact List.mem_cons_of_mem _ (by rw [show i + (j + 1) = i + 1 + j by omega]; exact this)
theorem Mt_of {ρ : Type} {inj : ρ → Option Value} {e : Option (ρ × St)} {l : Launch} {D : va_G} {d : Dt} {wl : Dt → St → va_W} {y : MethodName} {cc : ByteArray} {nL h : Nat} {rt : Option FieldType} {vs : List Value} {S : St} (hw : wlAd wl) (hy : plainName y.cls = true) (hn : (lg_sl vs).length ≤ nL)
    (hk : ∀ X : Cx, xL X = l → xd X = d → KJ X (cc, y.cls, nL, h, rt) wl inj 0 (ent vs nL) [] S e) : ∀ (r : ρ) (S' : St), e = some (r, S') → Mt l D d wl y cc nL rt h vs S (inj r) S' := by
  intro r S' he sz
  refine Met.ofW (cc := cc) (maxL := nL) (ret := rt) hy rfl ?_
  intro p ev s m args below meth c s₁ B hml hv
  obtain ⟨rfl, hsz, hP, hK, hD0, hN⟩ := hv
  have hts := atoms_spec (ws := Cond.code y cc nL rt :: TsG) B.pre
  have hown : s.vm.findClass y.cls = some m.cls := findClass_of_methodNamed B.named
  subst hsz
  have hA : ∀ q : Nat, s.heap.size ≤ q → aA wl d s.heap.size q := fun q h => Or.inr h
  have hl := lv_entry vs (n := nL) hn
  rw [lg_entry_eq]
  generalize (lg_sl vs ++ List.replicate (nL - (lg_sl vs).length) Slot.unset).toArray = ls at hl ⊢
  refine hk (p, l, ev, s, m, vs.toArray, below, meth, c, aA wl d s.heap.size, D, d) rfl rfl r S' he ⟨B.exec, B.bytes, hml, hown, fun w hw => hts w (List.mem_cons_of_mem _ hw), B.notSynchronized, hK, hA, B.returns, hN⟩ ls ⟨hl.1, hl.2.1, fun i v hi => ?_⟩ s.heap [] hP (aA_D hw hD0) va_S.rf
  have := ent_args vs nL 0 i v hi
  rw [Nat.zero_add] at this
  exact hl.2.2 (i, v) this
/-- the words of a call: by its place in the pool of class own -/
def LkB (own : String) (idx : Nat) (y : MethodName) (cy : ByteArray) (nLy : Nat) (rty : Option FieldType) (np : Nat) : Prop :=
  Cond.code y cy nLy rty ∈ TsG ∧ Cond.initialized y.cls ∈ TsG ∧ (y.cls ≠ "java/lang/invoke/MethodHandle" ∧ y.cls ≠ "java/lang/invoke/VarHandle" ∧ (parseMethodDescriptor y.desc).map (fun d => d.parameters.length) = some np) ∧ nLy ≤ 40 ∧ (Cond.methodLink own idx y ∈ TsG ∨ ∃ host, Cond.methodLinkNest own idx y host ∈ NsG)
def LkV (own : String) (idx : Nat) (y : MethodName) (cy : ByteArray) (nLy : Nat) (rty : Option FieldType) (np : Nat) : Prop := LkB own idx y cy nLy rty np ∧ Cond.instanceMethod y ∈ TsG ∧ Cond.selects y.cls y y ∈ TsG
def LkS (own : String) (idx : Nat) (y : MethodName) (cy : ByteArray) (nLy : Nat) (rty : Option FieldType) (np : Nat) : Prop := LkB own idx y cy nLy rty np ∧ Cond.static y ∈ TsG
/-- cell q of the world is an object of class C -/
def OB (wl : Dt → St → va_W) (q : Nat) (C : String) : Prop := ∃ (ci : Nat) (r : vw_C), vwCl[ci]? = some r ∧ r.1 = C ∧ ∀ (d : Dt) (S : St), ∃ fs : List Value, (wl d S)[q]? = some (d.1 q, .inr (ci, fs))
section KC
variable {ρ ρ1 : Type} {X : Cx} {cc cy : ByteArray} {own : String} {nL h h1 : Nat} {rt rty : Option FieldType} {wl : Dt → St → va_W} {inj : ρ → Option Value} {inj1 : ρ1 → Option Value} {pc idx nLy np : Nat} {loc : List (Option Value)} {st : List Value} {S : St} {f : Option (ρ1 × St)} {kf : ρ1 → St → Option (ρ × St)} {y : MethodName} {As : List Value}
theorem k_blind {D : va_G} {d : Dt} {vs : List Value} {sz : Nat} : FrameBlind (va_Pc vs (fun U => U.heap.size = sz ∧ va_P D vwCl (wl d S) U.heap ∧ va_K D vwCl (dtT d) U ∧ va_D (fun _ => True) (wl d S) ∧ NwU U)) := fun a U g mk q => by
  obtain ⟨q0, q1, qP, qK, qD, qN⟩ := q
  exact ⟨q0, q1, qP, va_K.moved (u := U) (U := U.calling g mk a) (Vm.Alike.refl U.vm) qK, qD, NwU.same (s := U) (U := U.calling g mk a) rfl qN⟩
/-- behind a call -/
theorem k_after {g : JFrame} {H : Heap} {locs : List Loc} {r : ρ} {S' : St} {r1 : ρ1} {S1 : St} {ls : Array Slot} {vs : Array Value} (hw : wlAd wl) (hl : lvO ls nL loc) (hC : CxOk X (cc, own, nL, h, rt)) (hD : va_D (xA X) (wl (xd X) S)) (hS : va_S (xA X) (xS X).heap H locs) (hg : g = F0 (xM X) pc ls g.stack)
    (hr : va_Run (xP X) (xL X) (xE X) (rmD h) (xS X) (xM X) (xArgs X) (xBelow X) (xMeth X) (xC X) H locs 0 0 0 0 g st (QcU wl (xD X) (xd X) (aA wl (xd X) H.size) (inj1 r1) S1 vs) (aA wl (xd X) H.size))
    (he : kf r1 S1 = some (r, S')) (kk : KJ X (cc, own, nL, h, rt) wl inj (pc + 3) loc ((inj1 r1).toList ++ st) S1 (kf r1 S1)) :
    W (xP X) (xL X) (xE X) (rmD h) (xS X) (xM X) (xArgs X) (xBelow X) (xMeth X) (xC X) H locs 0 0 (MQ (xBelow X) (QcU wl (xD X) (xd X) (xA X) (inj r) S') (xArgs X) (xS X) 0 0 (xA X)) g := by
  intro T hT XX
  obtain ⟨v, st₀, t, T', L, h0, X', hL, e1, e2, ⟨⟨hv, hP1, hK1, hD1⟩, hz, hk⟩, hst⟩ := hr T hT XX
  have hfree : ∀ q, aA wl (xd X) H.size q → xA X q := by
    intro q hq
    rcases hq with ⟨k, e, hq⟩ | hq
    · obtain ⟨e', he'⟩ := hw (xd X) st0 S k q e hq
      exact hD.2 k (q, e') he'
    · exact hC.2.2.2.2.2.2.2.1 q (Nat.le_trans hS.1 hq)
  rw [h0] at hz hk
  cases hv
  have hD2 : va_D (xA X) (wl (xd X) S1) := ⟨hD1.1, fun k q hq => hfree _ (hD1.2 k q hq)⟩
  have hS2 : va_S (xA X) (xS X).heap T'.heap (locs ++ L) := ⟨Nat.le_trans hS.1 (by rw [e1]; exact hz), fun q h1 h2 => by rw [e1, hk q (Nat.lt_of_lt_of_le h1 hS.1) (fun z => h2 (hfree q z))]; exact hS.2.1 q h1 h2, fun q hq => by
      rcases List.mem_append.mp hq with h | h
      · exact hS.2.2 q h
      · exact hfree _ (hL q h)⟩
  obtain ⟨t2, a1, b1⟩ := kk r S' he hC ls hl T'.heap (locs ++ L) (by rw [e1]; exact hP1) hD2 hS2 T' rfl X'
  refine ⟨t2, hst t2 ?_, b1⟩
  rw [hg]
  exact a1
theorem k_words {X : Cx} (hC : CxOk X (cc, own, nL, h, rt)) (lk : LkB own idx y cy nLy rty np) (hh : h1 + 1 ≤ h) : (rmD h1).cells = 0 ∧ (rmD h1).slots = 0 ∧ (rmD h1).frames + 1 ≤ (rmD h).frames ∧ 8 + (nLy + 11) + (rmD h1).locals ≤ (rmD h).locals := by
  refine ⟨rfl, rfl, hh, ?_⟩
  show 8 + (nLy + 11) + 64 * h1 ≤ 64 * h
  have := lk.2.2.2.1
  omega
theorem k_callV {q : Nat} (hw : wlAd wl) (lk : LkV own idx y cy nLy rty np) (hob : OB wl q y.cls) (hm : ∀ (r1 : ρ1) (S1 : St), f = some (r1, S1) → Mt (xL X) (xD X) (xd X) wl y cy nLy rty h1 (.ref (xa X q) :: As) S (inj1 r1) S1) (hh : h1 + 1 ≤ h) (hn : As.length = np) (hs : (st.map fun v => v.category).sum ≤ 8) (hd : decode cc pc = .ok (.invokevirtual idx, 3)) {stk : List Value} (hstk : stk = As.reverse ++ .ref (xa X q) :: st) (kk : ∀ (r1 : ρ1) (S1 : St), KJ X (cc, own, nL, h, rt) wl inj (pc + 3) loc ((inj1 r1).toList ++ st) S1 (kf r1 S1)) : KJ X (cc, own, nL, h, rt) wl inj pc loc stk S (bnd f kf) := by
  intro r S' he hC ls hl H locs hP hD hS
  obtain ⟨r1, S1, hf, hk⟩ := bnd_some he
  have hM := hm r1 S1 hf H.size
  have hts := hC.2.2.2.2.1
  obtain ⟨k1, k2, k3, k4⟩ := k_words hC lk.1 hh
  obtain ⟨ci, rr, hci, hrr, hobs⟩ := hob
  obtain ⟨fs, hfs⟩ := hobs (xd X) S
  have hrec := va_recv hC.2.2.2.2.2.2.1 hP hci hfs
  rw [hrr] at hrec
  subst hstk
  have hpre : PreV (xS X) H y.cls (xa X q) (va_Pc (.ref (xa X q) :: As) (fun U => U.heap.size = H.size ∧ va_P (xD X) vwCl (wl (xd X) S) U.heap ∧ va_K (xD X) vwCl (dtT (xd X)) U ∧ va_D (fun _ => True) (wl (xd X) S) ∧ NwU U)) As := ⟨k_blind, hrec, fun U hU hW => ⟨rfl, by rw [hU], by rw [hU]; exact hP, va_K.moved hW.alike hC.2.2.2.2.2.2.1, ⟨hD.1, fun _ _ _ => trivial⟩, hC.2.2.2.2.2.2.2.2.2.warm hW⟩⟩
  rcases lk.1.2.2.2.2 with hl1 | ⟨host, hl1⟩
  · refine k_after (vs := (Value.ref (xa X q) :: As).toArray) hw hl hC hD hS rfl (va_runV (As := As) (rest := st) (g := F0 (xM X) pc ls (As.reverse ++ .ref (xa X q) :: st)) ⟨hC.1, hC.2.1, hC.2.2.1, hC.2.2.2.1, hts⟩ hM ⟨callB_of np hts (TsG_good lk.1.1) rfl k1 k2 (hts _ lk.1.2.1) (hts _ hl1) lk.1.2.2.1 ⟨k3, k4⟩, hts _ lk.2.1, hts _ lk.2.2⟩ hpre rfl hn hl.1 rfl (lv_room hs) hd ⟨Nat.le_refl _, Nat.le_refl _⟩) hk (kk r1 S1)
  · refine k_after (vs := (Value.ref (xa X q) :: As).toArray) hw hl hC hD hS rfl (va_runVN (As := As) (rest := st) (g := F0 (xM X) pc ls (As.reverse ++ .ref (xa X q) :: st)) ⟨hC.1, hC.2.1, hC.2.2.1, hC.2.2.2.1, hts⟩ hM ⟨va_cnB np hts (TsG_good lk.1.1) rfl k1 k2 (hC.2.2.2.2.2.2.2.2.2 _ hl1) (hts _ lk.1.2.1) lk.1.2.2.1 ⟨k3, k4⟩, hts _ lk.2.1, hts _ lk.2.2⟩ hpre rfl hn hl.1 rfl (lv_room hs) hd ⟨Nat.le_refl _, Nat.le_refl _⟩) hk (kk r1 S1)
theorem k_callS (hw : wlAd wl) (lk : LkS own idx y cy nLy rty np) (hm : ∀ (r1 : ρ1) (S1 : St), f = some (r1, S1) → Mt (xL X) (xD X) (xd X) wl y cy nLy rty h1 As S (inj1 r1) S1) (hh : h1 + 1 ≤ h) (hn : As.length = np) (hs : (st.map fun v => v.category).sum ≤ 8) (hd : decode cc pc = .ok (.invokestatic idx, 3)) {stk : List Value} (hstk : stk = As.reverse ++ st) (kk : ∀ (r1 : ρ1) (S1 : St), KJ X (cc, own, nL, h, rt) wl inj (pc + 3) loc ((inj1 r1).toList ++ st) S1 (kf r1 S1)) : KJ X (cc, own, nL, h, rt) wl inj pc loc stk S (bnd f kf) := by
  intro r S' he hC ls hl H locs hP hD hS
  obtain ⟨r1, S1, hf, hk⟩ := bnd_some he
  have hM := hm r1 S1 hf H.size
  have hts := hC.2.2.2.2.1
  obtain ⟨k1, k2, k3, k4⟩ := k_words hC lk.1 hh
  subst hstk
  have hpre : PreS (xS X) H (va_Pc As (fun U => U.heap.size = H.size ∧ va_P (xD X) vwCl (wl (xd X) S) U.heap ∧ va_K (xD X) vwCl (dtT (xd X)) U ∧ va_D (fun _ => True) (wl (xd X) S) ∧ NwU U)) As := ⟨k_blind, fun U hU hW => ⟨rfl, by rw [hU], by rw [hU]; exact hP, va_K.moved hW.alike hC.2.2.2.2.2.2.1, ⟨hD.1, fun _ _ _ => trivial⟩, hC.2.2.2.2.2.2.2.2.2.warm hW⟩⟩
  rcases lk.1.2.2.2.2 with hl1 | ⟨host, hl1⟩
  · refine k_after (vs := As.toArray) hw hl hC hD hS rfl (va_runS (As := As) (rest := st) (g := F0 (xM X) pc ls (As.reverse ++ st)) ⟨hC.1, hC.2.1, hC.2.2.1, hC.2.2.2.1, hts⟩ hM ⟨callB_of np hts (TsG_good lk.1.1) rfl k1 k2 (hts _ lk.1.2.1) (hts _ hl1) lk.1.2.2.1 ⟨k3, k4⟩, hts _ lk.2⟩ hpre rfl hn hl.1 rfl (lv_room hs) hd ⟨Nat.le_refl _, Nat.le_refl _⟩) hk (kk r1 S1)
  · refine k_after (vs := As.toArray) hw hl hC hD hS rfl (va_runSN (As := As) (rest := st) (g := F0 (xM X) pc ls (As.reverse ++ st)) ⟨hC.1, hC.2.1, hC.2.2.1, hC.2.2.2.1, hts⟩ hM ⟨va_cnB np hts (TsG_good lk.1.1) rfl k1 k2 (hC.2.2.2.2.2.2.2.2.2 _ hl1) (hts _ lk.1.2.1) lk.1.2.2.1 ⟨k3, k4⟩, hts _ lk.2, trivial⟩ hpre rfl hn hl.1 rfl (lv_room hs) hd ⟨Nat.le_refl _, Nat.le_refl _⟩) hk (kk r1 S1)
end KC
end
section
/-! ===== the two worlds: printed by genworld.py out of the fields' tables ===== -/
theorem wl_get {α : Type} (f : Nat → α) {N c : Nat} (h : c < N) : ((List.range N).map f)[c]? = some (f c) := by
  rw [List.getElem?_map, List.getElem?_range h]
  rfl
theorem wl_set {α : Type} {f g : Nat → α} {N c : Nat} {x : α} (hc : g c = x) (h : ∀ j, j ≠ c → g j = f j) : ((List.range N).map f).set c x = (List.range N).map g := by
  apply List.ext_getElem?
  intro j
  rw [List.getElem?_set]
  by_cases e : c = j
  · subst e
    rw [if_pos rfl, List.length_map, List.length_range]
    by_cases hl : c < N
    · rw [if_pos hl, wl_get g hl, hc]
    · rw [if_neg hl, List.getElem?_eq_none (by simpa using hl)]
  · rw [if_neg e]
    by_cases hl : j < N
    · rw [wl_get f hl, wl_get g hl, h j (fun q => e q.symm)]
    · rw [List.getElem?_eq_none (by simpa using hl), List.getElem?_eq_none (by simpa using hl)]
def lenM (c : Nat) : Nat := if c ≤ 5 then 30 else if c = 6 then 40 else if c = 7 then 6 else if c ≤ 10 then 31 else if c ≤ 12 then 6200 else if c = 13 then 31 else if c ≤ 15 then 10 else 320
def objM (d : Dt) (S : St) : va_E := .inr (4, [.int (gI S 0), .int (gI S 1), .int (gI S 2), .int (gI S 3), .ref (d.1 1), .ref (d.1 2), .ref (d.1 3), .ref (d.1 4), .ref (d.1 5), .ref (d.1 6), .ref (d.1 7), .int (gI S 11), .int (gI S 12), .long (gL S 13), .ref (d.1 8), .ref (d.1 9), .ref (d.1 10), .ref (d.1 11), .ref (d.1 12), .ref (d.1 13), .int (gI S 20), .int (gI S 21), .long (gL S 22), .ref (d.1 14), .ref (d.1 15), .int (gI S 25), .ref (d.1 16), .ref (d.1 17), .ref (d.1 18), .long (gL S 29)])
def cellM (d : Dt) (S : St) (c : Nat) : va_E := if c = 0 then objM d S else if c = 12 ∨ c = 15 ∨ c = 18 then .inl (d.2.2.1, lenM c, .inr (.inl (gB S c))) else if c = 7 then .inl (d.2.2.2.1, lenM c, .inl (gA S c)) else .inl (d.2.1, lenM c, .inl (gA S c))
def wlM (d : Dt) (S : St) : va_W := (List.range 19).map (fun c => (d.1 c, cellM d S c))
def lenC (c : Nat) : Nat := if c ≤ 8 then 30 else if c ≤ 18 then 31 else if c ≤ 22 then 10 else if c ≤ 84 then 200 else 10
def objC0 (d : Dt) (S : St) : va_E := .inr (3, [.ref (d.1 1), .ref (d.1 2), .ref (d.1 3)])
def objC1 (d : Dt) (S : St) : va_E := .inr (1, [.ref (d.1 4), .ref (d.1 5), .ref (d.1 6), .ref (d.1 7), .ref (d.1 8), .ref (d.1 9), .ref (d.1 10), .int (gI S 207), .int (gI S 208), .int (gI S 209), .int (gI S 210)])
def objC2 (d : Dt) (S : St) : va_E := .inr (0, [.ref (d.1 1), .ref (d.1 11), .ref (d.1 12), .ref (d.1 13), .ref (d.1 14), .ref (d.1 15), .ref (d.1 16), .ref (d.1 17), .int (gI S 108), .long (gL S 109), .int (gI S 110)])
def objC3 (d : Dt) (S : St) : va_E := .inr (2, [.ref (d.1 1), .ref (d.1 18), .long (gL S 302), .int (gI S 303), .int (gI S 304)])
def cellC (d : Dt) (S : St) (c : Nat) : va_E := if c = 0 then objC0 d S else if c = 1 then objC1 d S else if c = 2 then objC2 d S else if c = 3 then objC3 d S else if c = 9 then .inl (d.2.2.2.2.1, 4, .inr (.inr (.inr (.inr (fun i => some (d.1 (19 + i))))))) else if c = 11 then .inl (d.2.2.2.2.1, 31, .inr (.inr (.inr (.inr (fun i => some (d.1 (23 + i))))))) else if c = 12 then .inl (d.2.2.2.2.2, 31, .inr (.inr (.inr (.inr (fun i => some (d.1 (54 + i))))))) else if c = 18 then .inl (d.2.2.2.2.2, 6, .inr (.inr (.inr (.inr (fun i => some (d.1 (85 + i))))))) else if 54 ≤ c then .inl (d.2.2.1, lenC c, .inr (.inl (gB S c))) else .inl (d.2.1, lenC c, .inl (gA S c))
def wlC (d : Dt) (S : St) : va_W := (List.range 91).map (fun c => (d.1 c, cellC d S c))
theorem wadM : wlAd wlM := by
  intro d S S' k q e hk
  by_cases hl : k < 19
  · unfold wlM at hk
    rw [wl_get _ hl] at hk
    cases hk
    exact ⟨_, wl_get _ hl⟩
  · unfold wlM at hk
    rw [List.getElem?_eq_none (by simpa using hl)] at hk
    cases hk
theorem wadC : wlAd wlC := by
  intro d S S' k q e hk
  by_cases hl : k < 91
  · unfold wlC at hk
    rw [wl_get _ hl] at hk
    cases hk
    exact ⟨_, wl_get _ hl⟩
  · unfold wlC at hk
    rw [List.getElem?_eq_none (by simpa using hl)] at hk
    cases hk
theorem cellM_sA (d : Dt) (S : St) (c j : Nat) (f : Nat → Int32) (h : j ≠ c) : cellM d (sA S c f) j = cellM d S j := by
  unfold cellM objM
  simp only [gI_sA, gL_sA, gB_sA, gA_sA, if_neg h]
theorem cellM_sB (d : Dt) (S : St) (c j : Nat) (f : Nat → Int64) (h : j ≠ c) : cellM d (sB S c f) j = cellM d S j := by
  unfold cellM objM
  simp only [gI_sB, gL_sB, gB_sB, gA_sB, if_neg h]
theorem cellC_sA (d : Dt) (S : St) (c j : Nat) (f : Nat → Int32) (h : j ≠ c) : cellC d (sA S c f) j = cellC d S j := by
  unfold cellC objC0 objC1 objC2 objC3
  simp only [gI_sA, gL_sA, gB_sA, gA_sA, if_neg h]
theorem cellC_sB (d : Dt) (S : St) (c j : Nat) (f : Nat → Int64) (h : j ≠ c) : cellC d (sB S c f) j = cellC d S j := by
  unfold cellC objC0 objC1 objC2 objC3
  simp only [gI_sB, gL_sB, gB_sB, gA_sB, if_neg h]
theorem aiM (c : Nat) {n : Nat} (h : c < 19) (h0 : ∀ d S, cellM d S c = .inl (d.2.1, n, .inl (gA S c))) : AI wlM c n := fun d S => ⟨by
  unfold wlM; rw [wl_get _ h, h0], fun f => by
  unfold wlM
  exact wl_set (by rw [h0, gA_sA, if_pos rfl]) (fun j hj => by rw [cellM_sA _ _ _ _ _ hj])⟩
theorem azM (c : Nat) {n : Nat} (h : c < 19) (h0 : ∀ d S, cellM d S c = .inl (d.2.2.2.1, n, .inl (gA S c))) : AZ wlM c n := fun d S => ⟨by
  unfold wlM; rw [wl_get _ h, h0], fun f => by
  unfold wlM
  exact wl_set (by rw [h0, gA_sA, if_pos rfl]) (fun j hj => by rw [cellM_sA _ _ _ _ _ hj])⟩
theorem alM (c : Nat) {n : Nat} (h : c < 19) (h0 : ∀ d S, cellM d S c = .inl (d.2.2.1, n, .inr (.inl (gB S c)))) : AL wlM c n := fun d S => ⟨by
  unfold wlM; rw [wl_get _ h, h0], fun f => by
  unfold wlM
  exact wl_set (by rw [h0, gB_sB, if_pos rfl]) (fun j hj => by rw [cellM_sB _ _ _ _ _ hj])⟩
theorem aiC (c : Nat) {n : Nat} (h : c < 91) (h0 : ∀ d S, cellC d S c = .inl (d.2.1, n, .inl (gA S c))) : AI wlC c n := fun d S => ⟨by
  unfold wlC; rw [wl_get _ h, h0], fun f => by
  unfold wlC
  exact wl_set (by rw [h0, gA_sA, if_pos rfl]) (fun j hj => by rw [cellC_sA _ _ _ _ _ hj])⟩
theorem alC (c : Nat) {n : Nat} (h : c < 91) (h0 : ∀ d S, cellC d S c = .inl (d.2.2.1, n, .inr (.inl (gB S c)))) : AL wlC c n := fun d S => ⟨by
  unfold wlC; rw [wl_get _ h, h0], fun f => by
  unfold wlC
  exact wl_set (by rw [h0, gB_sB, if_pos rfl]) (fun j hj => by rw [cellC_sB _ _ _ _ _ hj])⟩
theorem arC (c : Nat) {n b : Nat} (t0 : Nat) (ty : FieldType) (cR : Dt → ClassId) (h : c < 91) (ht : ∀ d : Dt, (dtT d)[t0]? = some (cR d, .array ty)) (h0 : ∀ d S, cellC d S c = .inl (cR d, n, .inr (.inr (.inr (.inr (fun i => some (d.1 (b + i)))))))) : AR wlC c n b := ⟨t0, ty, cR, ht, fun d S => by
  unfold wlC; rw [wl_get _ h, h0]⟩
theorem arC_9 : AR wlC 9 4 19 := arC 9 3 .int (fun d => d.2.2.2.2.1) (by decide) (fun _ => rfl) (fun _ _ => rfl)
theorem arC_11 : AR wlC 11 31 23 := arC 11 3 .int (fun d => d.2.2.2.2.1) (by decide) (fun _ => rfl) (fun _ _ => rfl)
theorem arC_12 : AR wlC 12 31 54 := arC 12 4 .long (fun d => d.2.2.2.2.2) (by decide) (fun _ => rfl) (fun _ _ => rfl)
theorem arC_18 : AR wlC 18 6 85 := arC 18 4 .long (fun d => d.2.2.2.2.2) (by decide) (fun _ => rfl) (fun _ _ => rfl)
theorem roC_9 {i : Int32} (h : inB i 4 = true) : AI wlC (19 + i.toNatClampNeg) 10 := by
  have := inB_lt h
  generalize i.toNatClampNeg = j at this
  refine aiC _ (by omega) (fun d S => ?_)
  unfold cellC lenC
  rw [if_neg (by omega), if_neg (by omega), if_neg (by omega), if_neg (by omega), if_neg (by omega), if_neg (by omega), if_neg (by omega), if_neg (by omega), if_neg (by omega), if_neg (by omega), if_neg (by omega), if_pos (by omega)]
theorem roC_11 {i : Int32} (h : inB i 31 = true) : AI wlC (23 + i.toNatClampNeg) 200 := by
  have := inB_lt h
  generalize i.toNatClampNeg = j at this
  refine aiC _ (by omega) (fun d S => ?_)
  unfold cellC lenC
  rw [if_neg (by omega), if_neg (by omega), if_neg (by omega), if_neg (by omega), if_neg (by omega), if_neg (by omega), if_neg (by omega), if_neg (by omega), if_neg (by omega), if_neg (by omega), if_neg (by omega), if_neg (by omega), if_pos (by omega)]
theorem roC_12 {i : Int32} (h : inB i 31 = true) : AL wlC (54 + i.toNatClampNeg) 200 := by
  have := inB_lt h
  generalize i.toNatClampNeg = j at this
  refine alC _ (by omega) (fun d S => ?_)
  unfold cellC lenC
  rw [if_neg (by omega), if_neg (by omega), if_neg (by omega), if_neg (by omega), if_neg (by omega), if_neg (by omega), if_neg (by omega), if_neg (by omega), if_pos (by omega), if_neg (by omega), if_neg (by omega), if_neg (by omega), if_pos (by omega)]
theorem roC_18 {i : Int32} (h : inB i 6 = true) : AL wlC (85 + i.toNatClampNeg) 10 := by
  have := inB_lt h
  generalize i.toNatClampNeg = j at this
  refine alC _ (by omega) (fun d S => ?_)
  unfold cellC lenC
  rw [if_neg (by omega), if_neg (by omega), if_neg (by omega), if_neg (by omega), if_neg (by omega), if_neg (by omega), if_neg (by omega), if_neg (by omega), if_pos (by omega), if_neg (by omega), if_neg (by omega), if_neg (by omega), if_neg (by omega)]
theorem aM_1 : AI wlM 1 30 := aiM 1 (by decide) (fun _ _ => rfl)
theorem aM_2 : AI wlM 2 30 := aiM 2 (by decide) (fun _ _ => rfl)
theorem aM_3 : AI wlM 3 30 := aiM 3 (by decide) (fun _ _ => rfl)
theorem aM_4 : AI wlM 4 30 := aiM 4 (by decide) (fun _ _ => rfl)
theorem aM_5 : AI wlM 5 30 := aiM 5 (by decide) (fun _ _ => rfl)
theorem aM_6 : AI wlM 6 40 := aiM 6 (by decide) (fun _ _ => rfl)
theorem aM_8 : AI wlM 8 31 := aiM 8 (by decide) (fun _ _ => rfl)
theorem aM_9 : AI wlM 9 31 := aiM 9 (by decide) (fun _ _ => rfl)
theorem aM_10 : AI wlM 10 31 := aiM 10 (by decide) (fun _ _ => rfl)
theorem aM_11 : AI wlM 11 6200 := aiM 11 (by decide) (fun _ _ => rfl)
theorem aM_13 : AI wlM 13 31 := aiM 13 (by decide) (fun _ _ => rfl)
theorem aM_14 : AI wlM 14 10 := aiM 14 (by decide) (fun _ _ => rfl)
theorem aM_16 : AI wlM 16 320 := aiM 16 (by decide) (fun _ _ => rfl)
theorem aM_17 : AI wlM 17 320 := aiM 17 (by decide) (fun _ _ => rfl)
theorem aM_7 : AZ wlM 7 6 := azM 7 (by decide) (fun _ _ => rfl)
theorem aM_12 : AL wlM 12 6200 := alM 12 (by decide) (fun _ _ => rfl)
theorem aM_15 : AL wlM 15 10 := alM 15 (by decide) (fun _ _ => rfl)
theorem aM_18 : AL wlM 18 320 := alM 18 (by decide) (fun _ _ => rfl)
theorem aC_4 : AI wlC 4 30 := aiC 4 (by decide) (fun _ _ => rfl)
theorem aC_5 : AI wlC 5 30 := aiC 5 (by decide) (fun _ _ => rfl)
theorem aC_6 : AI wlC 6 30 := aiC 6 (by decide) (fun _ _ => rfl)
theorem aC_7 : AI wlC 7 30 := aiC 7 (by decide) (fun _ _ => rfl)
theorem aC_8 : AI wlC 8 30 := aiC 8 (by decide) (fun _ _ => rfl)
theorem aC_10 : AI wlC 10 31 := aiC 10 (by decide) (fun _ _ => rfl)
theorem aC_13 : AI wlC 13 31 := aiC 13 (by decide) (fun _ _ => rfl)
theorem aC_14 : AI wlC 14 31 := aiC 14 (by decide) (fun _ _ => rfl)
theorem aC_15 : AI wlC 15 31 := aiC 15 (by decide) (fun _ _ => rfl)
theorem aC_16 : AI wlC 16 31 := aiC 16 (by decide) (fun _ _ => rfl)
theorem aC_17 : AI wlC 17 31 := aiC 17 (by decide) (fun _ _ => rfl)
theorem obX4 : OB wlC 0 RX4 := ⟨3, _, rfl, rfl, fun d S => ⟨_, wl_get (fun c => (d.1 c, cellC d S c)) (by decide)⟩⟩
theorem obX2 : OB wlC 1 RX2 := ⟨1, _, rfl, rfl, fun d S => ⟨_, wl_get (fun c => (d.1 c, cellC d S c)) (by decide)⟩⟩
theorem obX1 : OB wlC 2 RX1 := ⟨0, _, rfl, rfl, fun d S => ⟨_, wl_get (fun c => (d.1 c, cellC d S c)) (by decide)⟩⟩
theorem obX3 : OB wlC 3 RX3 := ⟨2, _, rfl, rfl, fun d S => ⟨_, wl_get (fun c => (d.1 c, cellC d S c)) (by decide)⟩⟩
theorem obX5 : OB wlM 0 RX5 := ⟨4, _, rfl, rfl, fun d S => ⟨_, wl_get (fun c => (d.1 c, cellM d S c)) (by decide)⟩⟩
theorem uwX1 : ∀ w ∈ u_ws RX1 TX1 11, w ∈ TsG := by
  intro w hw
  obtain ⟨k, hk, rfl⟩ := List.mem_map.mp hw
  have hk := List.mem_range.mp hk
  match k, hk with
  | 0, _ => exact T11 (i := 97) rfl rfl
  | 1, _ => exact T11 (i := 99) rfl rfl
  | 2, _ => exact T11 (i := 101) rfl rfl
  | 3, _ => exact T11 (i := 103) rfl rfl
  | 4, _ => exact T11 (i := 105) rfl rfl
  | 5, _ => exact T11 (i := 107) rfl rfl
  | 6, _ => exact T11 (i := 109) rfl rfl
  | 7, _ => exact T11 (i := 111) rfl rfl
  | 8, _ => exact T11 (i := 113) rfl rfl
  | 9, _ => exact T11 (i := 115) rfl rfl
  | 10, _ => exact T11 (i := 117) rfl rfl
  | k + 11, hk => exact absurd hk (by omega)
theorem uwX2 : ∀ w ∈ u_ws RX2 TX2 11, w ∈ TsG := by
  intro w hw
  obtain ⟨k, hk, rfl⟩ := List.mem_map.mp hw
  have hk := List.mem_range.mp hk
  match k, hk with
  | 0, _ => exact T11 (i := 48) rfl rfl
  | 1, _ => exact T11 (i := 50) rfl rfl
  | 2, _ => exact T11 (i := 52) rfl rfl
  | 3, _ => exact T11 (i := 54) rfl rfl
  | 4, _ => exact T11 (i := 56) rfl rfl
  | 5, _ => exact T11 (i := 58) rfl rfl
  | 6, _ => exact T11 (i := 60) rfl rfl
  | 7, _ => exact T11 (i := 62) rfl rfl
  | 8, _ => exact T11 (i := 64) rfl rfl
  | 9, _ => exact T11 (i := 66) rfl rfl
  | 10, _ => exact T11 (i := 68) rfl rfl
  | k + 11, hk => exact absurd hk (by omega)
theorem uwX3 : ∀ w ∈ u_ws RX3 TX3 5, w ∈ TsG := by
  intro w hw
  obtain ⟨k, hk, rfl⟩ := List.mem_map.mp hw
  have hk := List.mem_range.mp hk
  match k, hk with
  | 0, _ => exact T11 (i := 135) rfl rfl
  | 1, _ => exact T11 (i := 137) rfl rfl
  | 2, _ => exact T11 (i := 139) rfl rfl
  | 3, _ => exact T11 (i := 141) rfl rfl
  | 4, _ => exact T11 (i := 143) rfl rfl
  | k + 5, hk => exact absurd hk (by omega)
theorem uwX4 : ∀ w ∈ u_ws RX4 TX4 3, w ∈ TsG := by
  intro w hw
  obtain ⟨k, hk, rfl⟩ := List.mem_map.mp hw
  have hk := List.mem_range.mp hk
  match k, hk with
  | 0, _ => exact T11 (i := 149) rfl rfl
  | 1, _ => exact T11 (i := 151) rfl rfl
  | 2, _ => exact T11 (i := 153) rfl rfl
  | k + 3, hk => exact absurd hk (by omega)
theorem uwX5 : ∀ w ∈ u_ws RX5 TX5 30, w ∈ TsG := by
  intro w hw
  obtain ⟨k, hk, rfl⟩ := List.mem_map.mp hw
  have hk := List.mem_range.mp hk
  match k, hk with
  | 0, _ => exact T13 (i := 136) rfl rfl
  | 1, _ => exact T13 (i := 138) rfl rfl
  | 2, _ => exact T13 (i := 140) rfl rfl
  | 3, _ => exact T13 (i := 142) rfl rfl
  | 4, _ => exact T13 (i := 144) rfl rfl
  | 5, _ => exact T13 (i := 146) rfl rfl
  | 6, _ => exact T13 (i := 148) rfl rfl
  | 7, _ => exact T13 (i := 150) rfl rfl
  | 8, _ => exact T13 (i := 152) rfl rfl
  | 9, _ => exact T13 (i := 154) rfl rfl
  | 10, _ => exact T13 (i := 156) rfl rfl
  | 11, _ => exact T13 (i := 158) rfl rfl
  | 12, _ => exact T13 (i := 160) rfl rfl
  | 13, _ => exact T13 (i := 162) rfl rfl
  | 14, _ => exact T13 (i := 164) rfl rfl
  | 15, _ => exact T13 (i := 166) rfl rfl
  | 16, _ => exact T13 (i := 168) rfl rfl
  | 17, _ => exact T13 (i := 170) rfl rfl
  | 18, _ => exact T13 (i := 172) rfl rfl
  | 19, _ => exact T13 (i := 174) rfl rfl
  | 20, _ => exact T13 (i := 176) rfl rfl
  | 21, _ => exact T13 (i := 178) rfl rfl
  | 22, _ => exact T13 (i := 180) rfl rfl
  | 23, _ => exact T13 (i := 182) rfl rfl
  | 24, _ => exact T13 (i := 184) rfl rfl
  | 25, _ => exact T13 (i := 186) rfl rfl
  | 26, _ => exact T13 (i := 188) rfl rfl
  | 27, _ => exact T13 (i := 190) rfl rfl
  | 28, _ => exact T13 (i := 192) rfl rfl
  | 29, _ => exact T13 (i := 194) rfl rfl
  | k + 30, hk => exact absurd hk (by omega)
theorem gX1_11 : GF wlC RX1 11 2 (fun d _ => .ref (d.1 11)) := ⟨0, 1, RX1, TX1, 11, rfl, uwX1, by decide, Or.inl (T11 (i := 82) rfl rfl), rfl, fun d S => ⟨_, wl_get (fun c => (d.1 c, cellC d S c)) (by decide), rfl⟩⟩
theorem gX1_18 : GF wlC RX1 18 2 (fun d _ => .ref (d.1 12)) := ⟨0, 2, RX1, TX1, 11, rfl, uwX1, by decide, Or.inl (T11 (i := 83) rfl rfl), rfl, fun d S => ⟨_, wl_get (fun c => (d.1 c, cellC d S c)) (by decide), rfl⟩⟩
theorem gX1_21 : GF wlC RX1 21 2 (fun d _ => .ref (d.1 13)) := ⟨0, 3, RX1, TX1, 11, rfl, uwX1, by decide, Or.inl (T11 (i := 84) rfl rfl), rfl, fun d S => ⟨_, wl_get (fun c => (d.1 c, cellC d S c)) (by decide), rfl⟩⟩
theorem gX1_25 : GF wlC RX1 25 2 (fun d _ => .ref (d.1 14)) := ⟨0, 4, RX1, TX1, 11, rfl, uwX1, by decide, Or.inl (T11 (i := 85) rfl rfl), rfl, fun d S => ⟨_, wl_get (fun c => (d.1 c, cellC d S c)) (by decide), rfl⟩⟩
theorem gX1_28 : GF wlC RX1 28 2 (fun d _ => .ref (d.1 15)) := ⟨0, 5, RX1, TX1, 11, rfl, uwX1, by decide, Or.inl (T11 (i := 86) rfl rfl), rfl, fun d S => ⟨_, wl_get (fun c => (d.1 c, cellC d S c)) (by decide), rfl⟩⟩
theorem gX1_31 : GF wlC RX1 31 2 (fun d _ => .ref (d.1 16)) := ⟨0, 6, RX1, TX1, 11, rfl, uwX1, by decide, Or.inl (T11 (i := 88) rfl rfl), rfl, fun d S => ⟨_, wl_get (fun c => (d.1 c, cellC d S c)) (by decide), rfl⟩⟩
theorem gX1_34 : GF wlC RX1 34 2 (fun d _ => .ref (d.1 17)) := ⟨0, 7, RX1, TX1, 11, rfl, uwX1, by decide, Or.inl (T11 (i := 90) rfl rfl), rfl, fun d S => ⟨_, wl_get (fun c => (d.1 c, cellC d S c)) (by decide), rfl⟩⟩
theorem gX1_37 : GF wlC RX1 37 2 (fun d _ => .ref (d.1 1)) := ⟨0, 0, RX1, TX1, 11, rfl, uwX1, by decide, Or.inl (T11 (i := 81) rfl rfl), rfl, fun d S => ⟨_, wl_get (fun c => (d.1 c, cellC d S c)) (by decide), rfl⟩⟩
theorem gX1_59 : GF wlC RX1 59 2 (fun _ S => .long (gL S 109)) := ⟨0, 9, RX1, TX1, 11, rfl, uwX1, by decide, Or.inl (T11 (i := 93) rfl rfl), rfl, fun d S => ⟨_, wl_get (fun c => (d.1 c, cellC d S c)) (by decide), rfl⟩⟩
theorem gX1_63 : GF wlC RX1 63 2 (fun _ S => .int (gI S 110)) := ⟨0, 10, RX1, TX1, 11, rfl, uwX1, by decide, Or.inl (T11 (i := 95) rfl rfl), rfl, fun d S => ⟨_, wl_get (fun c => (d.1 c, cellC d S c)) (by decide), rfl⟩⟩
theorem gX1_91 : GF wlC RX1 91 1 (fun _ S => .int (gI S 208)) := ⟨1, 8, RX2, TX2, 11, rfl, uwX2, by decide, Or.inr ⟨_, N11 (i := 43) rfl rfl⟩, rfl, fun d S => ⟨_, wl_get (fun c => (d.1 c, cellC d S c)) (by decide), rfl⟩⟩
theorem gX2_9 : GF wlC RX2 9 1 (fun d _ => .ref (d.1 4)) := ⟨1, 0, RX2, TX2, 11, rfl, uwX2, by decide, Or.inl (T11 (i := 33) rfl rfl), rfl, fun d S => ⟨_, wl_get (fun c => (d.1 c, cellC d S c)) (by decide), rfl⟩⟩
theorem gX2_15 : GF wlC RX2 15 1 (fun d _ => .ref (d.1 5)) := ⟨1, 1, RX2, TX2, 11, rfl, uwX2, by decide, Or.inl (T11 (i := 34) rfl rfl), rfl, fun d S => ⟨_, wl_get (fun c => (d.1 c, cellC d S c)) (by decide), rfl⟩⟩
theorem gX2_18 : GF wlC RX2 18 1 (fun d _ => .ref (d.1 6)) := ⟨1, 2, RX2, TX2, 11, rfl, uwX2, by decide, Or.inl (T11 (i := 35) rfl rfl), rfl, fun d S => ⟨_, wl_get (fun c => (d.1 c, cellC d S c)) (by decide), rfl⟩⟩
theorem gX2_21 : GF wlC RX2 21 1 (fun d _ => .ref (d.1 7)) := ⟨1, 3, RX2, TX2, 11, rfl, uwX2, by decide, Or.inl (T11 (i := 36) rfl rfl), rfl, fun d S => ⟨_, wl_get (fun c => (d.1 c, cellC d S c)) (by decide), rfl⟩⟩
theorem gX2_24 : GF wlC RX2 24 1 (fun d _ => .ref (d.1 8)) := ⟨1, 4, RX2, TX2, 11, rfl, uwX2, by decide, Or.inl (T11 (i := 37) rfl rfl), rfl, fun d S => ⟨_, wl_get (fun c => (d.1 c, cellC d S c)) (by decide), rfl⟩⟩
theorem gX2_29 : GF wlC RX2 29 1 (fun d _ => .ref (d.1 9)) := ⟨1, 5, RX2, TX2, 11, rfl, uwX2, by decide, Or.inl (T11 (i := 38) rfl rfl), rfl, fun d S => ⟨_, wl_get (fun c => (d.1 c, cellC d S c)) (by decide), rfl⟩⟩
theorem gX2_32 : GF wlC RX2 32 1 (fun d _ => .ref (d.1 10)) := ⟨1, 6, RX2, TX2, 11, rfl, uwX2, by decide, Or.inl (T11 (i := 39) rfl rfl), rfl, fun d S => ⟨_, wl_get (fun c => (d.1 c, cellC d S c)) (by decide), rfl⟩⟩
theorem gX2_38 : GF wlC RX2 38 1 (fun _ S => .int (gI S 208)) := ⟨1, 8, RX2, TX2, 11, rfl, uwX2, by decide, Or.inl (T11 (i := 41) rfl rfl), rfl, fun d S => ⟨_, wl_get (fun c => (d.1 c, cellC d S c)) (by decide), rfl⟩⟩
theorem gX2_42 : GF wlC RX2 42 1 (fun _ S => .int (gI S 209)) := ⟨1, 9, RX2, TX2, 11, rfl, uwX2, by decide, Or.inl (T11 (i := 44) rfl rfl), rfl, fun d S => ⟨_, wl_get (fun c => (d.1 c, cellC d S c)) (by decide), rfl⟩⟩
theorem gX2_45 : GF wlC RX2 45 1 (fun _ S => .int (gI S 210)) := ⟨1, 10, RX2, TX2, 11, rfl, uwX2, by decide, Or.inl (T11 (i := 46) rfl rfl), rfl, fun d S => ⟨_, wl_get (fun c => (d.1 c, cellC d S c)) (by decide), rfl⟩⟩
theorem gX2_48 : GF wlC RX2 48 1 (fun _ S => .int (gI S 207)) := ⟨1, 7, RX2, TX2, 11, rfl, uwX2, by decide, Or.inl (T11 (i := 40) rfl rfl), rfl, fun d S => ⟨_, wl_get (fun c => (d.1 c, cellC d S c)) (by decide), rfl⟩⟩
theorem gX3_11 : GF wlC RX3 11 3 (fun d _ => .ref (d.1 18)) := ⟨2, 1, RX3, TX3, 5, rfl, uwX3, by decide, Or.inl (T11 (i := 129) rfl rfl), rfl, fun d S => ⟨_, wl_get (fun c => (d.1 c, cellC d S c)) (by decide), rfl⟩⟩
theorem gX3_16 : GF wlC RX3 16 3 (fun d _ => .ref (d.1 1)) := ⟨2, 0, RX3, TX3, 5, rfl, uwX3, by decide, Or.inl (T11 (i := 128) rfl rfl), rfl, fun d S => ⟨_, wl_get (fun c => (d.1 c, cellC d S c)) (by decide), rfl⟩⟩
theorem gX3_20 : GF wlC RX3 20 3 (fun _ S => .int (gI S 304)) := ⟨2, 4, RX3, TX3, 5, rfl, uwX3, by decide, Or.inl (T11 (i := 134) rfl rfl), rfl, fun d S => ⟨_, wl_get (fun c => (d.1 c, cellC d S c)) (by decide), rfl⟩⟩
theorem gX3_39 : GF wlC RX3 39 3 (fun _ S => .int (gI S 303)) := ⟨2, 3, RX3, TX3, 5, rfl, uwX3, by decide, Or.inl (T11 (i := 133) rfl rfl), rfl, fun d S => ⟨_, wl_get (fun c => (d.1 c, cellC d S c)) (by decide), rfl⟩⟩
theorem gX3_43 : GF wlC RX3 43 3 (fun _ S => .long (gL S 302)) := ⟨2, 2, RX3, TX3, 5, rfl, uwX3, by decide, Or.inl (T11 (i := 131) rfl rfl), rfl, fun d S => ⟨_, wl_get (fun c => (d.1 c, cellC d S c)) (by decide), rfl⟩⟩
theorem gX4_12 : GF wlC RX4 12 0 (fun d _ => .ref (d.1 1)) := ⟨3, 0, RX4, TX4, 3, rfl, uwX4, by decide, Or.inl (T11 (i := 146) rfl rfl), rfl, fun d S => ⟨_, wl_get (fun c => (d.1 c, cellC d S c)) (by decide), rfl⟩⟩
theorem gX4_21 : GF wlC RX4 21 0 (fun d _ => .ref (d.1 2)) := ⟨3, 1, RX4, TX4, 3, rfl, uwX4, by decide, Or.inl (T11 (i := 147) rfl rfl), rfl, fun d S => ⟨_, wl_get (fun c => (d.1 c, cellC d S c)) (by decide), rfl⟩⟩
theorem gX4_28 : GF wlC RX4 28 0 (fun d _ => .ref (d.1 3)) := ⟨3, 2, RX4, TX4, 3, rfl, uwX4, by decide, Or.inl (T11 (i := 148) rfl rfl), rfl, fun d S => ⟨_, wl_get (fun c => (d.1 c, cellC d S c)) (by decide), rfl⟩⟩
theorem gX4_56 : GF wlC RX4 56 1 (fun _ S => .int (gI S 208)) := ⟨1, 8, RX2, TX2, 11, rfl, uwX2, by decide, Or.inr ⟨_, N11 (i := 42) rfl rfl⟩, rfl, fun d S => ⟨_, wl_get (fun c => (d.1 c, cellC d S c)) (by decide), rfl⟩⟩
theorem gX4_88 : GF wlC RX4 88 2 (fun _ S => .int (gI S 108)) := ⟨0, 8, RX1, TX1, 11, rfl, uwX1, by decide, Or.inr ⟨_, N11 (i := 92) rfl rfl⟩, rfl, fun d S => ⟨_, wl_get (fun c => (d.1 c, cellC d S c)) (by decide), rfl⟩⟩
theorem gX4_104 : GF wlC RX4 104 2 (fun d _ => .ref (d.1 15)) := ⟨0, 5, RX1, TX1, 11, rfl, uwX1, by decide, Or.inr ⟨_, N11 (i := 87) rfl rfl⟩, rfl, fun d S => ⟨_, wl_get (fun c => (d.1 c, cellC d S c)) (by decide), rfl⟩⟩
theorem gX4_108 : GF wlC RX4 108 2 (fun d _ => .ref (d.1 16)) := ⟨0, 6, RX1, TX1, 11, rfl, uwX1, by decide, Or.inr ⟨_, N11 (i := 89) rfl rfl⟩, rfl, fun d S => ⟨_, wl_get (fun c => (d.1 c, cellC d S c)) (by decide), rfl⟩⟩
theorem gX4_135 : GF wlC RX4 135 2 (fun _ S => .long (gL S 109)) := ⟨0, 9, RX1, TX1, 11, rfl, uwX1, by decide, Or.inr ⟨_, N11 (i := 94) rfl rfl⟩, rfl, fun d S => ⟨_, wl_get (fun c => (d.1 c, cellC d S c)) (by decide), rfl⟩⟩
theorem gX4_163 : GF wlC RX4 163 3 (fun _ S => .long (gL S 302)) := ⟨2, 2, RX3, TX3, 5, rfl, uwX3, by decide, Or.inr ⟨_, N11 (i := 132) rfl rfl⟩, rfl, fun d S => ⟨_, wl_get (fun c => (d.1 c, cellC d S c)) (by decide), rfl⟩⟩
theorem gX4_166 : GF wlC RX4 166 3 (fun d _ => .ref (d.1 18)) := ⟨2, 1, RX3, TX3, 5, rfl, uwX3, by decide, Or.inr ⟨_, N11 (i := 130) rfl rfl⟩, rfl, fun d S => ⟨_, wl_get (fun c => (d.1 c, cellC d S c)) (by decide), rfl⟩⟩
theorem gX4_170 : GF wlC RX4 170 1 (fun _ S => .int (gI S 209)) := ⟨1, 9, RX2, TX2, 11, rfl, uwX2, by decide, Or.inr ⟨_, N11 (i := 45) rfl rfl⟩, rfl, fun d S => ⟨_, wl_get (fun c => (d.1 c, cellC d S c)) (by decide), rfl⟩⟩
theorem gX4_173 : GF wlC RX4 173 1 (fun _ S => .int (gI S 210)) := ⟨1, 10, RX2, TX2, 11, rfl, uwX2, by decide, Or.inr ⟨_, N11 (i := 47) rfl rfl⟩, rfl, fun d S => ⟨_, wl_get (fun c => (d.1 c, cellC d S c)) (by decide), rfl⟩⟩
theorem gX4_176 : GF wlC RX4 176 2 (fun _ S => .int (gI S 110)) := ⟨0, 10, RX1, TX1, 11, rfl, uwX1, by decide, Or.inr ⟨_, N11 (i := 96) rfl rfl⟩, rfl, fun d S => ⟨_, wl_get (fun c => (d.1 c, cellC d S c)) (by decide), rfl⟩⟩
theorem gX5_7 : GF wlM RX5 7 0 (fun d _ => .ref (d.1 1)) := ⟨4, 4, RX5, TX5, 30, rfl, uwX5, by decide, Or.inl (T13 (i := 110) rfl rfl), rfl, fun d S => ⟨_, wl_get (fun c => (d.1 c, cellM d S c)) (by decide), rfl⟩⟩
theorem gX5_13 : GF wlM RX5 13 0 (fun d _ => .ref (d.1 2)) := ⟨4, 5, RX5, TX5, 30, rfl, uwX5, by decide, Or.inl (T13 (i := 111) rfl rfl), rfl, fun d S => ⟨_, wl_get (fun c => (d.1 c, cellM d S c)) (by decide), rfl⟩⟩
theorem gX5_16 : GF wlM RX5 16 0 (fun d _ => .ref (d.1 3)) := ⟨4, 6, RX5, TX5, 30, rfl, uwX5, by decide, Or.inl (T13 (i := 112) rfl rfl), rfl, fun d S => ⟨_, wl_get (fun c => (d.1 c, cellM d S c)) (by decide), rfl⟩⟩
theorem gX5_19 : GF wlM RX5 19 0 (fun d _ => .ref (d.1 4)) := ⟨4, 7, RX5, TX5, 30, rfl, uwX5, by decide, Or.inl (T13 (i := 113) rfl rfl), rfl, fun d S => ⟨_, wl_get (fun c => (d.1 c, cellM d S c)) (by decide), rfl⟩⟩
theorem gX5_22 : GF wlM RX5 22 0 (fun d _ => .ref (d.1 5)) := ⟨4, 8, RX5, TX5, 30, rfl, uwX5, by decide, Or.inl (T13 (i := 114) rfl rfl), rfl, fun d S => ⟨_, wl_get (fun c => (d.1 c, cellM d S c)) (by decide), rfl⟩⟩
theorem gX5_25 : GF wlM RX5 25 0 (fun d _ => .ref (d.1 6)) := ⟨4, 9, RX5, TX5, 30, rfl, uwX5, by decide, Or.inl (T13 (i := 115) rfl rfl), rfl, fun d S => ⟨_, wl_get (fun c => (d.1 c, cellM d S c)) (by decide), rfl⟩⟩
theorem gX5_28 : GF wlM RX5 28 0 (fun d _ => .ref (d.1 7)) := ⟨4, 10, RX5, TX5, 30, rfl, uwX5, by decide, Or.inl (T13 (i := 116) rfl rfl), rfl, fun d S => ⟨_, wl_get (fun c => (d.1 c, cellM d S c)) (by decide), rfl⟩⟩
theorem gX5_32 : GF wlM RX5 32 0 (fun d _ => .ref (d.1 8)) := ⟨4, 14, RX5, TX5, 30, rfl, uwX5, by decide, Or.inl (T13 (i := 120) rfl rfl), rfl, fun d S => ⟨_, wl_get (fun c => (d.1 c, cellM d S c)) (by decide), rfl⟩⟩
theorem gX5_35 : GF wlM RX5 35 0 (fun d _ => .ref (d.1 9)) := ⟨4, 15, RX5, TX5, 30, rfl, uwX5, by decide, Or.inl (T13 (i := 121) rfl rfl), rfl, fun d S => ⟨_, wl_get (fun c => (d.1 c, cellM d S c)) (by decide), rfl⟩⟩
theorem gX5_38 : GF wlM RX5 38 0 (fun d _ => .ref (d.1 10)) := ⟨4, 16, RX5, TX5, 30, rfl, uwX5, by decide, Or.inl (T13 (i := 122) rfl rfl), rfl, fun d S => ⟨_, wl_get (fun c => (d.1 c, cellM d S c)) (by decide), rfl⟩⟩
theorem gX5_41 : GF wlM RX5 41 0 (fun d _ => .ref (d.1 11)) := ⟨4, 17, RX5, TX5, 30, rfl, uwX5, by decide, Or.inl (T13 (i := 123) rfl rfl), rfl, fun d S => ⟨_, wl_get (fun c => (d.1 c, cellM d S c)) (by decide), rfl⟩⟩
theorem gX5_44 : GF wlM RX5 44 0 (fun d _ => .ref (d.1 12)) := ⟨4, 18, RX5, TX5, 30, rfl, uwX5, by decide, Or.inl (T13 (i := 124) rfl rfl), rfl, fun d S => ⟨_, wl_get (fun c => (d.1 c, cellM d S c)) (by decide), rfl⟩⟩
theorem gX5_48 : GF wlM RX5 48 0 (fun d _ => .ref (d.1 13)) := ⟨4, 19, RX5, TX5, 30, rfl, uwX5, by decide, Or.inl (T13 (i := 125) rfl rfl), rfl, fun d S => ⟨_, wl_get (fun c => (d.1 c, cellM d S c)) (by decide), rfl⟩⟩
theorem gX5_51 : GF wlM RX5 51 0 (fun d _ => .ref (d.1 14)) := ⟨4, 23, RX5, TX5, 30, rfl, uwX5, by decide, Or.inl (T13 (i := 129) rfl rfl), rfl, fun d S => ⟨_, wl_get (fun c => (d.1 c, cellM d S c)) (by decide), rfl⟩⟩
theorem gX5_54 : GF wlM RX5 54 0 (fun d _ => .ref (d.1 15)) := ⟨4, 24, RX5, TX5, 30, rfl, uwX5, by decide, Or.inl (T13 (i := 130) rfl rfl), rfl, fun d S => ⟨_, wl_get (fun c => (d.1 c, cellM d S c)) (by decide), rfl⟩⟩
theorem gX5_57 : GF wlM RX5 57 0 (fun d _ => .ref (d.1 16)) := ⟨4, 26, RX5, TX5, 30, rfl, uwX5, by decide, Or.inl (T13 (i := 132) rfl rfl), rfl, fun d S => ⟨_, wl_get (fun c => (d.1 c, cellM d S c)) (by decide), rfl⟩⟩
theorem gX5_60 : GF wlM RX5 60 0 (fun d _ => .ref (d.1 17)) := ⟨4, 27, RX5, TX5, 30, rfl, uwX5, by decide, Or.inl (T13 (i := 133) rfl rfl), rfl, fun d S => ⟨_, wl_get (fun c => (d.1 c, cellM d S c)) (by decide), rfl⟩⟩
theorem gX5_63 : GF wlM RX5 63 0 (fun d _ => .ref (d.1 18)) := ⟨4, 28, RX5, TX5, 30, rfl, uwX5, by decide, Or.inl (T13 (i := 134) rfl rfl), rfl, fun d S => ⟨_, wl_get (fun c => (d.1 c, cellM d S c)) (by decide), rfl⟩⟩
theorem gX5_69 : GF wlM RX5 69 0 (fun _ S => .int (gI S 0)) := ⟨4, 0, RX5, TX5, 30, rfl, uwX5, by decide, Or.inl (T13 (i := 106) rfl rfl), rfl, fun d S => ⟨_, wl_get (fun c => (d.1 c, cellM d S c)) (by decide), rfl⟩⟩
theorem gX5_73 : GF wlM RX5 73 0 (fun _ S => .int (gI S 1)) := ⟨4, 1, RX5, TX5, 30, rfl, uwX5, by decide, Or.inl (T13 (i := 107) rfl rfl), rfl, fun d S => ⟨_, wl_get (fun c => (d.1 c, cellM d S c)) (by decide), rfl⟩⟩
theorem gX5_76 : GF wlM RX5 76 0 (fun _ S => .int (gI S 2)) := ⟨4, 2, RX5, TX5, 30, rfl, uwX5, by decide, Or.inl (T13 (i := 108) rfl rfl), rfl, fun d S => ⟨_, wl_get (fun c => (d.1 c, cellM d S c)) (by decide), rfl⟩⟩
theorem gX5_79 : GF wlM RX5 79 0 (fun _ S => .int (gI S 3)) := ⟨4, 3, RX5, TX5, 30, rfl, uwX5, by decide, Or.inl (T13 (i := 109) rfl rfl), rfl, fun d S => ⟨_, wl_get (fun c => (d.1 c, cellM d S c)) (by decide), rfl⟩⟩
theorem gX5_82 : GF wlM RX5 82 0 (fun _ S => .int (gI S 11)) := ⟨4, 11, RX5, TX5, 30, rfl, uwX5, by decide, Or.inl (T13 (i := 117) rfl rfl), rfl, fun d S => ⟨_, wl_get (fun c => (d.1 c, cellM d S c)) (by decide), rfl⟩⟩
theorem gX5_112 : GF wlM RX5 112 0 (fun _ S => .int (gI S 20)) := ⟨4, 20, RX5, TX5, 30, rfl, uwX5, by decide, Or.inl (T13 (i := 126) rfl rfl), rfl, fun d S => ⟨_, wl_get (fun c => (d.1 c, cellM d S c)) (by decide), rfl⟩⟩
theorem gX5_115 : GF wlM RX5 115 0 (fun _ S => .int (gI S 21)) := ⟨4, 21, RX5, TX5, 30, rfl, uwX5, by decide, Or.inl (T13 (i := 127) rfl rfl), rfl, fun d S => ⟨_, wl_get (fun c => (d.1 c, cellM d S c)) (by decide), rfl⟩⟩
theorem gX5_118 : GF wlM RX5 118 0 (fun _ S => .long (gL S 22)) := ⟨4, 22, RX5, TX5, 30, rfl, uwX5, by decide, Or.inl (T13 (i := 128) rfl rfl), rfl, fun d S => ⟨_, wl_get (fun c => (d.1 c, cellM d S c)) (by decide), rfl⟩⟩
theorem gX5_146 : GF wlM RX5 146 0 (fun _ S => .int (gI S 12)) := ⟨4, 12, RX5, TX5, 30, rfl, uwX5, by decide, Or.inl (T13 (i := 118) rfl rfl), rfl, fun d S => ⟨_, wl_get (fun c => (d.1 c, cellM d S c)) (by decide), rfl⟩⟩
theorem gX5_149 : GF wlM RX5 149 0 (fun _ S => .long (gL S 13)) := ⟨4, 13, RX5, TX5, 30, rfl, uwX5, by decide, Or.inl (T13 (i := 119) rfl rfl), rfl, fun d S => ⟨_, wl_get (fun c => (d.1 c, cellM d S c)) (by decide), rfl⟩⟩
theorem gX5_186 : GF wlM RX5 186 0 (fun _ S => .int (gI S 25)) := ⟨4, 25, RX5, TX5, 30, rfl, uwX5, by decide, Or.inl (T13 (i := 131) rfl rfl), rfl, fun d S => ⟨_, wl_get (fun c => (d.1 c, cellM d S c)) (by decide), rfl⟩⟩
theorem gX5_189 : GF wlM RX5 189 0 (fun _ S => .long (gL S 29)) := ⟨4, 29, RX5, TX5, 30, rfl, uwX5, by decide, Or.inl (T13 (i := 135) rfl rfl), rfl, fun d S => ⟨_, wl_get (fun c => (d.1 c, cellM d S c)) (by decide), rfl⟩⟩
theorem pX1_41 : ∀ x : Int32, (x = 0 ∨ x = 1) → PF wlC RX1 41 2 (.int x) (fun S => sI S 108 x) := fun x hx => ⟨0, 8, RX1, TX1, 11, tyX1, rfl, uwX1, by decide, T11 (i := 91) rfl rfl, rfl, tyX1_ok, nmX1, rfl, by rcases hx with rfl | rfl <;> rfl, by rcases hx with rfl | rfl <;> rfl, fun d S => ⟨_, wl_get (fun c => (d.1 c, cellC d S c)) (by decide), Nat.le_of_ble_eq_true rfl, by
  refine wl_set rfl (fun j hj => ?_)
  have : cellC d (sI S 108 x) j = cellC d S j := by
    unfold cellC
    simp only [if_neg (show ¬ j = 2 from hj)]
    rfl
  rw [this]⟩⟩
theorem pX1_59 : ∀ x : Int64, PF wlC RX1 59 2 (.long x) (fun S => sL S 109 x) := fun x => ⟨0, 9, RX1, TX1, 11, tyX1, rfl, uwX1, by decide, T11 (i := 93) rfl rfl, rfl, tyX1_ok, nmX1, rfl, rfl, rfl, fun d S => ⟨_, wl_get (fun c => (d.1 c, cellC d S c)) (by decide), Nat.le_of_ble_eq_true rfl, by
  refine wl_set rfl (fun j hj => ?_)
  have : cellC d (sL S 109 x) j = cellC d S j := by
    unfold cellC
    simp only [if_neg (show ¬ j = 2 from hj)]
    rfl
  rw [this]⟩⟩
theorem pX1_63 : ∀ x : Int32, PF wlC RX1 63 2 (.int x) (fun S => sI S 110 x) := fun x => ⟨0, 10, RX1, TX1, 11, tyX1, rfl, uwX1, by decide, T11 (i := 95) rfl rfl, rfl, tyX1_ok, nmX1, rfl, rfl, rfl, fun d S => ⟨_, wl_get (fun c => (d.1 c, cellC d S c)) (by decide), Nat.le_of_ble_eq_true rfl, by
  refine wl_set rfl (fun j hj => ?_)
  have : cellC d (sI S 110 x) j = cellC d S j := by
    unfold cellC
    simp only [if_neg (show ¬ j = 2 from hj)]
    rfl
  rw [this]⟩⟩
theorem pX2_38 : ∀ x : Int32, PF wlC RX2 38 1 (.int x) (fun S => sI S 208 x) := fun x => ⟨1, 8, RX2, TX2, 11, tyX2, rfl, uwX2, by decide, T11 (i := 41) rfl rfl, rfl, tyX2_ok, nmX2, rfl, rfl, rfl, fun d S => ⟨_, wl_get (fun c => (d.1 c, cellC d S c)) (by decide), Nat.le_of_ble_eq_true rfl, by
  refine wl_set rfl (fun j hj => ?_)
  have : cellC d (sI S 208 x) j = cellC d S j := by
    unfold cellC
    simp only [if_neg (show ¬ j = 1 from hj)]
    rfl
  rw [this]⟩⟩
theorem pX2_42 : ∀ x : Int32, PF wlC RX2 42 1 (.int x) (fun S => sI S 209 x) := fun x => ⟨1, 9, RX2, TX2, 11, tyX2, rfl, uwX2, by decide, T11 (i := 44) rfl rfl, rfl, tyX2_ok, nmX2, rfl, rfl, rfl, fun d S => ⟨_, wl_get (fun c => (d.1 c, cellC d S c)) (by decide), Nat.le_of_ble_eq_true rfl, by
  refine wl_set rfl (fun j hj => ?_)
  have : cellC d (sI S 209 x) j = cellC d S j := by
    unfold cellC
    simp only [if_neg (show ¬ j = 1 from hj)]
    rfl
  rw [this]⟩⟩
theorem pX2_45 : ∀ x : Int32, PF wlC RX2 45 1 (.int x) (fun S => sI S 210 x) := fun x => ⟨1, 10, RX2, TX2, 11, tyX2, rfl, uwX2, by decide, T11 (i := 46) rfl rfl, rfl, tyX2_ok, nmX2, rfl, rfl, rfl, fun d S => ⟨_, wl_get (fun c => (d.1 c, cellC d S c)) (by decide), Nat.le_of_ble_eq_true rfl, by
  refine wl_set rfl (fun j hj => ?_)
  have : cellC d (sI S 210 x) j = cellC d S j := by
    unfold cellC
    simp only [if_neg (show ¬ j = 1 from hj)]
    rfl
  rw [this]⟩⟩
theorem pX2_48 : ∀ x : Int32, PF wlC RX2 48 1 (.int x) (fun S => sI S 207 x) := fun x => ⟨1, 7, RX2, TX2, 11, tyX2, rfl, uwX2, by decide, T11 (i := 40) rfl rfl, rfl, tyX2_ok, nmX2, rfl, rfl, rfl, fun d S => ⟨_, wl_get (fun c => (d.1 c, cellC d S c)) (by decide), Nat.le_of_ble_eq_true rfl, by
  refine wl_set rfl (fun j hj => ?_)
  have : cellC d (sI S 207 x) j = cellC d S j := by
    unfold cellC
    simp only [if_neg (show ¬ j = 1 from hj)]
    rfl
  rw [this]⟩⟩
theorem pX3_20 : ∀ x : Int32, (x = 0 ∨ x = 1) → PF wlC RX3 20 3 (.int x) (fun S => sI S 304 x) := fun x hx => ⟨2, 4, RX3, TX3, 5, tyX3, rfl, uwX3, by decide, T11 (i := 134) rfl rfl, rfl, tyX3_ok, nmX3, rfl, by rcases hx with rfl | rfl <;> rfl, by rcases hx with rfl | rfl <;> rfl, fun d S => ⟨_, wl_get (fun c => (d.1 c, cellC d S c)) (by decide), Nat.le_of_ble_eq_true rfl, by
  refine wl_set rfl (fun j hj => ?_)
  have : cellC d (sI S 304 x) j = cellC d S j := by
    unfold cellC
    simp only [if_neg (show ¬ j = 3 from hj)]
    rfl
  rw [this]⟩⟩
theorem pX3_39 : ∀ x : Int32, PF wlC RX3 39 3 (.int x) (fun S => sI S 303 x) := fun x => ⟨2, 3, RX3, TX3, 5, tyX3, rfl, uwX3, by decide, T11 (i := 133) rfl rfl, rfl, tyX3_ok, nmX3, rfl, rfl, rfl, fun d S => ⟨_, wl_get (fun c => (d.1 c, cellC d S c)) (by decide), Nat.le_of_ble_eq_true rfl, by
  refine wl_set rfl (fun j hj => ?_)
  have : cellC d (sI S 303 x) j = cellC d S j := by
    unfold cellC
    simp only [if_neg (show ¬ j = 3 from hj)]
    rfl
  rw [this]⟩⟩
theorem pX3_43 : ∀ x : Int64, PF wlC RX3 43 3 (.long x) (fun S => sL S 302 x) := fun x => ⟨2, 2, RX3, TX3, 5, tyX3, rfl, uwX3, by decide, T11 (i := 131) rfl rfl, rfl, tyX3_ok, nmX3, rfl, rfl, rfl, fun d S => ⟨_, wl_get (fun c => (d.1 c, cellC d S c)) (by decide), Nat.le_of_ble_eq_true rfl, by
  refine wl_set rfl (fun j hj => ?_)
  have : cellC d (sL S 302 x) j = cellC d S j := by
    unfold cellC
    simp only [if_neg (show ¬ j = 3 from hj)]
    rfl
  rw [this]⟩⟩
theorem pX5_69 : ∀ x : Int32, PF wlM RX5 69 0 (.int x) (fun S => sI S 0 x) := fun x => ⟨4, 0, RX5, TX5, 30, tyX5, rfl, uwX5, by decide, T13 (i := 106) rfl rfl, rfl, tyX5_ok, nmX5, rfl, rfl, rfl, fun d S => ⟨_, wl_get (fun c => (d.1 c, cellM d S c)) (by decide), Nat.le_of_ble_eq_true rfl, by
  refine wl_set rfl (fun j hj => ?_)
  have : cellM d (sI S 0 x) j = cellM d S j := by
    unfold cellM
    simp only [if_neg (show ¬ j = 0 from hj)]
    rfl
  rw [this]⟩⟩
theorem pX5_73 : ∀ x : Int32, PF wlM RX5 73 0 (.int x) (fun S => sI S 1 x) := fun x => ⟨4, 1, RX5, TX5, 30, tyX5, rfl, uwX5, by decide, T13 (i := 107) rfl rfl, rfl, tyX5_ok, nmX5, rfl, rfl, rfl, fun d S => ⟨_, wl_get (fun c => (d.1 c, cellM d S c)) (by decide), Nat.le_of_ble_eq_true rfl, by
  refine wl_set rfl (fun j hj => ?_)
  have : cellM d (sI S 1 x) j = cellM d S j := by
    unfold cellM
    simp only [if_neg (show ¬ j = 0 from hj)]
    rfl
  rw [this]⟩⟩
theorem pX5_76 : ∀ x : Int32, PF wlM RX5 76 0 (.int x) (fun S => sI S 2 x) := fun x => ⟨4, 2, RX5, TX5, 30, tyX5, rfl, uwX5, by decide, T13 (i := 108) rfl rfl, rfl, tyX5_ok, nmX5, rfl, rfl, rfl, fun d S => ⟨_, wl_get (fun c => (d.1 c, cellM d S c)) (by decide), Nat.le_of_ble_eq_true rfl, by
  refine wl_set rfl (fun j hj => ?_)
  have : cellM d (sI S 2 x) j = cellM d S j := by
    unfold cellM
    simp only [if_neg (show ¬ j = 0 from hj)]
    rfl
  rw [this]⟩⟩
theorem pX5_79 : ∀ x : Int32, PF wlM RX5 79 0 (.int x) (fun S => sI S 3 x) := fun x => ⟨4, 3, RX5, TX5, 30, tyX5, rfl, uwX5, by decide, T13 (i := 109) rfl rfl, rfl, tyX5_ok, nmX5, rfl, rfl, rfl, fun d S => ⟨_, wl_get (fun c => (d.1 c, cellM d S c)) (by decide), Nat.le_of_ble_eq_true rfl, by
  refine wl_set rfl (fun j hj => ?_)
  have : cellM d (sI S 3 x) j = cellM d S j := by
    unfold cellM
    simp only [if_neg (show ¬ j = 0 from hj)]
    rfl
  rw [this]⟩⟩
theorem pX5_82 : ∀ x : Int32, (x = 0 ∨ x = 1) → PF wlM RX5 82 0 (.int x) (fun S => sI S 11 x) := fun x hx => ⟨4, 11, RX5, TX5, 30, tyX5, rfl, uwX5, by decide, T13 (i := 117) rfl rfl, rfl, tyX5_ok, nmX5, rfl, by rcases hx with rfl | rfl <;> rfl, by rcases hx with rfl | rfl <;> rfl, fun d S => ⟨_, wl_get (fun c => (d.1 c, cellM d S c)) (by decide), Nat.le_of_ble_eq_true rfl, by
  refine wl_set rfl (fun j hj => ?_)
  have : cellM d (sI S 11 x) j = cellM d S j := by
    unfold cellM
    simp only [if_neg (show ¬ j = 0 from hj)]
    rfl
  rw [this]⟩⟩
theorem pX5_112 : ∀ x : Int32, PF wlM RX5 112 0 (.int x) (fun S => sI S 20 x) := fun x => ⟨4, 20, RX5, TX5, 30, tyX5, rfl, uwX5, by decide, T13 (i := 126) rfl rfl, rfl, tyX5_ok, nmX5, rfl, rfl, rfl, fun d S => ⟨_, wl_get (fun c => (d.1 c, cellM d S c)) (by decide), Nat.le_of_ble_eq_true rfl, by
  refine wl_set rfl (fun j hj => ?_)
  have : cellM d (sI S 20 x) j = cellM d S j := by
    unfold cellM
    simp only [if_neg (show ¬ j = 0 from hj)]
    rfl
  rw [this]⟩⟩
theorem pX5_115 : ∀ x : Int32, PF wlM RX5 115 0 (.int x) (fun S => sI S 21 x) := fun x => ⟨4, 21, RX5, TX5, 30, tyX5, rfl, uwX5, by decide, T13 (i := 127) rfl rfl, rfl, tyX5_ok, nmX5, rfl, rfl, rfl, fun d S => ⟨_, wl_get (fun c => (d.1 c, cellM d S c)) (by decide), Nat.le_of_ble_eq_true rfl, by
  refine wl_set rfl (fun j hj => ?_)
  have : cellM d (sI S 21 x) j = cellM d S j := by
    unfold cellM
    simp only [if_neg (show ¬ j = 0 from hj)]
    rfl
  rw [this]⟩⟩
theorem pX5_118 : ∀ x : Int64, PF wlM RX5 118 0 (.long x) (fun S => sL S 22 x) := fun x => ⟨4, 22, RX5, TX5, 30, tyX5, rfl, uwX5, by decide, T13 (i := 128) rfl rfl, rfl, tyX5_ok, nmX5, rfl, rfl, rfl, fun d S => ⟨_, wl_get (fun c => (d.1 c, cellM d S c)) (by decide), Nat.le_of_ble_eq_true rfl, by
  refine wl_set rfl (fun j hj => ?_)
  have : cellM d (sL S 22 x) j = cellM d S j := by
    unfold cellM
    simp only [if_neg (show ¬ j = 0 from hj)]
    rfl
  rw [this]⟩⟩
theorem pX5_146 : ∀ x : Int32, PF wlM RX5 146 0 (.int x) (fun S => sI S 12 x) := fun x => ⟨4, 12, RX5, TX5, 30, tyX5, rfl, uwX5, by decide, T13 (i := 118) rfl rfl, rfl, tyX5_ok, nmX5, rfl, rfl, rfl, fun d S => ⟨_, wl_get (fun c => (d.1 c, cellM d S c)) (by decide), Nat.le_of_ble_eq_true rfl, by
  refine wl_set rfl (fun j hj => ?_)
  have : cellM d (sI S 12 x) j = cellM d S j := by
    unfold cellM
    simp only [if_neg (show ¬ j = 0 from hj)]
    rfl
  rw [this]⟩⟩
theorem pX5_149 : ∀ x : Int64, PF wlM RX5 149 0 (.long x) (fun S => sL S 13 x) := fun x => ⟨4, 13, RX5, TX5, 30, tyX5, rfl, uwX5, by decide, T13 (i := 119) rfl rfl, rfl, tyX5_ok, nmX5, rfl, rfl, rfl, fun d S => ⟨_, wl_get (fun c => (d.1 c, cellM d S c)) (by decide), Nat.le_of_ble_eq_true rfl, by
  refine wl_set rfl (fun j hj => ?_)
  have : cellM d (sL S 13 x) j = cellM d S j := by
    unfold cellM
    simp only [if_neg (show ¬ j = 0 from hj)]
    rfl
  rw [this]⟩⟩
theorem pX5_186 : ∀ x : Int32, PF wlM RX5 186 0 (.int x) (fun S => sI S 25 x) := fun x => ⟨4, 25, RX5, TX5, 30, tyX5, rfl, uwX5, by decide, T13 (i := 131) rfl rfl, rfl, tyX5_ok, nmX5, rfl, rfl, rfl, fun d S => ⟨_, wl_get (fun c => (d.1 c, cellM d S c)) (by decide), Nat.le_of_ble_eq_true rfl, by
  refine wl_set rfl (fun j hj => ?_)
  have : cellM d (sI S 25 x) j = cellM d S j := by
    unfold cellM
    simp only [if_neg (show ¬ j = 0 from hj)]
    rfl
  rw [this]⟩⟩
theorem pX5_189 : ∀ x : Int64, PF wlM RX5 189 0 (.long x) (fun S => sL S 29 x) := fun x => ⟨4, 29, RX5, TX5, 30, tyX5, rfl, uwX5, by decide, T13 (i := 135) rfl rfl, rfl, tyX5_ok, nmX5, rfl, rfl, rfl, fun d S => ⟨_, wl_get (fun c => (d.1 c, cellM d S c)) (by decide), Nat.le_of_ble_eq_true rfl, by
  refine wl_set rfl (fun j hj => ?_)
  have : cellM d (sL S 29 x) j = cellM d S j := by
    unfold cellM
    simp only [if_neg (show ¬ j = 0 from hj)]
    rfl
  rw [this]⟩⟩
theorem lkX0_11 : LkS RX0 11 yX0_valueOf cX0_valueOf 2 (some .int) 2 := ⟨⟨T12 (i := 128) rfl rfl, T11 (i := 7) rfl rfl, by decide +kernel, by decide, Or.inl (T12 (i := 187) rfl rfl)⟩, T12 (i := 127) rfl rfl⟩
theorem lkX1_45 : LkV RX1 45 yX2_markLive cX2_markLive 2 none 0 := ⟨⟨T12 (i := 21) rfl rfl, T11 (i := 2) rfl rfl, by decide +kernel, by decide, Or.inl (T12 (i := 66) rfl rfl)⟩, T12 (i := 19) rfl rfl, T12 (i := 20) rfl rfl⟩
theorem lkX1_50 : LkV RX1 50 yX2_liveAt cX2_liveAt 2 (some .int) 1 := ⟨⟨T12 (i := 29) rfl rfl, T11 (i := 2) rfl rfl, by decide +kernel, by decide, Or.inl (T12 (i := 67) rfl rfl)⟩, T12 (i := 27) rfl rfl, T12 (i := 28) rfl rfl⟩
theorem lkX1_54 : LkS RX1 54 yX0_maskOf cX0_maskOf 3 (some .int) 1 := ⟨⟨T12 (i := 70) rfl rfl, T11 (i := 7) rfl rfl, by decide +kernel, by decide, Or.inl (T12 (i := 68) rfl rfl)⟩, T12 (i := 69) rfl rfl⟩
theorem lkX1_69 : LkV RX1 69 yX1_come cX1_come 7 none 3 := ⟨⟨T12 (i := 75) rfl rfl, T11 (i := 3) rfl rfl, by decide +kernel, by decide, Or.inl (T12 (i := 72) rfl rfl)⟩, T12 (i := 74) rfl rfl, T10 (i := 9) rfl rfl⟩
theorem lkX1_73 : LkV RX1 73 yX1_size cX1_size 2 (some .int) 1 := ⟨⟨T12 (i := 106) rfl rfl, T11 (i := 3) rfl rfl, by decide +kernel, by decide, Or.inl (T12 (i := 103) rfl rfl)⟩, T12 (i := 104) rfl rfl, T12 (i := 105) rfl rfl⟩
theorem lkX1_76 : LkV RX1 76 yX1_has cX1_has 3 (some .boolean) 2 := ⟨⟨T12 (i := 118) rfl rfl, T11 (i := 3) rfl rfl, by decide +kernel, by decide, Or.inl (T12 (i := 115) rfl rfl)⟩, T12 (i := 116) rfl rfl, T12 (i := 117) rfl rfl⟩
theorem lkX1_80 : LkV RX1 80 yX1_heldAt cX1_heldAt 3 (some .int) 2 := ⟨⟨T12 (i := 114) rfl rfl, T11 (i := 3) rfl rfl, by decide +kernel, by decide, Or.inl (T12 (i := 111) rfl rfl)⟩, T12 (i := 112) rfl rfl, T12 (i := 113) rfl rfl⟩
theorem lkX1_84 : LkS RX1 84 yX0_valueOf cX0_valueOf 2 (some .int) 2 := ⟨⟨T12 (i := 128) rfl rfl, T11 (i := 7) rfl rfl, by decide +kernel, by decide, Or.inl (T12 (i := 206) rfl rfl)⟩, T12 (i := 127) rfl rfl⟩
theorem lkX1_87 : LkV RX1 87 yX1_massAt cX1_massAt 3 (some .long) 2 := ⟨⟨T12 (i := 140) rfl rfl, T11 (i := 3) rfl rfl, by decide +kernel, by decide, Or.inl (T12 (i := 137) rfl rfl)⟩, T12 (i := 138) rfl rfl, T12 (i := 139) rfl rfl⟩
theorem lkX1_94 : LkV RX1 94 yX1_total cX1_total 8 (some .long) 3 := ⟨⟨T12 (i := 205) rfl rfl, T11 (i := 3) rfl rfl, by decide +kernel, by decide, Or.inl (T12 (i := 211) rfl rfl)⟩, T12 (i := 203) rfl rfl, T12 (i := 204) rfl rfl⟩
theorem lkX1_98 : LkV RX1 98 yX1_leastPlace cX1_leastPlace 2 (some .int) 0 := ⟨⟨T12 (i := 102) rfl rfl, T11 (i := 3) rfl rfl, by decide +kernel, by decide, Or.inl (T12 (i := 99) rfl rfl)⟩, T12 (i := 100) rfl rfl, T12 (i := 101) rfl rfl⟩
theorem lkX1_102 : LkV RX1 102 yX1_hasRoomBehind cX1_hasRoomBehind 5 (some .boolean) 1 := ⟨⟨T12 (i := 110) rfl rfl, T11 (i := 3) rfl rfl, by decide +kernel, by decide, Or.inl (T12 (i := 107) rfl rfl)⟩, T12 (i := 108) rfl rfl, T12 (i := 109) rfl rfl⟩
theorem lkX1_106 : LkV RX1 106 yX1_moveLeast cX1_moveLeast 10 none 1 := ⟨⟨T12 (i := 165) rfl rfl, T11 (i := 3) rfl rfl, by decide +kernel, by decide, Or.inl (T12 (i := 162) rfl rfl)⟩, T12 (i := 164) rfl rfl, T10 (i := 14) rfl rfl⟩
theorem lkX1_110 : LkV RX1 110 yX2_placeBehind cX2_placeBehind 3 (some .int) 2 := ⟨⟨T12 (i := 122) rfl rfl, T11 (i := 2) rfl rfl, by decide +kernel, by decide, Or.inl (T12 (i := 119) rfl rfl)⟩, T12 (i := 120) rfl rfl, T12 (i := 121) rfl rfl⟩
theorem lkX1_113 : LkV RX1 113 yX2_ways cX2_ways 2 (some .int) 1 := ⟨⟨T12 (i := 132) rfl rfl, T11 (i := 2) rfl rfl, by decide +kernel, by decide, Or.inl (T12 (i := 129) rfl rfl)⟩, T12 (i := 130) rfl rfl, T12 (i := 131) rfl rfl⟩
theorem lkX1_116 : LkV RX1 116 yX1_newBehind cX1_newBehind 11 (some .int) 2 := ⟨⟨T12 (i := 136) rfl rfl, T11 (i := 3) rfl rfl, by decide +kernel, by decide, Or.inl (T12 (i := 133) rfl rfl)⟩, T12 (i := 135) rfl rfl, T10 (i := 13) rfl rfl⟩
theorem lkX1_119 : LkV RX1 119 yX2_massBehind cX2_massBehind 7 (some .long) 4 := ⟨⟨T12 (i := 144) rfl rfl, T11 (i := 2) rfl rfl, by decide +kernel, by decide, Or.inl (T12 (i := 141) rfl rfl)⟩, T12 (i := 142) rfl rfl, T12 (i := 143) rfl rfl⟩
theorem lkX1_123 : LkV RX1 123 yX2_heldBehind cX2_heldBehind 8 (some .int) 3 := ⟨⟨T12 (i := 152) rfl rfl, T11 (i := 2) rfl rfl, by decide +kernel, by decide, Or.inl (T12 (i := 149) rfl rfl)⟩, T12 (i := 150) rfl rfl, T12 (i := 151) rfl rfl⟩
theorem lkX1_127 : LkV RX1 127 yX1_seat cX1_seat 7 (some .int) 2 := ⟨⟨T12 (i := 79) rfl rfl, T11 (i := 3) rfl rfl, by decide +kernel, by decide, Or.inl (T12 (i := 76) rfl rfl)⟩, T12 (i := 78) rfl rfl, T10 (i := 10) rfl rfl⟩
theorem lkX1_130 : LkV RX1 130 yX1_isThere cX1_isThere 4 (some .boolean) 3 := ⟨⟨T12 (i := 83) rfl rfl, T11 (i := 3) rfl rfl, by decide +kernel, by decide, Or.inl (T12 (i := 80) rfl rfl)⟩, T12 (i := 82) rfl rfl, T10 (i := 11) rfl rfl⟩
theorem lkX1_134 : LkV RX1 134 yX2_isDraw cX2_isDraw 2 (some .boolean) 1 := ⟨⟨T12 (i := 53) rfl rfl, T11 (i := 2) rfl rfl, by decide +kernel, by decide, Or.inl (T12 (i := 166) rfl rfl)⟩, T12 (i := 51) rfl rfl, T12 (i := 52) rfl rfl⟩
theorem lkX1_137 : LkV RX1 137 yX1_insert cX1_insert 7 none 4 := ⟨⟨T12 (i := 87) rfl rfl, T11 (i := 3) rfl rfl, by decide +kernel, by decide, Or.inl (T12 (i := 84) rfl rfl)⟩, T12 (i := 86) rfl rfl, T10 (i := 12) rfl rfl⟩
theorem lkX2_35 : LkV RX2 35 yX2_reset cX2_reset 3 none 0 := ⟨⟨T11 (i := 32) rfl rfl, T11 (i := 2) rfl rfl, by decide +kernel, by decide, Or.inl (T11 (i := 29) rfl rfl)⟩, T11 (i := 31) rfl rfl, T10 (i := 0) rfl rfl⟩
theorem lkX2_51 : LkS RX2 51 yX4_isRow cX4_isRow 1 (some .boolean) 1 := ⟨⟨T11 (i := 162) rfl rfl, T11 (i := 1) rfl rfl, by decide +kernel, by decide, Or.inr ⟨_, N11 (i := 182) rfl rfl⟩⟩, T11 (i := 161) rfl rfl⟩
theorem lkX2_55 : LkS RX2 55 yX4_isValue cX4_isValue 1 (some .boolean) 1 := ⟨⟨T11 (i := 165) rfl rfl, T11 (i := 1) rfl rfl, by decide +kernel, by decide, Or.inr ⟨_, N11 (i := 183) rfl rfl⟩⟩, T11 (i := 164) rfl rfl⟩
theorem lkX2_58 : LkV RX2 58 yX2_isAsked cX2_isAsked 2 (some .boolean) 1 := ⟨⟨T12 (i := 9) rfl rfl, T11 (i := 2) rfl rfl, by decide +kernel, by decide, Or.inl (T12 (i := 6) rfl rfl)⟩, T12 (i := 7) rfl rfl, T12 (i := 8) rfl rfl⟩
theorem lkX2_61 : LkV RX2 61 yX2_countKind cX2_countKind 3 none 2 := ⟨⟨T11 (i := 206) rfl rfl, T11 (i := 2) rfl rfl, by decide +kernel, by decide, Or.inl (T11 (i := 203) rfl rfl)⟩, T11 (i := 205) rfl rfl, T10 (i := 3) rfl rfl⟩
theorem lkX2_65 : LkV RX2 65 yX2_isStep cX2_isStep 2 (some .boolean) 1 := ⟨⟨T11 (i := 237) rfl rfl, T11 (i := 2) rfl rfl, by decide +kernel, by decide, Or.inl (T11 (i := 234) rfl rfl)⟩, T11 (i := 235) rfl rfl, T11 (i := 236) rfl rfl⟩
theorem lkX2_68 : LkV RX2 68 yX2_isDraw cX2_isDraw 2 (some .boolean) 1 := ⟨⟨T12 (i := 53) rfl rfl, T11 (i := 2) rfl rfl, by decide +kernel, by decide, Or.inl (T12 (i := 50) rfl rfl)⟩, T12 (i := 51) rfl rfl, T12 (i := 52) rfl rfl⟩
theorem lkX2_71 : LkV RX2 71 yX2_rowTotal cX2_rowTotal 4 (some .int) 1 := ⟨⟨T12 (i := 57) rfl rfl, T11 (i := 2) rfl rfl, by decide +kernel, by decide, Or.inl (T12 (i := 54) rfl rfl)⟩, T12 (i := 56) rfl rfl, T10 (i := 7) rfl rfl⟩
theorem lkX2_75 : LkV RX2 75 yX2_weightOf cX2_weightOf 3 (some .int) 2 := ⟨⟨T12 (i := 61) rfl rfl, T11 (i := 2) rfl rfl, by decide +kernel, by decide, Or.inl (T12 (i := 58) rfl rfl)⟩, T12 (i := 60) rfl rfl, T10 (i := 8) rfl rfl⟩
theorem lkX2_79 : LkV RX2 79 yX2_liveAtStep cX2_liveAtStep 5 (some .int) 1 := ⟨⟨T12 (i := 25) rfl rfl, T11 (i := 2) rfl rfl, by decide +kernel, by decide, Or.inl (T12 (i := 22) rfl rfl)⟩, T12 (i := 24) rfl rfl, T10 (i := 5) rfl rfl⟩
theorem lkX2_82 : LkV RX2 82 yX2_liveAt cX2_liveAt 2 (some .int) 1 := ⟨⟨T12 (i := 29) rfl rfl, T11 (i := 2) rfl rfl, by decide +kernel, by decide, Or.inl (T12 (i := 26) rfl rfl)⟩, T12 (i := 27) rfl rfl, T12 (i := 28) rfl rfl⟩
theorem lkX2_85 : LkV RX2 85 yX2_placeSkippedTo cX2_placeSkippedTo 2 (some .int) 1 := ⟨⟨T12 (i := 33) rfl rfl, T11 (i := 2) rfl rfl, by decide +kernel, by decide, Or.inl (T12 (i := 30) rfl rfl)⟩, T12 (i := 32) rfl rfl, T10 (i := 6) rfl rfl⟩
theorem lkX2_88 : LkS RX2 88 yX2_variableOf cX2_variableOf 1 (some .int) 1 := ⟨⟨T12 (i := 39) rfl rfl, T11 (i := 2) rfl rfl, by decide +kernel, by decide, Or.inl (T12 (i := 37) rfl rfl)⟩, T12 (i := 38) rfl rfl⟩
theorem lkX2_91 : LkS RX2 91 yX4_isVariable cX4_isVariable 1 (some .boolean) 1 := ⟨⟨T11 (i := 190) rfl rfl, T11 (i := 1) rfl rfl, by decide +kernel, by decide, Or.inr ⟨_, N12 (i := 40) rfl rfl⟩⟩, T11 (i := 189) rfl rfl⟩
theorem lkX2_94 : LkS RX2 94 yX0_valueOf cX0_valueOf 2 (some .int) 2 := ⟨⟨T12 (i := 128) rfl rfl, T11 (i := 7) rfl rfl, by decide +kernel, by decide, Or.inl (T12 (i := 126) rfl rfl)⟩, T12 (i := 127) rfl rfl⟩
theorem lkX2_104 : LkS RX2 104 yX2_termValue cX2_termValue 2 (some .int) 2 := ⟨⟨T12 (i := 125) rfl rfl, T11 (i := 2) rfl rfl, by decide +kernel, by decide, Or.inl (T12 (i := 123) rfl rfl)⟩, T12 (i := 124) rfl rfl⟩
theorem lkX2_109 : LkS RX2 109 yX2_isSeen cX2_isSeen 3 (some .boolean) 3 := ⟨⟨T12 (i := 148) rfl rfl, T11 (i := 2) rfl rfl, by decide +kernel, by decide, Or.inl (T12 (i := 146) rfl rfl)⟩, T12 (i := 147) rfl rfl⟩
theorem lkX2_113 : LkS RX2 113 yX0_with cX0_with 4 (some .int) 3 := ⟨⟨T12 (i := 155) rfl rfl, T11 (i := 7) rfl rfl, by decide +kernel, by decide, Or.inl (T12 (i := 153) rfl rfl)⟩, T12 (i := 154) rfl rfl⟩
theorem lkX2_117 : LkS RX2 117 yX2_combined cX2_combined 4 (some .int) 4 := ⟨⟨T12 (i := 158) rfl rfl, T11 (i := 2) rfl rfl, by decide +kernel, by decide, Or.inl (T12 (i := 156) rfl rfl)⟩, T12 (i := 157) rfl rfl⟩
theorem lkX3_24 : LkV RX3 24 yX2_isUneven cX2_isUneven 2 (some .boolean) 0 := ⟨⟨T12 (i := 49) rfl rfl, T11 (i := 2) rfl rfl, by decide +kernel, by decide, Or.inl (T12 (i := 220) rfl rfl)⟩, T12 (i := 47) rfl rfl, T12 (i := 48) rfl rfl⟩
theorem lkX3_30 : LkV RX3 30 yX3_empty cX3_empty 3 none 0 := ⟨⟨T12 (i := 224) rfl rfl, T11 (i := 4) rfl rfl, by decide +kernel, by decide, Or.inl (T12 (i := 221) rfl rfl)⟩, T12 (i := 223) rfl rfl, T10 (i := 15) rfl rfl⟩
theorem lkX3_35 : LkV RX3 35 yX3_follow cX3_follow 12 none 4 := ⟨⟨T12 (i := 229) rfl rfl, T11 (i := 4) rfl rfl, by decide +kernel, by decide, Or.inl (T12 (i := 226) rfl rfl)⟩, T12 (i := 228) rfl rfl, T10 (i := 16) rfl rfl⟩
theorem lkX3_47 : LkV RX3 47 yX2_isStep cX2_isStep 2 (some .boolean) 1 := ⟨⟨T11 (i := 237) rfl rfl, T11 (i := 2) rfl rfl, by decide +kernel, by decide, Or.inl (T12 (i := 230) rfl rfl)⟩, T11 (i := 235) rfl rfl, T11 (i := 236) rfl rfl⟩
theorem lkX3_51 : LkV RX3 51 yX2_isDraw cX2_isDraw 2 (some .boolean) 1 := ⟨⟨T12 (i := 53) rfl rfl, T11 (i := 2) rfl rfl, by decide +kernel, by decide, Or.inl (T12 (i := 231) rfl rfl)⟩, T12 (i := 51) rfl rfl, T12 (i := 52) rfl rfl⟩
theorem lkX3_54 : LkV RX3 54 yX3_branch cX3_branch 9 none 4 := ⟨⟨T12 (i := 235) rfl rfl, T11 (i := 4) rfl rfl, by decide +kernel, by decide, Or.inl (T12 (i := 232) rfl rfl)⟩, T12 (i := 234) rfl rfl, T10 (i := 17) rfl rfl⟩
theorem lkX3_57 : LkV RX3 57 yX2_placeBehind cX2_placeBehind 3 (some .int) 2 := ⟨⟨T12 (i := 122) rfl rfl, T11 (i := 2) rfl rfl, by decide +kernel, by decide, Or.inl (T12 (i := 238) rfl rfl)⟩, T12 (i := 120) rfl rfl, T12 (i := 121) rfl rfl⟩
theorem lkX3_61 : LkV RX3 61 yX2_massBehind cX2_massBehind 7 (some .long) 4 := ⟨⟨T12 (i := 144) rfl rfl, T11 (i := 2) rfl rfl, by decide +kernel, by decide, Or.inl (T12 (i := 236) rfl rfl)⟩, T12 (i := 142) rfl rfl, T12 (i := 143) rfl rfl⟩
theorem lkX3_65 : LkV RX3 65 yX2_heldBehind cX2_heldBehind 8 (some .int) 3 := ⟨⟨T12 (i := 152) rfl rfl, T11 (i := 2) rfl rfl, by decide +kernel, by decide, Or.inl (T12 (i := 237) rfl rfl)⟩, T12 (i := 150) rfl rfl, T12 (i := 151) rfl rfl⟩
theorem lkX3_69 : LkV RX3 69 yX3_addAtEnd cX3_addAtEnd 6 none 2 := ⟨⟨T13 (i := 2) rfl rfl, T11 (i := 4) rfl rfl, by decide +kernel, by decide, Or.inl (T12 (i := 239) rfl rfl)⟩, T13 (i := 1) rfl rfl, T10 (i := 18) rfl rfl⟩
theorem lkX3_73 : LkS RX3 73 yX0_valueOf cX0_valueOf 2 (some .int) 2 := ⟨⟨T12 (i := 128) rfl rfl, T11 (i := 7) rfl rfl, by decide +kernel, by decide, Or.inl (T13 (i := 3) rfl rfl)⟩, T12 (i := 127) rfl rfl⟩
theorem lkX3_78 : LkS RX3 78 yX4_isValue cX4_isValue 1 (some .boolean) 1 := ⟨⟨T11 (i := 165) rfl rfl, T11 (i := 1) rfl rfl, by decide +kernel, by decide, Or.inr ⟨_, N13 (i := 4) rfl rfl⟩⟩, T11 (i := 164) rfl rfl⟩
theorem lkX4_32 : LkS RX4 32 yX4_isRow cX4_isRow 1 (some .boolean) 1 := ⟨⟨T11 (i := 162) rfl rfl, T11 (i := 1) rfl rfl, by decide +kernel, by decide, Or.inl (T11 (i := 160) rfl rfl)⟩, T11 (i := 161) rfl rfl⟩
theorem lkX4_36 : LkS RX4 36 yX4_isValue cX4_isValue 1 (some .boolean) 1 := ⟨⟨T11 (i := 165) rfl rfl, T11 (i := 1) rfl rfl, by decide +kernel, by decide, Or.inl (T11 (i := 163) rfl rfl)⟩, T11 (i := 164) rfl rfl⟩
theorem lkX4_39 : LkV RX4 39 yX4_programChanged cX4_programChanged 1 none 0 := ⟨⟨T11 (i := 169) rfl rfl, T11 (i := 1) rfl rfl, by decide +kernel, by decide, Or.inl (T11 (i := 166) rfl rfl)⟩, T11 (i := 168) rfl rfl, T10 (i := 1) rfl rfl⟩
theorem lkX4_42 : LkV RX4 42 yX2_swapWeight cX2_swapWeight 5 (some .int) 3 := ⟨⟨T11 (i := 181) rfl rfl, T11 (i := 2) rfl rfl, by decide +kernel, by decide, Or.inl (T11 (i := 178) rfl rfl)⟩, T11 (i := 179) rfl rfl, T11 (i := 180) rfl rfl⟩
theorem lkX4_46 : LkS RX4 46 yX4_isVariable cX4_isVariable 1 (some .boolean) 1 := ⟨⟨T11 (i := 190) rfl rfl, T11 (i := 1) rfl rfl, by decide +kernel, by decide, Or.inl (T11 (i := 188) rfl rfl)⟩, T11 (i := 189) rfl rfl⟩
theorem lkX4_49 : LkV RX4 49 yX4_addStep cX4_addStep 6 (some .int) 5 := ⟨⟨T11 (i := 194) rfl rfl, T11 (i := 1) rfl rfl, by decide +kernel, by decide, Or.inl (T11 (i := 191) rfl rfl)⟩, T11 (i := 193) rfl rfl, T10 (i := 2) rfl rfl⟩
theorem lkX4_53 : LkS RX4 53 yX4_isTerm cX4_isTerm 1 (some .boolean) 1 := ⟨⟨T11 (i := 213) rfl rfl, T11 (i := 1) rfl rfl, by decide +kernel, by decide, Or.inl (T11 (i := 211) rfl rfl)⟩, T11 (i := 212) rfl rfl⟩
theorem lkX4_60 : LkV RX4 60 yX2_removeLast cX2_removeLast 2 (some .int) 0 := ⟨⟨T11 (i := 233) rfl rfl, T11 (i := 2) rfl rfl, by decide +kernel, by decide, Or.inl (T11 (i := 230) rfl rfl)⟩, T11 (i := 231) rfl rfl, T11 (i := 232) rfl rfl⟩
theorem lkX4_64 : LkV RX4 64 yX1_end cX1_end 1 none 0 := ⟨⟨T11 (i := 173) rfl rfl, T11 (i := 3) rfl rfl, by decide +kernel, by decide, Or.inl (T11 (i := 170) rfl rfl)⟩, T11 (i := 171) rfl rfl, T11 (i := 172) rfl rfl⟩
theorem lkX4_67 : LkV RX4 67 yX2_swapAsked cX2_swapAsked 4 (some .boolean) 2 := ⟨⟨T12 (i := 5) rfl rfl, T11 (i := 2) rfl rfl, by decide +kernel, by decide, Or.inl (T12 (i := 2) rfl rfl)⟩, T12 (i := 3) rfl rfl, T12 (i := 4) rfl rfl⟩
theorem lkX4_71 : LkV RX4 71 yX4_isPlace cX4_isPlace 2 (some .boolean) 1 := ⟨⟨T12 (i := 17) rfl rfl, T11 (i := 1) rfl rfl, by decide +kernel, by decide, Or.inl (T12 (i := 14) rfl rfl)⟩, T12 (i := 16) rfl rfl, T10 (i := 4) rfl rfl⟩
theorem lkX4_74 : LkV RX4 74 yX2_markLive cX2_markLive 2 none 0 := ⟨⟨T12 (i := 21) rfl rfl, T11 (i := 2) rfl rfl, by decide +kernel, by decide, Or.inl (T12 (i := 18) rfl rfl)⟩, T12 (i := 19) rfl rfl, T12 (i := 20) rfl rfl⟩
theorem lkX4_77 : LkV RX4 77 yX2_liveAt cX2_liveAt 2 (some .int) 1 := ⟨⟨T12 (i := 29) rfl rfl, T11 (i := 2) rfl rfl, by decide +kernel, by decide, Or.inl (T12 (i := 41) rfl rfl)⟩, T12 (i := 27) rfl rfl, T12 (i := 28) rfl rfl⟩
theorem lkX4_81 : LkV RX4 81 yX2_isUneven cX2_isUneven 2 (some .boolean) 0 := ⟨⟨T12 (i := 49) rfl rfl, T11 (i := 2) rfl rfl, by decide +kernel, by decide, Or.inl (T12 (i := 46) rfl rfl)⟩, T12 (i := 47) rfl rfl, T12 (i := 48) rfl rfl⟩
theorem lkX4_85 : LkV RX4 85 yX1_start cX1_start 2 none 0 := ⟨⟨T12 (i := 65) rfl rfl, T11 (i := 3) rfl rfl, by decide +kernel, by decide, Or.inl (T12 (i := 62) rfl rfl)⟩, T12 (i := 63) rfl rfl, T12 (i := 64) rfl rfl⟩
theorem lkX4_92 : LkV RX4 92 yX1_spend cX1_spend 4 (some .int) 1 := ⟨⟨T12 (i := 98) rfl rfl, T11 (i := 3) rfl rfl, by decide +kernel, by decide, Or.inl (T12 (i := 95) rfl rfl)⟩, T12 (i := 96) rfl rfl, T12 (i := 97) rfl rfl⟩
theorem lkX4_95 : LkV RX4 95 yX1_leastPlace cX1_leastPlace 2 (some .int) 0 := ⟨⟨T12 (i := 102) rfl rfl, T11 (i := 3) rfl rfl, by decide +kernel, by decide, Or.inl (T12 (i := 171) rfl rfl)⟩, T12 (i := 100) rfl rfl, T12 (i := 101) rfl rfl⟩
theorem lkX4_98 : LkV RX4 98 yX1_hasRoomBehind cX1_hasRoomBehind 5 (some .boolean) 1 := ⟨⟨T12 (i := 110) rfl rfl, T11 (i := 3) rfl rfl, by decide +kernel, by decide, Or.inl (T12 (i := 172) rfl rfl)⟩, T12 (i := 108) rfl rfl, T12 (i := 109) rfl rfl⟩
theorem lkX4_101 : LkV RX4 101 yX1_size cX1_size 2 (some .int) 1 := ⟨⟨T12 (i := 106) rfl rfl, T11 (i := 3) rfl rfl, by decide +kernel, by decide, Or.inl (T12 (i := 177) rfl rfl)⟩, T12 (i := 104) rfl rfl, T12 (i := 105) rfl rfl⟩
theorem lkX4_111 : LkV RX4 111 yX1_has cX1_has 3 (some .boolean) 2 := ⟨⟨T12 (i := 118) rfl rfl, T11 (i := 3) rfl rfl, by decide +kernel, by decide, Or.inl (T12 (i := 182) rfl rfl)⟩, T12 (i := 116) rfl rfl, T12 (i := 117) rfl rfl⟩
theorem lkX4_115 : LkV RX4 115 yX1_heldAt cX1_heldAt 3 (some .int) 2 := ⟨⟨T12 (i := 114) rfl rfl, T11 (i := 3) rfl rfl, by decide +kernel, by decide, Or.inl (T12 (i := 183) rfl rfl)⟩, T12 (i := 112) rfl rfl, T12 (i := 113) rfl rfl⟩
theorem lkX4_119 : LkS RX4 119 yX0_decimal cX0_decimal 3 (some .int) 1 := ⟨⟨T12 (i := 186) rfl rfl, T11 (i := 7) rfl rfl, by decide +kernel, by decide, Or.inl (T12 (i := 184) rfl rfl)⟩, T12 (i := 185) rfl rfl⟩
theorem lkX4_124 : LkV RX4 124 yX1_massAt cX1_massAt 3 (some .long) 2 := ⟨⟨T12 (i := 140) rfl rfl, T11 (i := 3) rfl rfl, by decide +kernel, by decide, Or.inl (T12 (i := 192) rfl rfl)⟩, T12 (i := 138) rfl rfl, T12 (i := 139) rfl rfl⟩
theorem lkX4_128 : LkS RX4 128 yX4_isChoice cX4_isChoice 2 (some .boolean) 2 := ⟨⟨T12 (i := 199) rfl rfl, T11 (i := 1) rfl rfl, by decide +kernel, by decide, Or.inl (T12 (i := 197) rfl rfl)⟩, T12 (i := 198) rfl rfl⟩
theorem lkX4_139 : LkV RX4 139 yX1_total cX1_total 8 (some .long) 3 := ⟨⟨T12 (i := 205) rfl rfl, T11 (i := 3) rfl rfl, by decide +kernel, by decide, Or.inl (T12 (i := 202) rfl rfl)⟩, T12 (i := 203) rfl rfl, T12 (i := 204) rfl rfl⟩
theorem lkX4_143 : LkV RX4 143 yX1_totalBeforeEnd cX1_totalBeforeEnd 6 (some .long) 2 := ⟨⟨T12 (i := 210) rfl rfl, T11 (i := 3) rfl rfl, by decide +kernel, by decide, Or.inl (T12 (i := 207) rfl rfl)⟩, T12 (i := 208) rfl rfl, T12 (i := 209) rfl rfl⟩
theorem lkX4_146 : LkV RX4 146 yX2_isAsked cX2_isAsked 2 (some .boolean) 1 := ⟨⟨T12 (i := 9) rfl rfl, T11 (i := 2) rfl rfl, by decide +kernel, by decide, Or.inl (T13 (i := 26) rfl rfl)⟩, T12 (i := 7) rfl rfl, T12 (i := 8) rfl rfl⟩
theorem lkX4_149 : LkS RX4 149 yX4_commonDivisor cX4_commonDivisor 11 (some .long) 2 := ⟨⟨T13 (i := 29) rfl rfl, T11 (i := 1) rfl rfl, by decide +kernel, by decide, Or.inl (T13 (i := 27) rfl rfl)⟩, T13 (i := 28) rfl rfl⟩
theorem lkX4_160 : LkV RX4 160 yX3_tally cX3_tally 1 (some .int) 0 := ⟨⟨T12 (i := 219) rfl rfl, T11 (i := 4) rfl rfl, by decide +kernel, by decide, Or.inl (T12 (i := 216) rfl rfl)⟩, T12 (i := 217) rfl rfl, T12 (i := 218) rfl rfl⟩
theorem lkX4_179 : LkV RX4 179 yX2_reset cX2_reset 3 none 0 := ⟨⟨T11 (i := 32) rfl rfl, T11 (i := 2) rfl rfl, by decide +kernel, by decide, Or.inr ⟨_, N13 (i := 17) rfl rfl⟩⟩, T11 (i := 31) rfl rfl, T10 (i := 0) rfl rfl⟩
theorem lkX4_182 : LkV RX4 182 yX2_isFullFor cX2_isFullFor 2 (some .boolean) 1 := ⟨⟨T11 (i := 198) rfl rfl, T11 (i := 2) rfl rfl, by decide +kernel, by decide, Or.inl (T11 (i := 195) rfl rfl)⟩, T11 (i := 196) rfl rfl, T11 (i := 197) rfl rfl⟩
theorem lkX4_185 : LkV RX4 185 yX2_append cX2_append 7 (some .int) 5 := ⟨⟨T11 (i := 202) rfl rfl, T11 (i := 2) rfl rfl, by decide +kernel, by decide, Or.inl (T11 (i := 199) rfl rfl)⟩, T11 (i := 200) rfl rfl, T11 (i := 201) rfl rfl⟩
theorem lkX4_188 : LkV RX4 188 yX3_forget cX3_forget 1 none 0 := ⟨⟨T11 (i := 177) rfl rfl, T11 (i := 4) rfl rfl, by decide +kernel, by decide, Or.inl (T11 (i := 174) rfl rfl)⟩, T11 (i := 175) rfl rfl, T11 (i := 176) rfl rfl⟩
theorem lkX5_66 : LkV RX5 66 yX5_reset cX5_reset 2 none 0 := ⟨⟨T13 (i := 105) rfl rfl, T11 (i := 5) rfl rfl, by decide +kernel, by decide, Or.inl (T13 (i := 102) rfl rfl)⟩, T13 (i := 104) rfl rfl, T10 (i := 20) rfl rfl⟩
theorem lkX5_86 : LkS RX5 86 yX5_isIn cX5_isIn 3 (some .boolean) 3 := ⟨⟨T13 (i := 208) rfl rfl, T11 (i := 5) rfl rfl, by decide +kernel, by decide, Or.inl (T13 (i := 206) rfl rfl)⟩, T13 (i := 207) rfl rfl⟩
theorem lkX5_90 : LkV RX5 90 yX5_added cX5_added 6 (some .int) 5 := ⟨⟨T13 (i := 216) rfl rfl, T11 (i := 5) rfl rfl, by decide +kernel, by decide, Or.inl (T13 (i := 213) rfl rfl)⟩, T13 (i := 215) rfl rfl, T10 (i := 21) rfl rfl⟩
theorem lkX5_94 : LkS RX5 94 yX5_isTerm cX5_isTerm 1 (some .boolean) 1 := ⟨⟨T13 (i := 223) rfl rfl, T11 (i := 5) rfl rfl, by decide +kernel, by decide, Or.inl (T13 (i := 221) rfl rfl)⟩, T13 (i := 222) rfl rfl⟩
theorem lkX5_98 : LkS RX5 98 yX5_bit cX5_bit 1 (some .int) 1 := ⟨⟨T14 (i := 14) rfl rfl, T11 (i := 5) rfl rfl, by decide +kernel, by decide, Or.inl (T14 (i := 12) rfl rfl)⟩, T14 (i := 13) rfl rfl⟩
theorem lkX5_102 : LkV RX5 102 yX5_passed cX5_passed 3 (some .int) 1 := ⟨⟨T14 (i := 18) rfl rfl, T11 (i := 5) rfl rfl, by decide +kernel, by decide, Or.inl (T14 (i := 15) rfl rfl)⟩, T14 (i := 17) rfl rfl, T10 (i := 23) rfl rfl⟩
theorem lkX5_105 : LkV RX5 105 yX5_liven cX5_liven 3 none 0 := ⟨⟨T14 (i := 11) rfl rfl, T11 (i := 5) rfl rfl, by decide +kernel, by decide, Or.inl (T14 (i := 8) rfl rfl)⟩, T14 (i := 10) rfl rfl, T10 (i := 22) rfl rfl⟩
theorem lkX5_108 : LkS RX5 108 yX5_digit cX5_digit 4 (some .int) 2 := ⟨⟨T14 (i := 61) rfl rfl, T11 (i := 5) rfl rfl, by decide +kernel, by decide, Or.inl (T14 (i := 59) rfl rfl)⟩, T14 (i := 60) rfl rfl⟩
theorem lkX5_122 : LkS RX5 122 yX5_termOf cX5_termOf 2 (some .int) 2 := ⟨⟨T14 (i := 58) rfl rfl, T11 (i := 5) rfl rfl, by decide +kernel, by decide, Or.inl (T14 (i := 56) rfl rfl)⟩, T14 (i := 57) rfl rfl⟩
theorem lkX5_125 : LkS RX5 125 yX5_with cX5_with 5 (some .int) 3 := ⟨⟨T14 (i := 64) rfl rfl, T11 (i := 5) rfl rfl, by decide +kernel, by decide, Or.inl (T14 (i := 62) rfl rfl)⟩, T14 (i := 63) rfl rfl⟩
theorem lkX5_131 : LkV RX5 131 yX5_make cX5_make 4 none 2 := ⟨⟨T14 (i := 69) rfl rfl, T11 (i := 5) rfl rfl, by decide +kernel, by decide, Or.inl (T14 (i := 66) rfl rfl)⟩, T14 (i := 68) rfl rfl, T10 (i := 31) rfl rfl⟩
theorem lkX5_135 : LkS RX5 135 yX5_worth cX5_worth 4 (some .int) 4 := ⟨⟨T14 (i := 72) rfl rfl, T11 (i := 5) rfl rfl, by decide +kernel, by decide, Or.inl (T14 (i := 70) rfl rfl)⟩, T14 (i := 71) rfl rfl⟩
theorem lkX5_139 : LkS RX5 139 yX5_holds cX5_holds 3 (some .boolean) 3 := ⟨⟨T14 (i := 75) rfl rfl, T11 (i := 5) rfl rfl, by decide +kernel, by decide, Or.inl (T14 (i := 73) rfl rfl)⟩, T14 (i := 74) rfl rfl⟩
theorem lkX5_142 : LkV RX5 142 yX5_isUneven cX5_isUneven 4 (some .boolean) 0 := ⟨⟨T14 (i := 26) rfl rfl, T11 (i := 5) rfl rfl, by decide +kernel, by decide, Or.inl (T14 (i := 23) rfl rfl)⟩, T14 (i := 25) rfl rfl, T10 (i := 24) rfl rfl⟩
theorem lkX5_154 : LkV RX5 154 yX5_come cX5_come 7 none 3 := ⟨⟨T14 (i := 31) rfl rfl, T11 (i := 5) rfl rfl, by decide +kernel, by decide, Or.inl (T14 (i := 28) rfl rfl)⟩, T14 (i := 30) rfl rfl, T10 (i := 25) rfl rfl⟩
theorem lkX5_158 : LkV RX5 158 yX5_found cX5_found 4 (some .int) 2 := ⟨⟨T14 (i := 35) rfl rfl, T11 (i := 5) rfl rfl, by decide +kernel, by decide, Or.inl (T14 (i := 32) rfl rfl)⟩, T14 (i := 34) rfl rfl, T10 (i := 26) rfl rfl⟩
theorem lkX5_161 : LkV RX5 161 yX5_isThere cX5_isThere 4 (some .boolean) 2 := ⟨⟨T14 (i := 39) rfl rfl, T11 (i := 5) rfl rfl, by decide +kernel, by decide, Or.inl (T14 (i := 36) rfl rfl)⟩, T14 (i := 38) rfl rfl, T10 (i := 27) rfl rfl⟩
theorem lkX5_165 : LkV RX5 165 yX5_go cX5_go 9 none 3 := ⟨⟨T14 (i := 55) rfl rfl, T11 (i := 5) rfl rfl, by decide +kernel, by decide, Or.inl (T14 (i := 52) rfl rfl)⟩, T14 (i := 54) rfl rfl, T10 (i := 30) rfl rfl⟩
theorem lkX5_168 : LkV RX5 168 yX5_cut cX5_cut 5 (some .int) 2 := ⟨⟨T14 (i := 79) rfl rfl, T11 (i := 5) rfl rfl, by decide +kernel, by decide, Or.inl (T14 (i := 76) rfl rfl)⟩, T14 (i := 78) rfl rfl, T10 (i := 32) rfl rfl⟩
theorem lkX5_171 : LkV RX5 171 yX5_least cX5_least 2 (some .int) 0 := ⟨⟨T14 (i := 47) rfl rfl, T11 (i := 5) rfl rfl, by decide +kernel, by decide, Or.inl (T14 (i := 44) rfl rfl)⟩, T14 (i := 46) rfl rfl, T10 (i := 28) rfl rfl⟩
theorem lkX5_175 : LkV RX5 175 yX5_isRoom cX5_isRoom 6 (some .boolean) 1 := ⟨⟨T14 (i := 51) rfl rfl, T11 (i := 5) rfl rfl, by decide +kernel, by decide, Or.inl (T14 (i := 48) rfl rfl)⟩, T14 (i := 50) rfl rfl, T10 (i := 29) rfl rfl⟩
theorem lkX5_182 : LkV RX5 182 yX5_sumAt cX5_sumAt 7 (some .long) 3 := ⟨⟨T14 (i := 105) rfl rfl, T11 (i := 5) rfl rfl, by decide +kernel, by decide, Or.inl (T14 (i := 102) rfl rfl)⟩, T14 (i := 104) rfl rfl, T10 (i := 33) rfl rfl⟩
theorem lkX5_192 : LkV RX5 192 yX5_lay cX5_lay 5 none 3 := ⟨⟨T14 (i := 121) rfl rfl, T11 (i := 5) rfl rfl, by decide +kernel, by decide, Or.inl (T14 (i := 118) rfl rfl)⟩, T14 (i := 120) rfl rfl, T10 (i := 35) rfl rfl⟩
theorem lkX5_195 : LkV RX5 195 yX5_listed cX5_listed 9 (some .int) 2 := ⟨⟨T14 (i := 117) rfl rfl, T11 (i := 5) rfl rfl, by decide +kernel, by decide, Or.inl (T14 (i := 114) rfl rfl)⟩, T14 (i := 116) rfl rfl, T10 (i := 34) rfl rfl⟩
theorem lkL_19 : LkV RL 19 yX4_weight cX4_weight 4 (some .int) 3 := ⟨⟨T11 (i := 159) rfl rfl, T11 (i := 1) rfl rfl, by decide +kernel, by decide, Or.inl (T11 (i := 156) rfl rfl)⟩, T11 (i := 157) rfl rfl, T11 (i := 158) rfl rfl⟩
theorem lkL_23 : LkV RL 23 yX5_weight cX5_weight 5 (some .int) 3 := ⟨⟨T13 (i := 205) rfl rfl, T11 (i := 5) rfl rfl, by decide +kernel, by decide, Or.inl (T13 (i := 202) rfl rfl)⟩, T13 (i := 203) rfl rfl, T13 (i := 204) rfl rfl⟩
theorem lkL_24 : LkV RL 24 yX4_draw cX4_draw 3 (some .int) 2 := ⟨⟨T11 (i := 187) rfl rfl, T11 (i := 1) rfl rfl, by decide +kernel, by decide, Or.inl (T11 (i := 184) rfl rfl)⟩, T11 (i := 185) rfl rfl, T11 (i := 186) rfl rfl⟩
theorem lkL_28 : LkV RL 28 yX5_draw cX5_draw 3 (some .int) 2 := ⟨⟨T13 (i := 212) rfl rfl, T11 (i := 5) rfl rfl, by decide +kernel, by decide, Or.inl (T13 (i := 209) rfl rfl)⟩, T13 (i := 210) rfl rfl, T13 (i := 211) rfl rfl⟩
theorem lkL_29 : LkV RL 29 yX4_set cX4_set 5 (some .int) 4 := ⟨⟨T11 (i := 210) rfl rfl, T11 (i := 1) rfl rfl, by decide +kernel, by decide, Or.inl (T11 (i := 207) rfl rfl)⟩, T11 (i := 208) rfl rfl, T11 (i := 209) rfl rfl⟩
theorem lkL_33 : LkV RL 33 yX5_set cX5_set 5 (some .int) 4 := ⟨⟨T13 (i := 220) rfl rfl, T11 (i := 5) rfl rfl, by decide +kernel, by decide, Or.inl (T13 (i := 217) rfl rfl)⟩, T13 (i := 218) rfl rfl, T13 (i := 219) rfl rfl⟩
theorem lkL_34 : LkV RL 34 yX4_observe cX4_observe 4 (some .int) 3 := ⟨⟨T11 (i := 217) rfl rfl, T11 (i := 1) rfl rfl, by decide +kernel, by decide, Or.inl (T11 (i := 214) rfl rfl)⟩, T11 (i := 215) rfl rfl, T11 (i := 216) rfl rfl⟩
theorem lkL_37 : LkV RL 37 yX5_observe cX5_observe 4 (some .int) 3 := ⟨⟨T13 (i := 227) rfl rfl, T11 (i := 5) rfl rfl, by decide +kernel, by decide, Or.inl (T13 (i := 224) rfl rfl)⟩, T13 (i := 225) rfl rfl, T13 (i := 226) rfl rfl⟩
theorem lkL_38 : LkV RL 38 yX4_weigh cX4_weigh 2 (some .int) 1 := ⟨⟨T11 (i := 221) rfl rfl, T11 (i := 1) rfl rfl, by decide +kernel, by decide, Or.inl (T11 (i := 218) rfl rfl)⟩, T11 (i := 219) rfl rfl, T11 (i := 220) rfl rfl⟩
theorem lkL_42 : LkV RL 42 yX5_weigh cX5_weigh 2 (some .int) 1 := ⟨⟨T13 (i := 231) rfl rfl, T11 (i := 5) rfl rfl, by decide +kernel, by decide, Or.inl (T13 (i := 228) rfl rfl)⟩, T13 (i := 229) rfl rfl, T13 (i := 230) rfl rfl⟩
theorem lkL_43 : LkV RL 43 yX4_skip cX4_skip 3 (some .int) 2 := ⟨⟨T11 (i := 225) rfl rfl, T11 (i := 1) rfl rfl, by decide +kernel, by decide, Or.inl (T11 (i := 222) rfl rfl)⟩, T11 (i := 223) rfl rfl, T11 (i := 224) rfl rfl⟩
theorem lkL_46 : LkV RL 46 yX5_skip cX5_skip 3 (some .int) 2 := ⟨⟨T13 (i := 235) rfl rfl, T11 (i := 5) rfl rfl, by decide +kernel, by decide, Or.inl (T13 (i := 232) rfl rfl)⟩, T13 (i := 233) rfl rfl, T13 (i := 234) rfl rfl⟩
theorem lkL_47 : LkV RL 47 yX4_drop cX4_drop 1 (some .int) 0 := ⟨⟨T11 (i := 229) rfl rfl, T11 (i := 1) rfl rfl, by decide +kernel, by decide, Or.inl (T11 (i := 226) rfl rfl)⟩, T11 (i := 227) rfl rfl, T11 (i := 228) rfl rfl⟩
theorem lkL_51 : LkV RL 51 yX5_drop cX5_drop 1 (some .int) 0 := ⟨⟨T13 (i := 239) rfl rfl, T11 (i := 5) rfl rfl, by decide +kernel, by decide, Or.inl (T13 (i := 236) rfl rfl)⟩, T13 (i := 237) rfl rfl, T13 (i := 238) rfl rfl⟩
theorem lkL_52 : LkV RL 52 yX4_ask cX4_ask 3 (some .int) 2 := ⟨⟨T12 (i := 1) rfl rfl, T11 (i := 1) rfl rfl, by decide +kernel, by decide, Or.inl (T11 (i := 238) rfl rfl)⟩, T11 (i := 239) rfl rfl, T12 (i := 0) rfl rfl⟩
theorem lkL_56 : LkV RL 56 yX5_ask cX5_ask 4 (some .int) 2 := ⟨⟨T14 (i := 3) rfl rfl, T11 (i := 5) rfl rfl, by decide +kernel, by decide, Or.inl (T14 (i := 0) rfl rfl)⟩, T14 (i := 1) rfl rfl, T14 (i := 2) rfl rfl⟩
theorem lkL_57 : LkV RL 57 yX4_live cX4_live 2 (some .int) 1 := ⟨⟨T12 (i := 13) rfl rfl, T11 (i := 1) rfl rfl, by decide +kernel, by decide, Or.inl (T12 (i := 10) rfl rfl)⟩, T12 (i := 11) rfl rfl, T12 (i := 12) rfl rfl⟩
theorem lkL_60 : LkV RL 60 yX5_live cX5_live 2 (some .int) 1 := ⟨⟨T14 (i := 7) rfl rfl, T11 (i := 5) rfl rfl, by decide +kernel, by decide, Or.inl (T14 (i := 4) rfl rfl)⟩, T14 (i := 5) rfl rfl, T14 (i := 6) rfl rfl⟩
theorem lkL_61 : LkV RL 61 yX4_begin cX4_begin 1 (some .int) 0 := ⟨⟨T12 (i := 45) rfl rfl, T11 (i := 1) rfl rfl, by decide +kernel, by decide, Or.inl (T12 (i := 42) rfl rfl)⟩, T12 (i := 43) rfl rfl, T12 (i := 44) rfl rfl⟩
theorem lkL_64 : LkV RL 64 yX5_begin cX5_begin 2 (some .int) 0 := ⟨⟨T14 (i := 22) rfl rfl, T11 (i := 5) rfl rfl, by decide +kernel, by decide, Or.inl (T14 (i := 19) rfl rfl)⟩, T14 (i := 20) rfl rfl, T14 (i := 21) rfl rfl⟩
theorem lkL_65 : LkV RL 65 yX4_list cX4_list 2 (some .int) 1 := ⟨⟨T12 (i := 94) rfl rfl, T11 (i := 1) rfl rfl, by decide +kernel, by decide, Or.inl (T12 (i := 91) rfl rfl)⟩, T12 (i := 92) rfl rfl, T12 (i := 93) rfl rfl⟩
theorem lkL_68 : LkV RL 68 yX5_list cX5_list 5 (some .int) 1 := ⟨⟨T14 (i := 43) rfl rfl, T11 (i := 5) rfl rfl, by decide +kernel, by decide, Or.inl (T14 (i := 40) rfl rfl)⟩, T14 (i := 41) rfl rfl, T14 (i := 42) rfl rfl⟩
theorem lkL_69 : LkV RL 69 yX4_done cX4_done 2 (some .int) 0 := ⟨⟨T12 (i := 170) rfl rfl, T11 (i := 1) rfl rfl, by decide +kernel, by decide, Or.inl (T12 (i := 167) rfl rfl)⟩, T12 (i := 168) rfl rfl, T12 (i := 169) rfl rfl⟩
theorem lkL_72 : LkV RL 72 yX5_done cX5_done 2 (some .int) 0 := ⟨⟨T14 (i := 83) rfl rfl, T11 (i := 5) rfl rfl, by decide +kernel, by decide, Or.inl (T14 (i := 80) rfl rfl)⟩, T14 (i := 81) rfl rfl, T14 (i := 82) rfl rfl⟩
theorem lkL_73 : LkV RL 73 yX4_states cX4_states 3 (some .int) 2 := ⟨⟨T12 (i := 176) rfl rfl, T11 (i := 1) rfl rfl, by decide +kernel, by decide, Or.inl (T12 (i := 173) rfl rfl)⟩, T12 (i := 174) rfl rfl, T12 (i := 175) rfl rfl⟩
theorem lkL_76 : LkV RL 76 yX5_states cX5_states 3 (some .int) 2 := ⟨⟨T14 (i := 87) rfl rfl, T11 (i := 5) rfl rfl, by decide +kernel, by decide, Or.inl (T14 (i := 84) rfl rfl)⟩, T14 (i := 85) rfl rfl, T14 (i := 86) rfl rfl⟩
theorem lkL_77 : LkV RL 77 yX4_code cX4_code 3 (some .int) 2 := ⟨⟨T12 (i := 181) rfl rfl, T11 (i := 1) rfl rfl, by decide +kernel, by decide, Or.inl (T12 (i := 178) rfl rfl)⟩, T12 (i := 179) rfl rfl, T12 (i := 180) rfl rfl⟩
theorem lkL_80 : LkV RL 80 yX5_code cX5_code 3 (some .int) 2 := ⟨⟨T14 (i := 91) rfl rfl, T11 (i := 5) rfl rfl, by decide +kernel, by decide, Or.inl (T14 (i := 88) rfl rfl)⟩, T14 (i := 89) rfl rfl, T14 (i := 90) rfl rfl⟩
theorem lkL_81 : LkV RL 81 yX4_mass cX4_mass 3 (some .long) 2 := ⟨⟨T12 (i := 191) rfl rfl, T11 (i := 1) rfl rfl, by decide +kernel, by decide, Or.inl (T12 (i := 188) rfl rfl)⟩, T12 (i := 189) rfl rfl, T12 (i := 190) rfl rfl⟩
theorem lkL_85 : LkV RL 85 yX5_mass cX5_mass 3 (some .long) 2 := ⟨⟨T14 (i := 95) rfl rfl, T11 (i := 5) rfl rfl, by decide +kernel, by decide, Or.inl (T14 (i := 92) rfl rfl)⟩, T14 (i := 93) rfl rfl, T14 (i := 94) rfl rfl⟩
theorem lkL_86 : LkV RL 86 yX4_sum cX4_sum 4 (some .long) 3 := ⟨⟨T12 (i := 196) rfl rfl, T11 (i := 1) rfl rfl, by decide +kernel, by decide, Or.inl (T12 (i := 193) rfl rfl)⟩, T12 (i := 194) rfl rfl, T12 (i := 195) rfl rfl⟩
theorem lkL_89 : LkV RL 89 yX5_sum cX5_sum 7 (some .long) 3 := ⟨⟨T14 (i := 99) rfl rfl, T11 (i := 5) rfl rfl, by decide +kernel, by decide, Or.inl (T14 (i := 96) rfl rfl)⟩, T14 (i := 97) rfl rfl, T14 (i := 98) rfl rfl⟩
theorem lkL_95 : LkV RL 95 yX5_odds cX5_odds 14 (some .long) 3 := ⟨⟨T14 (i := 109) rfl rfl, T11 (i := 5) rfl rfl, by decide +kernel, by decide, Or.inl (T14 (i := 106) rfl rfl)⟩, T14 (i := 107) rfl rfl, T14 (i := 108) rfl rfl⟩
theorem lkL_96 : LkV RL 96 yX5_thrown cX5_thrown 1 (some .int) 0 := ⟨⟨T13 (i := 201) rfl rfl, T11 (i := 5) rfl rfl, by decide +kernel, by decide, Or.inl (T13 (i := 198) rfl rfl)⟩, T13 (i := 199) rfl rfl, T13 (i := 200) rfl rfl⟩
theorem lkL_99 : LkV RL 99 yX4_runs cX4_runs 1 (some .int) 0 := ⟨⟨T12 (i := 215) rfl rfl, T11 (i := 1) rfl rfl, by decide +kernel, by decide, Or.inl (T12 (i := 212) rfl rfl)⟩, T12 (i := 213) rfl rfl, T12 (i := 214) rfl rfl⟩
theorem lkL_102 : LkV RL 102 yX5_runs cX5_runs 1 (some .int) 0 := ⟨⟨T14 (i := 113) rfl rfl, T11 (i := 5) rfl rfl, by decide +kernel, by decide, Or.inl (T14 (i := 110) rfl rfl)⟩, T14 (i := 111) rfl rfl, T14 (i := 112) rfl rfl⟩
theorem lkL_103 : LkV RL 103 yX4_plain cX4_plain 4 (some .long) 2 := ⟨⟨T13 (i := 8) rfl rfl, T11 (i := 1) rfl rfl, by decide +kernel, by decide, Or.inl (T13 (i := 5) rfl rfl)⟩, T13 (i := 6) rfl rfl, T13 (i := 7) rfl rfl⟩
theorem lkL_106 : LkV RL 106 yX5_plain cX5_plain 3 (some .long) 2 := ⟨⟨T14 (i := 125) rfl rfl, T11 (i := 5) rfl rfl, by decide +kernel, by decide, Or.inl (T14 (i := 122) rfl rfl)⟩, T14 (i := 123) rfl rfl, T14 (i := 124) rfl rfl⟩
theorem lkL_107 : LkV RL 107 yX4_count cX4_count 2 (some .int) 1 := ⟨⟨T13 (i := 12) rfl rfl, T11 (i := 1) rfl rfl, by decide +kernel, by decide, Or.inl (T13 (i := 9) rfl rfl)⟩, T13 (i := 10) rfl rfl, T13 (i := 11) rfl rfl⟩
theorem lkL_110 : LkV RL 110 yX5_count cX5_count 2 (some .int) 1 := ⟨⟨T14 (i := 131) rfl rfl, T11 (i := 5) rfl rfl, by decide +kernel, by decide, Or.inl (T14 (i := 128) rfl rfl)⟩, T14 (i := 129) rfl rfl, T14 (i := 130) rfl rfl⟩
theorem lkL_111 : LkV RL 111 yX4_clear cX4_clear 2 (some .int) 0 := ⟨⟨T13 (i := 16) rfl rfl, T11 (i := 1) rfl rfl, by decide +kernel, by decide, Or.inl (T13 (i := 13) rfl rfl)⟩, T13 (i := 14) rfl rfl, T13 (i := 15) rfl rfl⟩
theorem lkL_114 : LkV RL 114 yX5_clear cX5_clear 2 (some .int) 0 := ⟨⟨T14 (i := 135) rfl rfl, T11 (i := 5) rfl rfl, by decide +kernel, by decide, Or.inl (T14 (i := 132) rfl rfl)⟩, T14 (i := 133) rfl rfl, T14 (i := 134) rfl rfl⟩
theorem klX1_67 : Cond.constantLong RX1 67 (167961600000000) ∈ TsG := T12 (i := 71) rfl rfl
theorem klX2_107 : Cond.constantLong RX2 107 (60) ∈ TsG := T12 (i := 145) rfl rfl
theorem klX4_131 : Cond.constantLong RX4 131 (-1) ∈ TsG := T12 (i := 200) rfl rfl
theorem klX4_133 : Cond.constantLong RX4 133 (-3) ∈ TsG := T12 (i := 201) rfl rfl
theorem klX3_33 : Cond.constantLong RX3 33 (167961600000000) ∈ TsG := T12 (i := 225) rfl rfl
theorem klX5_152 : Cond.constantLong RX5 152 (167961600000000) ∈ TsG := T14 (i := 27) rfl rfl
theorem klX5_129 : Cond.constantLong RX5 129 (60) ∈ TsG := T14 (i := 65) rfl rfl
theorem klX5_178 : Cond.constantLong RX5 178 (-1) ∈ TsG := T14 (i := 100) rfl rfl
theorem klX5_180 : Cond.constantLong RX5 180 (-3) ∈ TsG := T14 (i := 101) rfl rfl
theorem klX5_198 : Cond.constantLong RX5 198 (-4) ∈ TsG := T14 (i := 126) rfl rfl
theorem klX5_200 : Cond.constantLong RX5 200 (-2) ∈ TsG := T14 (i := 127) rfl rfl
theorem lmX1_141 : Cond.methodLink RX1 141 arraycopyName ∈ TsG := T12 (i := 88) rfl rfl
theorem lmX2_99 : Cond.methodLink RX2 99 Lib.Math.min.name ∈ TsG := T12 (i := 34) rfl rfl
theorem lmX2_121 : Cond.methodLink RX2 121 Lib.Math.max.name ∈ TsG := T12 (i := 159) rfl rfl
theorem lm_min_s : Cond.static Lib.Math.min.name ∈ TsG := T12 (i := 35) rfl rfl
theorem lm_min_c : Cond.code Lib.Math.min.name Lib.Math.min.code 2 (some .int) ∈ TsG := T12 (i := 36) rfl rfl
theorem lm_max_s : Cond.static Lib.Math.max.name ∈ TsG := T12 (i := 160) rfl rfl
theorem lm_max_c : Cond.code Lib.Math.max.name Lib.Math.max.code 2 (some .int) ∈ TsG := T12 (i := 161) rfl rfl
theorem lm_math : Cond.initialized "java/lang/Math" ∈ TsG := T11 (i := 6) rfl rfl
theorem lm_sys : Cond.initialized "java/lang/System" ∈ TsG := T11 (i := 8) rfl rfl
theorem lm_ac_n : Cond.native arraycopyName ∈ TsG := T12 (i := 90) rfl rfl
theorem lm_ac_s : Cond.static arraycopyName ∈ TsG := T12 (i := 89) rfl rfl
end
