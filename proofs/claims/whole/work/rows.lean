section
-- ===== PART A: goes FIRST, ahead of the names: the tables' words, and 'selects' of the private methods out of them =====
/-- a private method of a class that the tables say can be made, by its rows of tables_1 -/
def lw_okq (q : MethodName × Nat) : Prop := (q.1.cls ≠ "java/lang/invoke/MethodHandle" ∧ q.1.cls ≠ "java/lang/invoke/VarHandle") ∧ Cond.instantiable q.1.cls q.2 ∈ tables_1 ∧ Cond.privateMethod q.1 ∈ tables_1 ∧ Cond.instanceMethod q.1 ∈ tables_1
theorem lw_p0 : lw_okq (⟨"DebtLamps", "faulted", "(I)I"⟩, 7) := ⟨⟨by decide +kernel, by decide +kernel⟩, List.mem_of_getElem? (i := 14) (by decide +kernel), List.mem_of_getElem? (i := 170) (by decide +kernel), List.mem_of_getElem? (i := 171) (by decide +kernel)⟩
theorem lw_p1 : lw_okq (⟨"DebtLamps$Town", "takesCode", "(II)Z"⟩, 7) := ⟨⟨by decide +kernel, by decide +kernel⟩, List.mem_of_getElem? (i := 22) (by decide +kernel), List.mem_of_getElem? (i := 191) (by decide +kernel), List.mem_of_getElem? (i := 192) (by decide +kernel)⟩
theorem lw_p2 : lw_okq (⟨"DebtLamps$Town", "takesPeople", "(I)Z"⟩, 7) := ⟨⟨by decide +kernel, by decide +kernel⟩, List.mem_of_getElem? (i := 22) (by decide +kernel), List.mem_of_getElem? (i := 195) (by decide +kernel), List.mem_of_getElem? (i := 196) (by decide +kernel)⟩
theorem lw_p3 : lw_okq (⟨"DebtLamps$Town", "takesBell", "(I)Z"⟩, 7) := ⟨⟨by decide +kernel, by decide +kernel⟩, List.mem_of_getElem? (i := 22) (by decide +kernel), List.mem_of_getElem? (i := 199) (by decide +kernel), List.mem_of_getElem? (i := 200) (by decide +kernel)⟩
theorem lw_p4 : lw_okq (⟨"DebtLamps$Town", "textLength", "()I"⟩, 7) := ⟨⟨by decide +kernel, by decide +kernel⟩, List.mem_of_getElem? (i := 22) (by decide +kernel), List.mem_of_getElem? (i := 203) (by decide +kernel), List.mem_of_getElem? (i := 204) (by decide +kernel)⟩
theorem lw_p5 : lw_okq (⟨"DebtLamps$Town", "takesKind", "(II)Z"⟩, 7) := ⟨⟨by decide +kernel, by decide +kernel⟩, List.mem_of_getElem? (i := 22) (by decide +kernel), List.mem_of_getElem? (i := 207) (by decide +kernel), List.mem_of_getElem? (i := 208) (by decide +kernel)⟩
theorem lw_p6 : lw_okq (⟨"DebtLamps$Town", "takesPence", "(III)Z"⟩, 7) := ⟨⟨by decide +kernel, by decide +kernel⟩, List.mem_of_getElem? (i := 22) (by decide +kernel), List.mem_of_getElem? (i := 211) (by decide +kernel), List.mem_of_getElem? (i := 212) (by decide +kernel)⟩
theorem lw_p7 : lw_okq (⟨"DebtLamps", "isPerson", "(I)Z"⟩, 7) := ⟨⟨by decide +kernel, by decide +kernel⟩, List.mem_of_getElem? (i := 14) (by decide +kernel), List.mem_of_getElem? (i := 227) (by decide +kernel), List.mem_of_getElem? (i := 228) (by decide +kernel)⟩
theorem lw_p8 : lw_okq (⟨"DebtLamps$Town", "findLighters", "()V"⟩, 7) := ⟨⟨by decide +kernel, by decide +kernel⟩, List.mem_of_getElem? (i := 22) (by decide +kernel), List.mem_of_getElem? (i := 239) (by decide +kernel), List.mem_of_getElem? (i := 240) (by decide +kernel)⟩
theorem lw_p9 : lw_okq (⟨"DebtLamps$Town", "roundByLighters", "(I)I"⟩, 7) := ⟨⟨by decide +kernel, by decide +kernel⟩, List.mem_of_getElem? (i := 22) (by decide +kernel), List.mem_of_getElem? (i := 262) (by decide +kernel), List.mem_of_getElem? (i := 263) (by decide +kernel)⟩
theorem lw_p10 : lw_okq (⟨"DebtLamps", "hasTown", "()Z"⟩, 7) := ⟨⟨by decide +kernel, by decide +kernel⟩, List.mem_of_getElem? (i := 14) (by decide +kernel), List.mem_of_getElem? (i := 297) (by decide +kernel), List.mem_of_getElem? (i := 298) (by decide +kernel)⟩
theorem lw_p11 : lw_okq (⟨"DebtLamps", "lampsLeft", "(ILDebtLamps$Sheet;II)I"⟩, 7) := ⟨⟨by decide +kernel, by decide +kernel⟩, List.mem_of_getElem? (i := 14) (by decide +kernel), List.mem_of_getElem? (i := 341) (by decide +kernel), List.mem_of_getElem? (i := 342) (by decide +kernel)⟩
theorem lw_p12 : lw_okq (⟨"DebtLamps", "doorsTillRoundIsDone", "(ILDebtLamps$Sheet;II)I"⟩, 7) := ⟨⟨by decide +kernel, by decide +kernel⟩, List.mem_of_getElem? (i := 14) (by decide +kernel), List.mem_of_getElem? (i := 345) (by decide +kernel), List.mem_of_getElem? (i := 346) (by decide +kernel)⟩
theorem lw_p13 : lw_okq (⟨"DebtLamps$Readings", "latestDusk", "()I"⟩, 4) := ⟨⟨by decide +kernel, by decide +kernel⟩, List.mem_of_getElem? (i := 91) (by decide +kernel), List.mem_of_getElem? (i := 382) (by decide +kernel), List.mem_of_getElem? (i := 383) (by decide +kernel)⟩
theorem lw_p14 : lw_okq (⟨"DebtLamps$Readings", "areSoBehind", "(ILDebtLamps$Town;)Z"⟩, 4) := ⟨⟨by decide +kernel, by decide +kernel⟩, List.mem_of_getElem? (i := 91) (by decide +kernel), List.mem_of_getElem? (i := 388) (by decide +kernel), List.mem_of_getElem? (i := 389) (by decide +kernel)⟩
theorem lw_p15 : lw_okq (⟨"DebtLamps", "lostBy", "(I)J"⟩, 7) := ⟨⟨by decide +kernel, by decide +kernel⟩, List.mem_of_getElem? (i := 14) (by decide +kernel), List.mem_of_getElem? (i := 441) (by decide +kernel), List.mem_of_getElem? (i := 442) (by decide +kernel)⟩
def lw_privs_1 : List (MethodName × Nat) := [(⟨"DebtLamps", "faulted", "(I)I"⟩, 7), (⟨"DebtLamps$Town", "takesCode", "(II)Z"⟩, 7), (⟨"DebtLamps$Town", "takesPeople", "(I)Z"⟩, 7), (⟨"DebtLamps$Town", "takesBell", "(I)Z"⟩, 7), (⟨"DebtLamps$Town", "textLength", "()I"⟩, 7), (⟨"DebtLamps$Town", "takesKind", "(II)Z"⟩, 7), (⟨"DebtLamps$Town", "takesPence", "(III)Z"⟩, 7), (⟨"DebtLamps", "isPerson", "(I)Z"⟩, 7), (⟨"DebtLamps$Town", "findLighters", "()V"⟩, 7), (⟨"DebtLamps$Town", "roundByLighters", "(I)I"⟩, 7), (⟨"DebtLamps", "hasTown", "()Z"⟩, 7), (⟨"DebtLamps", "lampsLeft", "(ILDebtLamps$Sheet;II)I"⟩, 7), (⟨"DebtLamps", "doorsTillRoundIsDone", "(ILDebtLamps$Sheet;II)I"⟩, 7), (⟨"DebtLamps$Readings", "latestDusk", "()I"⟩, 4), (⟨"DebtLamps$Readings", "areSoBehind", "(ILDebtLamps$Town;)Z"⟩, 4), (⟨"DebtLamps", "lostBy", "(I)J"⟩, 7)]
theorem lw_r1 : ∀ q ∈ lw_privs_1, lw_okq q := List.forall_mem_cons.mpr ⟨lw_p0, List.forall_mem_cons.mpr ⟨lw_p1, List.forall_mem_cons.mpr ⟨lw_p2, List.forall_mem_cons.mpr ⟨lw_p3, List.forall_mem_cons.mpr ⟨lw_p4, List.forall_mem_cons.mpr ⟨lw_p5, List.forall_mem_cons.mpr ⟨lw_p6, List.forall_mem_cons.mpr ⟨lw_p7, List.forall_mem_cons.mpr ⟨lw_p8, List.forall_mem_cons.mpr ⟨lw_p9, List.forall_mem_cons.mpr ⟨lw_p10, List.forall_mem_cons.mpr ⟨lw_p11, List.forall_mem_cons.mpr ⟨lw_p12, List.forall_mem_cons.mpr ⟨lw_p13, List.forall_mem_cons.mpr ⟨lw_p14, List.forall_mem_cons.mpr ⟨lw_p15, fun _ h => absurd h List.not_mem_nil⟩⟩⟩⟩⟩⟩⟩⟩⟩⟩⟩⟩⟩⟩⟩⟩
theorem lw_p16 : lw_okq (⟨"DebtLampsModel", "against", "(IIII)I"⟩, 21) := ⟨⟨by decide +kernel, by decide +kernel⟩, List.mem_of_getElem? (i := 524) (by decide +kernel), List.mem_of_getElem? (i := 607) (by decide +kernel), List.mem_of_getElem? (i := 608) (by decide +kernel)⟩
theorem lw_p17 : lw_okq (⟨"DebtLampsModel", "fails", "(I)I"⟩, 21) := ⟨⟨by decide +kernel, by decide +kernel⟩, List.mem_of_getElem? (i := 524) (by decide +kernel), List.mem_of_getElem? (i := 611) (by decide +kernel), List.mem_of_getElem? (i := 612) (by decide +kernel)⟩
theorem lw_p18 : lw_okq (⟨"DebtLampsModel", "readTown", "(I)Z"⟩, 21) := ⟨⟨by decide +kernel, by decide +kernel⟩, List.mem_of_getElem? (i := 524) (by decide +kernel), List.mem_of_getElem? (i := 615) (by decide +kernel), List.mem_of_getElem? (i := 616) (by decide +kernel)⟩
theorem lw_p19 : lw_okq (⟨"DebtLampsModel", "isSign", "(II)Z"⟩, 21) := ⟨⟨by decide +kernel, by decide +kernel⟩, List.mem_of_getElem? (i := 524) (by decide +kernel), List.mem_of_getElem? (i := 619) (by decide +kernel), List.mem_of_getElem? (i := 620) (by decide +kernel)⟩
theorem lw_p20 : lw_okq (⟨"DebtLampsModel", "digit", "(III)I"⟩, 21) := ⟨⟨by decide +kernel, by decide +kernel⟩, List.mem_of_getElem? (i := 524) (by decide +kernel), List.mem_of_getElem? (i := 623) (by decide +kernel), List.mem_of_getElem? (i := 624) (by decide +kernel)⟩
theorem lw_p21 : lw_okq (⟨"DebtLampsModel", "readPerson", "(II)Z"⟩, 21) := ⟨⟨by decide +kernel, by decide +kernel⟩, List.mem_of_getElem? (i := 524) (by decide +kernel), List.mem_of_getElem? (i := 627) (by decide +kernel), List.mem_of_getElem? (i := 628) (by decide +kernel)⟩
theorem lw_p22 : lw_okq (⟨"DebtLampsModel", "isPerson", "(I)Z"⟩, 21) := ⟨⟨by decide +kernel, by decide +kernel⟩, List.mem_of_getElem? (i := 524) (by decide +kernel), List.mem_of_getElem? (i := 638) (by decide +kernel), List.mem_of_getElem? (i := 639) (by decide +kernel)⟩
theorem lw_p23 : lw_okq (⟨"DebtLampsModel", "owesAll", "(I)I"⟩, 21) := ⟨⟨by decide +kernel, by decide +kernel⟩, List.mem_of_getElem? (i := 524) (by decide +kernel), List.mem_of_getElem? (i := 642) (by decide +kernel), List.mem_of_getElem? (i := 643) (by decide +kernel)⟩
theorem lw_p24 : lw_okq (⟨"DebtLampsModel", "roundOf", "(I)I"⟩, 21) := ⟨⟨by decide +kernel, by decide +kernel⟩, List.mem_of_getElem? (i := 524) (by decide +kernel), List.mem_of_getElem? (i := 646) (by decide +kernel), List.mem_of_getElem? (i := 647) (by decide +kernel)⟩
theorem lw_p25 : lw_okq (⟨"DebtLampsModel", "lighterOf", "(I)I"⟩, 21) := ⟨⟨by decide +kernel, by decide +kernel⟩, List.mem_of_getElem? (i := 524) (by decide +kernel), List.mem_of_getElem? (i := 650) (by decide +kernel), List.mem_of_getElem? (i := 651) (by decide +kernel)⟩
theorem lw_p26 : lw_okq (⟨"DebtLampsModel", "weightOf", "(II)I"⟩, 21) := ⟨⟨by decide +kernel, by decide +kernel⟩, List.mem_of_getElem? (i := 524) (by decide +kernel), List.mem_of_getElem? (i := 654) (by decide +kernel), List.mem_of_getElem? (i := 655) (by decide +kernel)⟩
theorem lw_p27 : lw_okq (⟨"DebtLampsModel", "steps", "(II)I"⟩, 21) := ⟨⟨by decide +kernel, by decide +kernel⟩, List.mem_of_getElem? (i := 524) (by decide +kernel), List.mem_of_getElem? (i := 658) (by decide +kernel), List.mem_of_getElem? (i := 659) (by decide +kernel)⟩
theorem lw_p28 : lw_okq (⟨"DebtLampsModel", "isInTime", "(I)Z"⟩, 21) := ⟨⟨by decide +kernel, by decide +kernel⟩, List.mem_of_getElem? (i := 524) (by decide +kernel), List.mem_of_getElem? (i := 662) (by decide +kernel), List.mem_of_getElem? (i := 663) (by decide +kernel)⟩
theorem lw_p29 : lw_okq (⟨"DebtLampsModel", "areTwo", "(II)Z"⟩, 21) := ⟨⟨by decide +kernel, by decide +kernel⟩, List.mem_of_getElem? (i := 524) (by decide +kernel), List.mem_of_getElem? (i := 670) (by decide +kernel), List.mem_of_getElem? (i := 671) (by decide +kernel)⟩
theorem lw_p30 : lw_okq (⟨"DebtLampsModel", "goDusk", "()V"⟩, 21) := ⟨⟨by decide +kernel, by decide +kernel⟩, List.mem_of_getElem? (i := 524) (by decide +kernel), List.mem_of_getElem? (i := 694) (by decide +kernel), List.mem_of_getElem? (i := 695) (by decide +kernel)⟩
theorem lw_p31 : lw_okq (⟨"DebtLampsModel", "lit", "()I"⟩, 21) := ⟨⟨by decide +kernel, by decide +kernel⟩, List.mem_of_getElem? (i := 524) (by decide +kernel), List.mem_of_getElem? (i := 698) (by decide +kernel), List.mem_of_getElem? (i := 699) (by decide +kernel)⟩
def lw_privs_2 : List (MethodName × Nat) := [(⟨"DebtLampsModel", "against", "(IIII)I"⟩, 21), (⟨"DebtLampsModel", "fails", "(I)I"⟩, 21), (⟨"DebtLampsModel", "readTown", "(I)Z"⟩, 21), (⟨"DebtLampsModel", "isSign", "(II)Z"⟩, 21), (⟨"DebtLampsModel", "digit", "(III)I"⟩, 21), (⟨"DebtLampsModel", "readPerson", "(II)Z"⟩, 21), (⟨"DebtLampsModel", "isPerson", "(I)Z"⟩, 21), (⟨"DebtLampsModel", "owesAll", "(I)I"⟩, 21), (⟨"DebtLampsModel", "roundOf", "(I)I"⟩, 21), (⟨"DebtLampsModel", "lighterOf", "(I)I"⟩, 21), (⟨"DebtLampsModel", "weightOf", "(II)I"⟩, 21), (⟨"DebtLampsModel", "steps", "(II)I"⟩, 21), (⟨"DebtLampsModel", "isInTime", "(I)Z"⟩, 21), (⟨"DebtLampsModel", "areTwo", "(II)Z"⟩, 21), (⟨"DebtLampsModel", "goDusk", "()V"⟩, 21), (⟨"DebtLampsModel", "lit", "()I"⟩, 21)]
theorem lw_r2 : ∀ q ∈ lw_privs_2, lw_okq q := List.forall_mem_cons.mpr ⟨lw_p16, List.forall_mem_cons.mpr ⟨lw_p17, List.forall_mem_cons.mpr ⟨lw_p18, List.forall_mem_cons.mpr ⟨lw_p19, List.forall_mem_cons.mpr ⟨lw_p20, List.forall_mem_cons.mpr ⟨lw_p21, List.forall_mem_cons.mpr ⟨lw_p22, List.forall_mem_cons.mpr ⟨lw_p23, List.forall_mem_cons.mpr ⟨lw_p24, List.forall_mem_cons.mpr ⟨lw_p25, List.forall_mem_cons.mpr ⟨lw_p26, List.forall_mem_cons.mpr ⟨lw_p27, List.forall_mem_cons.mpr ⟨lw_p28, List.forall_mem_cons.mpr ⟨lw_p29, List.forall_mem_cons.mpr ⟨lw_p30, List.forall_mem_cons.mpr ⟨lw_p31, fun _ h => absurd h List.not_mem_nil⟩⟩⟩⟩⟩⟩⟩⟩⟩⟩⟩⟩⟩⟩⟩⟩
theorem lw_p32 : lw_okq (⟨"DebtLampsModel", "keep", "()V"⟩, 21) := ⟨⟨by decide +kernel, by decide +kernel⟩, List.mem_of_getElem? (i := 524) (by decide +kernel), List.mem_of_getElem? (i := 706) (by decide +kernel), List.mem_of_getElem? (i := 707) (by decide +kernel)⟩
theorem lw_p33 : lw_okq (⟨"DebtLampsModel", "restore", "()V"⟩, 21) := ⟨⟨by decide +kernel, by decide +kernel⟩, List.mem_of_getElem? (i := 524) (by decide +kernel), List.mem_of_getElem? (i := 710) (by decide +kernel), List.mem_of_getElem? (i := 711) (by decide +kernel)⟩
theorem lw_p34 : lw_okq (⟨"DebtLampsModel", "walkOf", "(IIII)I"⟩, 21) := ⟨⟨by decide +kernel, by decide +kernel⟩, List.mem_of_getElem? (i := 524) (by decide +kernel), List.mem_of_getElem? (i := 726) (by decide +kernel), List.mem_of_getElem? (i := 727) (by decide +kernel)⟩
theorem lw_p35 : lw_okq (⟨"DebtLampsModel", "areSo", "()Z"⟩, 21) := ⟨⟨by decide +kernel, by decide +kernel⟩, List.mem_of_getElem? (i := 524) (by decide +kernel), List.mem_of_getElem? (i := 750) (by decide +kernel), List.mem_of_getElem? (i := 751) (by decide +kernel)⟩
theorem lw_p36 : lw_okq (⟨"DebtLampsModel", "lost", "(I)J"⟩, 21) := ⟨⟨by decide +kernel, by decide +kernel⟩, List.mem_of_getElem? (i := 524) (by decide +kernel), List.mem_of_getElem? (i := 786) (by decide +kernel), List.mem_of_getElem? (i := 787) (by decide +kernel)⟩
theorem lw_p37 : lw_okq (⟨"DebtLampsModel", "begins", "(I)V"⟩, 21) := ⟨⟨by decide +kernel, by decide +kernel⟩, List.mem_of_getElem? (i := 524) (by decide +kernel), List.mem_of_getElem? (i := 798) (by decide +kernel), List.mem_of_getElem? (i := 799) (by decide +kernel)⟩
theorem lw_p38 : lw_okq (⟨"DebtLampsModel", "litNow", "()I"⟩, 21) := ⟨⟨by decide +kernel, by decide +kernel⟩, List.mem_of_getElem? (i := 524) (by decide +kernel), List.mem_of_getElem? (i := 822) (by decide +kernel), List.mem_of_getElem? (i := 823) (by decide +kernel)⟩
def lw_privs_3 : List (MethodName × Nat) := [(⟨"DebtLampsModel", "keep", "()V"⟩, 21), (⟨"DebtLampsModel", "restore", "()V"⟩, 21), (⟨"DebtLampsModel", "walkOf", "(IIII)I"⟩, 21), (⟨"DebtLampsModel", "areSo", "()Z"⟩, 21), (⟨"DebtLampsModel", "lost", "(I)J"⟩, 21), (⟨"DebtLampsModel", "begins", "(I)V"⟩, 21), (⟨"DebtLampsModel", "litNow", "()I"⟩, 21)]
theorem lw_r3 : ∀ q ∈ lw_privs_3, lw_okq q := List.forall_mem_cons.mpr ⟨lw_p32, List.forall_mem_cons.mpr ⟨lw_p33, List.forall_mem_cons.mpr ⟨lw_p34, List.forall_mem_cons.mpr ⟨lw_p35, List.forall_mem_cons.mpr ⟨lw_p36, List.forall_mem_cons.mpr ⟨lw_p37, List.forall_mem_cons.mpr ⟨lw_p38, fun _ h => absurd h List.not_mem_nil⟩⟩⟩⟩⟩⟩⟩
def lw_privs : List (MethodName × Nat) := lw_privs_1 ++ (lw_privs_2 ++ (lw_privs_3))
def lw_tbl : List Cond := k2_sels lw_privs ++ tables_1
theorem lw_privs_ok : ∀ q ∈ lw_privs, lw_okq q := by
  show ∀ q ∈ lw_privs_1 ++ (lw_privs_2 ++ (lw_privs_3)), lw_okq q
  exact List.forall_mem_append.mpr ⟨lw_r1, List.forall_mem_append.mpr ⟨lw_r2, lw_r3⟩⟩
end
section
/-! ===== BEGIN words of one list among another's, by their places ===== -/
theorem goodIn_r {big : List Cond} (ws : List Cond) (ps : List Nat) (hp : ws = ps.filterMap (fun i => big[i]?)) (h : ws.all goodWord = true) : GoodIn big ws := by
  intro w hw
  have h1 := List.all_eq_true.mp h w hw
  rw [hp] at hw
  obtain ⟨i, -, hi⟩ := List.mem_filterMap.mp hw
  have hm : w ∈ big := by first | exact List.mem_of_getElem? hi | exact List.getElem?_mem hi
  exact ⟨hm, good_of_word h1⟩
theorem goodIn_app {big a b : List Cond} (ha : GoodIn big a) (hb : GoodIn big b) : GoodIn big (a ++ b) := fun w h => (List.mem_append.mp h).elim (ha w) (hb w)
theorem goodIn_ca {big a b : List Cond} {c : Cond} (ha : GoodIn big (c :: a)) (hb : GoodIn big b) : GoodIn big (c :: (a ++ b)) := fun w h => (List.mem_cons.mp h).elim (fun e => ha w (List.mem_cons.mpr (Or.inl e))) (fun h => (List.mem_append.mp h).elim (fun h => ha w (List.mem_cons.mpr (Or.inr h))) (hb w))
theorem goodIn_sub {big ws : List Cond} (hm : ∀ w ∈ ws, w ∈ big) (h : ws.all goodWord = true) : GoodIn big ws := fun w hw => ⟨hm w hw, good_of_word (List.all_eq_true.mp h w hw)⟩
/-! ===== END ===== -/
/-! ===== BEGIN printed: names, fields, word lists, decode rows ===== -/
def RX0 : String := "DebtLamps$Bankrupt"
def TX0 : u_T := fun k => match k with
  | _ => ("", "", "", false)
def tyX0 : Nat → FieldType := fun k => match k with
  | _ => .int
abbrev wsX00 : List Cond := u_ws RX0 TX0 0
theorem nmX0 : ∀ a, a < 0 → ∀ b, b < 0 → a ≠ b → (TX0 a).2.1 ≠ (TX0 b).2.1 := by decide +kernel
theorem tyX0_ok : ∀ k, k < 0 → parseFieldDescriptor (TX0 k).2.2.1 = some (tyX0 k) := by decide +kernel
abbrev cX0_init : ByteArray := prog_2_method_1_code
def yX0_init : MethodName := ⟨RX0, "<init>", "()V"⟩
abbrev cX0_weigh : ByteArray := prog_2_method_2_code
def yX0_weigh : MethodName := ⟨RX0, "weigh", "(I)I"⟩
abbrev cX0_telling : ByteArray := prog_2_method_3_code
def yX0_telling : MethodName := ⟨RX0, "telling", "(ILDebtLamps$Trail;)I"⟩
abbrev cX0_hailing : ByteArray := prog_2_method_4_code
def yX0_hailing : MethodName := ⟨RX0, "hailing", "(ILDebtLamps$Trail;)I"⟩
def RX1 : String := "DebtLamps$Person"
def TX1 : u_T := fun k => match k with
  | _ => ("", "", "", false)
def tyX1 : Nat → FieldType := fun k => match k with
  | _ => .int
abbrev wsX10 : List Cond := u_ws RX1 TX1 0
theorem nmX1 : ∀ a, a < 0 → ∀ b, b < 0 → a ≠ b → (TX1 a).2.1 ≠ (TX1 b).2.1 := by decide +kernel
theorem tyX1_ok : ∀ k, k < 0 → parseFieldDescriptor (TX1 k).2.2.1 = some (tyX1 k) := by decide +kernel
abbrev cX1_init : ByteArray := prog_3_method_1_code
def yX1_init : MethodName := ⟨RX1, "<init>", "()V"⟩
abbrev cX1_weigh : ByteArray := prog_3_method_2_code
def yX1_weigh : MethodName := ⟨RX1, "weigh", "(I)I"⟩
abbrev cX1_telling : ByteArray := prog_3_method_3_code
def yX1_telling : MethodName := ⟨RX1, "telling", "(ILDebtLamps$Trail;)I"⟩
abbrev cX1_plainTelling : ByteArray := prog_3_method_4_code
def yX1_plainTelling : MethodName := ⟨RX1, "plainTelling", "(ILDebtLamps$Trail;)I"⟩
abbrev cX1_hailing : ByteArray := prog_3_method_5_code
def yX1_hailing : MethodName := ⟨RX1, "hailing", "(ILDebtLamps$Trail;)I"⟩
def RX2 : String := "DebtLamps$Readings"
def TX2 : u_T := fun k => match k with
  | 0 => ("DebtLamps$Readings", "duskOf", "[I", true)
  | 1 => ("DebtLamps$Readings", "lampOf", "[I", true)
  | 2 => ("DebtLamps$Readings", "lighterOf", "[I", true)
  | _ => ("DebtLamps$Readings", "count", "I", false)
def tyX2 : Nat → FieldType := fun k => match k with
  | 0 => .array .int
  | 1 => .array .int
  | 2 => .array .int
  | _ => .int
abbrev wsX20 : List Cond := u_ws RX2 TX2 4
theorem nmX2 : ∀ a, a < 4 → ∀ b, b < 4 → a ≠ b → (TX2 a).2.1 ≠ (TX2 b).2.1 := by decide +kernel
theorem tyX2_ok : ∀ k, k < 4 → parseFieldDescriptor (TX2 k).2.2.1 = some (tyX2 k) := by decide +kernel
abbrev cX2_init : ByteArray := prog_4_method_1_code
def yX2_init : MethodName := ⟨RX2, "<init>", "()V"⟩
abbrev cX2_add : ByteArray := prog_4_method_2_code
def yX2_add : MethodName := ⟨RX2, "add", "(III)I"⟩
abbrev cX2_keepFirst : ByteArray := prog_4_method_3_code
def yX2_keepFirst : MethodName := ⟨RX2, "keepFirst", "(I)V"⟩
abbrev cX2_areSo : ByteArray := prog_4_method_4_code
def yX2_areSo : MethodName := ⟨RX2, "areSo", "(LDebtLamps$Town;)Z"⟩
abbrev cX2_areSoBehind : ByteArray := prog_4_method_5_code
def yX2_areSoBehind : MethodName := ⟨RX2, "areSoBehind", "(ILDebtLamps$Town;)Z"⟩
abbrev cX2_latestDusk : ByteArray := prog_4_method_6_code
def yX2_latestDusk : MethodName := ⟨RX2, "latestDusk", "()I"⟩
def RX3 : String := "DebtLamps$Rich"
def TX3 : u_T := fun k => match k with
  | _ => ("", "", "", false)
def tyX3 : Nat → FieldType := fun k => match k with
  | _ => .int
abbrev wsX30 : List Cond := u_ws RX3 TX3 0
theorem nmX3 : ∀ a, a < 0 → ∀ b, b < 0 → a ≠ b → (TX3 a).2.1 ≠ (TX3 b).2.1 := by decide +kernel
theorem tyX3_ok : ∀ k, k < 0 → parseFieldDescriptor (TX3 k).2.2.1 = some (tyX3 k) := by decide +kernel
abbrev cX3_init : ByteArray := prog_5_method_1_code
def yX3_init : MethodName := ⟨RX3, "<init>", "()V"⟩
abbrev cX3_weigh : ByteArray := prog_5_method_2_code
def yX3_weigh : MethodName := ⟨RX3, "weigh", "(I)I"⟩
abbrev cX3_telling : ByteArray := prog_5_method_3_code
def yX3_telling : MethodName := ⟨RX3, "telling", "(ILDebtLamps$Trail;)I"⟩
def RX4 : String := "DebtLamps$Sheet"
def TX4 : u_T := fun k => match k with
  | 0 => ("DebtLamps$Sheet", "cells", "[I", true)
  | 1 => ("DebtLamps$Sheet", "length", "I", false)
  | _ => ("DebtLamps$Sheet", "lane", "I", false)
def tyX4 : Nat → FieldType := fun k => match k with
  | 0 => .array .int
  | 1 => .int
  | _ => .int
abbrev wsX40 : List Cond := u_ws RX4 TX4 3
theorem nmX4 : ∀ a, a < 3 → ∀ b, b < 3 → a ≠ b → (TX4 a).2.1 ≠ (TX4 b).2.1 := by decide +kernel
theorem tyX4_ok : ∀ k, k < 3 → parseFieldDescriptor (TX4 k).2.2.1 = some (tyX4 k) := by decide +kernel
abbrev cX4_init : ByteArray := prog_6_method_1_code
def yX4_init : MethodName := ⟨RX4, "<init>", "()V"⟩
abbrev cX4_hasNothing : ByteArray := prog_6_method_2_code
def yX4_hasNothing : MethodName := ⟨RX4, "hasNothing", "()Z"⟩
abbrev cX4_renew : ByteArray := prog_6_method_3_code
def yX4_renew : MethodName := ⟨RX4, "renew", "(II)V"⟩
abbrev cX4_loseRow : ByteArray := prog_6_method_4_code
def yX4_loseRow : MethodName := ⟨RX4, "loseRow", "()V"⟩
abbrev cX4_isOfLane : ByteArray := prog_6_method_5_code
def yX4_isOfLane : MethodName := ⟨RX4, "isOfLane", "(I)Z"⟩
abbrev cX4_hasCell : ByteArray := prog_6_method_6_code
def yX4_hasCell : MethodName := ⟨RX4, "hasCell", "(I)Z"⟩
abbrev cX4_hasCells : ByteArray := prog_6_method_7_code
def yX4_hasCells : MethodName := ⟨RX4, "hasCells", "(II)Z"⟩
abbrev cX4_setCut : ByteArray := prog_6_method_8_code
def yX4_setCut : MethodName := ⟨RX4, "setCut", "(II)V"⟩
abbrev cX4_valueAt : ByteArray := prog_6_method_9_code
def yX4_valueAt : MethodName := ⟨RX4, "valueAt", "(I)I"⟩
def RX5 : String := "DebtLamps$Town"
def TX5 : u_T := fun k => match k with
  | 0 => ("DebtLamps$Town", "bodies", "[LDebtLamps$Person;", true)
  | 1 => ("DebtLamps$Town", "kindOf", "[I", true)
  | 2 => ("DebtLamps$Town", "pence", "[[I", true)
  | 3 => ("DebtLamps$Town", "lighters", "[I", true)
  | 4 => ("DebtLamps$Town", "inTime", "[Z", true)
  | 5 => ("DebtLamps$Town", "people", "I", false)
  | _ => ("DebtLamps$Town", "bellSteps", "I", false)
def tyX5 : Nat → FieldType := fun k => match k with
  | 0 => .array (.object "DebtLamps$Person")
  | 1 => .array .int
  | 2 => .array (.array .int)
  | 3 => .array .int
  | 4 => .array .boolean
  | 5 => .int
  | _ => .int
abbrev wsX50 : List Cond := u_ws RX5 TX5 7
theorem nmX5 : ∀ a, a < 7 → ∀ b, b < 7 → a ≠ b → (TX5 a).2.1 ≠ (TX5 b).2.1 := by decide +kernel
theorem tyX5_ok : ∀ k, k < 7 → parseFieldDescriptor (TX5 k).2.2.1 = some (tyX5 k) := by decide +kernel
abbrev cX5_init : ByteArray := prog_7_method_1_code
def yX5_init : MethodName := ⟨RX5, "<init>", "()V"⟩
abbrev cX5_becomeLike : ByteArray := prog_7_method_2_code
def yX5_becomeLike : MethodName := ⟨RX5, "becomeLike", "(LDebtLamps$Town;)V"⟩
abbrev cX5_readText : ByteArray := prog_7_method_3_code
def yX5_readText : MethodName := ⟨RX5, "readText", "(LDebtLamps$Sheet;II)I"⟩
abbrev cX5_textLength : ByteArray := prog_7_method_4_code
def yX5_textLength : MethodName := ⟨RX5, "textLength", "()I"⟩
abbrev cX5_takesCode : ByteArray := prog_7_method_5_code
def yX5_takesCode : MethodName := ⟨RX5, "takesCode", "(II)Z"⟩
abbrev cX5_takesPeople : ByteArray := prog_7_method_6_code
def yX5_takesPeople : MethodName := ⟨RX5, "takesPeople", "(I)Z"⟩
abbrev cX5_takesBell : ByteArray := prog_7_method_7_code
def yX5_takesBell : MethodName := ⟨RX5, "takesBell", "(I)Z"⟩
abbrev cX5_takesKind : ByteArray := prog_7_method_8_code
def yX5_takesKind : MethodName := ⟨RX5, "takesKind", "(II)Z"⟩
abbrev cX5_takesPence : ByteArray := prog_7_method_9_code
def yX5_takesPence : MethodName := ⟨RX5, "takesPence", "(III)Z"⟩
abbrev cX5_penceInAll : ByteArray := prog_7_method_10_code
def yX5_penceInAll : MethodName := ⟨RX5, "penceInAll", "(I)I"⟩
abbrev cX5_bodyOf : ByteArray := prog_7_method_11_code
def yX5_bodyOf : MethodName := ⟨RX5, "bodyOf", "(I)LDebtLamps$Person;"⟩
abbrev cX5_weightOf : ByteArray := prog_7_method_12_code
def yX5_weightOf : MethodName := ⟨RX5, "weightOf", "(II)I"⟩
abbrev cX5_owingTo : ByteArray := prog_7_method_13_code
def yX5_owingTo : MethodName := ⟨RX5, "owingTo", "(I)I"⟩
abbrev cX5_lighterAmong : ByteArray := prog_7_method_14_code
def yX5_lighterAmong : MethodName := ⟨RX5, "lighterAmong", "(II)I"⟩
abbrev cX5_litLamps : ByteArray := prog_7_method_15_code
def yX5_litLamps : MethodName := ⟨RX5, "litLamps", "()I"⟩
abbrev cX5_roundOf : ByteArray := prog_7_method_16_code
def yX5_roundOf : MethodName := ⟨RX5, "roundOf", "(I)I"⟩
abbrev cX5_stepsOf : ByteArray := prog_7_method_17_code
def yX5_stepsOf : MethodName := ⟨RX5, "stepsOf", "(I)I"⟩
abbrev cX5_passDusk : ByteArray := prog_7_method_18_code
def yX5_passDusk : MethodName := ⟨RX5, "passDusk", "()V"⟩
abbrev cX5_payTillLighterOfNone : ByteArray := prog_7_method_19_code
def yX5_payTillLighterOfNone : MethodName := ⟨RX5, "payTillLighterOfNone", "(I)I"⟩
abbrev cX5_findLighters : ByteArray := prog_7_method_20_code
def yX5_findLighters : MethodName := ⟨RX5, "findLighters", "()V"⟩
abbrev cX5_roundByLighters : ByteArray := prog_7_method_21_code
def yX5_roundByLighters : MethodName := ⟨RX5, "roundByLighters", "(I)I"⟩
abbrev cX5_fewestSteps : ByteArray := prog_7_method_22_code
def yX5_fewestSteps : MethodName := ⟨RX5, "fewestSteps", "(II)I"⟩
def RX6 : String := "DebtLamps$Trail"
def TX6 : u_T := fun k => match k with
  | _ => ("DebtLamps$Trail", "value", "I", false)
def tyX6 : Nat → FieldType := fun k => match k with
  | _ => .int
abbrev wsX60 : List Cond := u_ws RX6 TX6 1
theorem nmX6 : ∀ a, a < 1 → ∀ b, b < 1 → a ≠ b → (TX6 a).2.1 ≠ (TX6 b).2.1 := by decide +kernel
theorem tyX6_ok : ∀ k, k < 1 → parseFieldDescriptor (TX6 k).2.2.1 = some (tyX6 k) := by decide +kernel
abbrev cX6_init : ByteArray := prog_8_method_1_code
def yX6_init : MethodName := ⟨RX6, "<init>", "()V"⟩
abbrev cX6_leave : ByteArray := prog_8_method_2_code
def yX6_leave : MethodName := ⟨RX6, "leave", "(I)V"⟩
def RX7 : String := "DebtLamps"
def TX7 : u_T := fun k => match k with
  | 0 => ("DebtLamps", "now", "LDebtLamps$Town;", true)
  | 1 => ("DebtLamps", "trial", "LDebtLamps$Town;", true)
  | 2 => ("DebtLamps", "draft", "LDebtLamps$Town;", true)
  | 3 => ("DebtLamps", "trail", "LDebtLamps$Trail;", true)
  | 4 => ("DebtLamps", "readings", "LDebtLamps$Readings;", true)
  | 5 => ("DebtLamps", "sheets", "[LDebtLamps$Sheet;", true)
  | _ => ("DebtLamps", "latestFault", "I", false)
def tyX7 : Nat → FieldType := fun k => match k with
  | 0 => .object "DebtLamps$Town"
  | 1 => .object "DebtLamps$Town"
  | 2 => .object "DebtLamps$Town"
  | 3 => .object "DebtLamps$Trail"
  | 4 => .object "DebtLamps$Readings"
  | 5 => .array (.object "DebtLamps$Sheet")
  | _ => .int
abbrev wsX70 : List Cond := u_ws RX7 TX7 7
theorem nmX7 : ∀ a, a < 7 → ∀ b, b < 7 → a ≠ b → (TX7 a).2.1 ≠ (TX7 b).2.1 := by decide +kernel
theorem tyX7_ok : ∀ k, k < 7 → parseFieldDescriptor (TX7 k).2.2.1 = some (tyX7 k) := by decide +kernel
abbrev cX7_init : ByteArray := prog_1_method_1_code
def yX7_init : MethodName := ⟨RX7, "<init>", "()V"⟩
abbrev cX7_town : ByteArray := prog_1_method_2_code
def yX7_town : MethodName := ⟨RX7, "town", "(IIII)I"⟩
abbrev cX7_ofPerson : ByteArray := prog_1_method_3_code
def yX7_ofPerson : MethodName := ⟨RX7, "ofPerson", "(II)I"⟩
abbrev cX7_owe : ByteArray := prog_1_method_4_code
def yX7_owe : MethodName := ⟨RX7, "owe", "(III)I"⟩
abbrev cX7_owes : ByteArray := prog_1_method_5_code
def yX7_owes : MethodName := ⟨RX7, "owes", "(II)I"⟩
abbrev cX7_weight : ByteArray := prog_1_method_6_code
def yX7_weight : MethodName := ⟨RX7, "weight", "(II)I"⟩
abbrev cX7_bell : ByteArray := prog_1_method_7_code
def yX7_bell : MethodName := ⟨RX7, "bell", "(I)I"⟩
abbrev cX7_lighter : ByteArray := prog_1_method_8_code
def yX7_lighter : MethodName := ⟨RX7, "lighter", "(I)I"⟩
abbrev cX7_dusks : ByteArray := prog_1_method_9_code
def yX7_dusks : MethodName := ⟨RX7, "dusks", "(I)I"⟩
abbrev cX7_later : ByteArray := prog_1_method_10_code
def yX7_later : MethodName := ⟨RX7, "later", "(II)I"⟩
abbrev cX7_dark : ByteArray := prog_1_method_11_code
def yX7_dark : MethodName := ⟨RX7, "dark", "()I"⟩
abbrev cX7_ring : ByteArray := prog_1_method_12_code
def yX7_ring : MethodName := ⟨RX7, "ring", "(I)I"⟩
abbrev cX7_walk : ByteArray := prog_1_method_13_code
def yX7_walk : MethodName := ⟨RX7, "walk", "(IIIIII)I"⟩
abbrev cX7_stepsAlong : ByteArray := prog_1_method_14_code
def yX7_stepsAlong : MethodName := ⟨RX7, "stepsAlong", "(ILDebtLamps$Sheet;II)I"⟩
abbrev cX7_lampsLeft : ByteArray := prog_1_method_15_code
def yX7_lampsLeft : MethodName := ⟨RX7, "lampsLeft", "(ILDebtLamps$Sheet;II)I"⟩
abbrev cX7_doorsTillRoundIsDone : ByteArray := prog_1_method_16_code
def yX7_doorsTillRoundIsDone : MethodName := ⟨RX7, "doorsTillRoundIsDone", "(ILDebtLamps$Sheet;II)I"⟩
abbrev cX7_free : ByteArray := prog_1_method_17_code
def yX7_free : MethodName := ⟨RX7, "free", "(I)I"⟩
abbrev cX7_haste : ByteArray := prog_1_method_18_code
def yX7_haste : MethodName := ⟨RX7, "haste", "()I"⟩
abbrev cX7_reading : ByteArray := prog_1_method_19_code
def yX7_reading : MethodName := ⟨RX7, "reading", "(III)I"⟩
abbrev cX7_back : ByteArray := prog_1_method_20_code
def yX7_back : MethodName := ⟨RX7, "back", "(I)I"⟩
abbrev cX7_debts : ByteArray := prog_1_method_21_code
def yX7_debts : MethodName := ⟨RX7, "debts", "(II)I"⟩
abbrev cX7_kinds : ByteArray := prog_1_method_22_code
def yX7_kinds : MethodName := ⟨RX7, "kinds", "(I)I"⟩
abbrev cX7_bells : ByteArray := prog_1_method_23_code
def yX7_bells : MethodName := ⟨RX7, "bells", "()I"⟩
abbrev cX7_odds : ByteArray := prog_1_method_24_code
def yX7_odds : MethodName := ⟨RX7, "odds", "(III)J"⟩
abbrev cX7_sheet : ByteArray := prog_1_method_25_code
def yX7_sheet : MethodName := ⟨RX7, "sheet", "(III)I"⟩
abbrev cX7_lose : ByteArray := prog_1_method_26_code
def yX7_lose : MethodName := ⟨RX7, "lose", "(I)I"⟩
abbrev cX7_put : ByteArray := prog_1_method_27_code
def yX7_put : MethodName := ⟨RX7, "put", "(III)I"⟩
abbrev cX7_cell : ByteArray := prog_1_method_28_code
def yX7_cell : MethodName := ⟨RX7, "cell", "(III)J"⟩
abbrev cX7_copy : ByteArray := prog_1_method_29_code
def yX7_copy : MethodName := ⟨RX7, "copy", "(IIIII)I"⟩
abbrev cX7_tell : ByteArray := prog_1_method_30_code
def yX7_tell : MethodName := ⟨RX7, "tell", "(I)I"⟩
abbrev cX7_hail : ByteArray := prog_1_method_31_code
def yX7_hail : MethodName := ⟨RX7, "hail", "(I)I"⟩
abbrev cX7_as : ByteArray := prog_1_method_32_code
def yX7_as : MethodName := ⟨RX7, "as", "(II)I"⟩
abbrev cX7_trace : ByteArray := prog_1_method_33_code
def yX7_trace : MethodName := ⟨RX7, "trace", "()I"⟩
abbrev cX7_fault : ByteArray := prog_1_method_34_code
def yX7_fault : MethodName := ⟨RX7, "fault", "()I"⟩
abbrev cX7_many : ByteArray := prog_1_method_35_code
def yX7_many : MethodName := ⟨RX7, "many", "(I)I"⟩
abbrev cX7_hasTown : ByteArray := prog_1_method_36_code
def yX7_hasTown : MethodName := ⟨RX7, "hasTown", "()Z"⟩
abbrev cX7_isPerson : ByteArray := prog_1_method_37_code
def yX7_isPerson : MethodName := ⟨RX7, "isPerson", "(I)Z"⟩
abbrev cX7_isSheet : ByteArray := prog_1_method_38_code
def yX7_isSheet : MethodName := ⟨RX7, "isSheet", "(I)Z"⟩
abbrev cX7_isWithin : ByteArray := prog_1_method_39_code
def yX7_isWithin : MethodName := ⟨RX7, "isWithin", "(II)Z"⟩
abbrev cX7_faulted : ByteArray := prog_1_method_40_code
def yX7_faulted : MethodName := ⟨RX7, "faulted", "(I)I"⟩
abbrev cX7_lostBy : ByteArray := prog_1_method_41_code
def yX7_lostBy : MethodName := ⟨RX7, "lostBy", "(I)J"⟩
def RX8 : String := "DebtLampsModel"
def TX8 : u_T := fun k => match k with
  | 0 => ("DebtLampsModel", "fault", "I", false)
  | 1 => ("DebtLampsModel", "trace", "I", false)
  | 2 => ("DebtLampsModel", "sorts", "[I", true)
  | 3 => ("DebtLampsModel", "sheetLong", "[I", true)
  | 4 => ("DebtLampsModel", "cells", "[I", true)
  | 5 => ("DebtLampsModel", "people", "I", false)
  | 6 => ("DebtLampsModel", "bell", "I", false)
  | 7 => ("DebtLampsModel", "kind", "[I", true)
  | 8 => ("DebtLampsModel", "pence", "[I", true)
  | 9 => ("DebtLampsModel", "at", "I", false)
  | 10 => ("DebtLampsModel", "readMany", "I", false)
  | 11 => ("DebtLampsModel", "readBell", "I", false)
  | 12 => ("DebtLampsModel", "readKind", "[I", true)
  | 13 => ("DebtLampsModel", "readPence", "[I", true)
  | 14 => ("DebtLampsModel", "lighters", "[I", true)
  | 15 => ("DebtLampsModel", "inTime", "[Z", true)
  | 16 => ("DebtLampsModel", "kept", "[I", true)
  | 17 => ("DebtLampsModel", "readings", "I", false)
  | 18 => ("DebtLampsModel", "readDusk", "[I", true)
  | 19 => ("DebtLampsModel", "readLamp", "[I", true)
  | _ => ("DebtLampsModel", "readLighter", "[I", true)
def tyX8 : Nat → FieldType := fun k => match k with
  | 0 => .int
  | 1 => .int
  | 2 => .array .int
  | 3 => .array .int
  | 4 => .array .int
  | 5 => .int
  | 6 => .int
  | 7 => .array .int
  | 8 => .array .int
  | 9 => .int
  | 10 => .int
  | 11 => .int
  | 12 => .array .int
  | 13 => .array .int
  | 14 => .array .int
  | 15 => .array .boolean
  | 16 => .array .int
  | 17 => .int
  | 18 => .array .int
  | 19 => .array .int
  | _ => .array .int
abbrev wsX80 : List Cond := u_ws RX8 TX8 21
theorem nmX8 : ∀ a, a < 21 → ∀ b, b < 21 → a ≠ b → (TX8 a).2.1 ≠ (TX8 b).2.1 := by decide +kernel
theorem tyX8_ok : ∀ k, k < 21 → parseFieldDescriptor (TX8 k).2.2.1 = some (tyX8 k) := by decide +kernel
abbrev cX8_init : ByteArray := prog_10_method_1_code
def yX8_init : MethodName := ⟨RX8, "<init>", "()V"⟩
abbrev cX8_fails : ByteArray := prog_10_method_3_code
def yX8_fails : MethodName := ⟨RX8, "fails", "(I)I"⟩
abbrev cX8_lost : ByteArray := prog_10_method_4_code
def yX8_lost : MethodName := ⟨RX8, "lost", "(I)J"⟩
abbrev cX8_within : ByteArray := prog_10_method_5_code
def yX8_within : MethodName := ⟨RX8, "within", "(III)Z"⟩
abbrev cX8_isSheet : ByteArray := prog_10_method_6_code
def yX8_isSheet : MethodName := ⟨RX8, "isSheet", "(I)Z"⟩
abbrev cX8_isSort : ByteArray := prog_10_method_7_code
def yX8_isSort : MethodName := ⟨RX8, "isSort", "(I)Z"⟩
abbrev cX8_against : ByteArray := prog_10_method_8_code
def yX8_against : MethodName := ⟨RX8, "against", "(IIII)I"⟩
abbrev cX8_isPerson : ByteArray := prog_10_method_9_code
def yX8_isPerson : MethodName := ⟨RX8, "isPerson", "(I)Z"⟩
abbrev cX8_areTwo : ByteArray := prog_10_method_10_code
def yX8_areTwo : MethodName := ⟨RX8, "areTwo", "(II)Z"⟩
abbrev cX8_spot : ByteArray := prog_10_method_11_code
def yX8_spot : MethodName := ⟨RX8, "spot", "(II)I"⟩
abbrev cX8_digit : ByteArray := prog_10_method_12_code
def yX8_digit : MethodName := ⟨RX8, "digit", "(III)I"⟩
abbrev cX8_isSign : ByteArray := prog_10_method_13_code
def yX8_isSign : MethodName := ⟨RX8, "isSign", "(II)Z"⟩
abbrev cX8_town : ByteArray := prog_10_method_14_code
def yX8_town : MethodName := ⟨RX8, "town", "(IIII)I"⟩
abbrev cX8_readTown : ByteArray := prog_10_method_15_code
def yX8_readTown : MethodName := ⟨RX8, "readTown", "(I)Z"⟩
abbrev cX8_readPerson : ByteArray := prog_10_method_16_code
def yX8_readPerson : MethodName := ⟨RX8, "readPerson", "(II)Z"⟩
abbrev cX8_weightOf : ByteArray := prog_10_method_17_code
def yX8_weightOf : MethodName := ⟨RX8, "weightOf", "(II)I"⟩
abbrev cX8_lighterOf : ByteArray := prog_10_method_18_code
def yX8_lighterOf : MethodName := ⟨RX8, "lighterOf", "(I)I"⟩
abbrev cX8_roundOf : ByteArray := prog_10_method_19_code
def yX8_roundOf : MethodName := ⟨RX8, "roundOf", "(I)I"⟩
abbrev cX8_steps : ByteArray := prog_10_method_20_code
def yX8_steps : MethodName := ⟨RX8, "steps", "(II)I"⟩
abbrev cX8_isInTime : ByteArray := prog_10_method_21_code
def yX8_isInTime : MethodName := ⟨RX8, "isInTime", "(I)Z"⟩
abbrev cX8_owesAll : ByteArray := prog_10_method_22_code
def yX8_owesAll : MethodName := ⟨RX8, "owesAll", "(I)I"⟩
abbrev cX8_ofPerson : ByteArray := prog_10_method_23_code
def yX8_ofPerson : MethodName := ⟨RX8, "ofPerson", "(II)I"⟩
abbrev cX8_owe : ByteArray := prog_10_method_24_code
def yX8_owe : MethodName := ⟨RX8, "owe", "(III)I"⟩
abbrev cX8_owes : ByteArray := prog_10_method_25_code
def yX8_owes : MethodName := ⟨RX8, "owes", "(II)I"⟩
abbrev cX8_weight : ByteArray := prog_10_method_26_code
def yX8_weight : MethodName := ⟨RX8, "weight", "(II)I"⟩
abbrev cX8_bell : ByteArray := prog_10_method_27_code
def yX8_bell : MethodName := ⟨RX8, "bell", "(I)I"⟩
abbrev cX8_lighter : ByteArray := prog_10_method_28_code
def yX8_lighter : MethodName := ⟨RX8, "lighter", "(I)I"⟩
abbrev cX8_lit : ByteArray := prog_10_method_29_code
def yX8_lit : MethodName := ⟨RX8, "lit", "()I"⟩
abbrev cX8_goDusk : ByteArray := prog_10_method_30_code
def yX8_goDusk : MethodName := ⟨RX8, "goDusk", "()V"⟩
abbrev cX8_dusks : ByteArray := prog_10_method_31_code
def yX8_dusks : MethodName := ⟨RX8, "dusks", "(I)I"⟩
abbrev cX8_keep : ByteArray := prog_10_method_32_code
def yX8_keep : MethodName := ⟨RX8, "keep", "()V"⟩
abbrev cX8_restore : ByteArray := prog_10_method_33_code
def yX8_restore : MethodName := ⟨RX8, "restore", "()V"⟩
abbrev cX8_later : ByteArray := prog_10_method_34_code
def yX8_later : MethodName := ⟨RX8, "later", "(II)I"⟩
abbrev cX8_dark : ByteArray := prog_10_method_35_code
def yX8_dark : MethodName := ⟨RX8, "dark", "()I"⟩
abbrev cX8_ring : ByteArray := prog_10_method_36_code
def yX8_ring : MethodName := ⟨RX8, "ring", "(I)I"⟩
abbrev cX8_walk : ByteArray := prog_10_method_37_code
def yX8_walk : MethodName := ⟨RX8, "walk", "(IIIIII)I"⟩
abbrev cX8_walkOf : ByteArray := prog_10_method_38_code
def yX8_walkOf : MethodName := ⟨RX8, "walkOf", "(IIII)I"⟩
abbrev cX8_free : ByteArray := prog_10_method_39_code
def yX8_free : MethodName := ⟨RX8, "free", "(I)I"⟩
abbrev cX8_haste : ByteArray := prog_10_method_40_code
def yX8_haste : MethodName := ⟨RX8, "haste", "()I"⟩
abbrev cX8_reading : ByteArray := prog_10_method_41_code
def yX8_reading : MethodName := ⟨RX8, "reading", "(III)I"⟩
abbrev cX8_back : ByteArray := prog_10_method_42_code
def yX8_back : MethodName := ⟨RX8, "back", "(I)I"⟩
abbrev cX8_areSo : ByteArray := prog_10_method_43_code
def yX8_areSo : MethodName := ⟨RX8, "areSo", "()Z"⟩
abbrev cX8_debts : ByteArray := prog_10_method_44_code
def yX8_debts : MethodName := ⟨RX8, "debts", "(II)I"⟩
abbrev cX8_kinds : ByteArray := prog_10_method_45_code
def yX8_kinds : MethodName := ⟨RX8, "kinds", "(I)I"⟩
abbrev cX8_bells : ByteArray := prog_10_method_46_code
def yX8_bells : MethodName := ⟨RX8, "bells", "()I"⟩
abbrev cX8_inLeastTerms : ByteArray := prog_10_method_47_code
def yX8_inLeastTerms : MethodName := ⟨RX8, "inLeastTerms", "(JJI)J"⟩
abbrev cX8_odds : ByteArray := prog_10_method_48_code
def yX8_odds : MethodName := ⟨RX8, "odds", "(III)J"⟩
abbrev cX8_sheet : ByteArray := prog_10_method_49_code
def yX8_sheet : MethodName := ⟨RX8, "sheet", "(III)I"⟩
abbrev cX8_lose : ByteArray := prog_10_method_50_code
def yX8_lose : MethodName := ⟨RX8, "lose", "(I)I"⟩
abbrev cX8_put : ByteArray := prog_10_method_51_code
def yX8_put : MethodName := ⟨RX8, "put", "(III)I"⟩
abbrev cX8_cell : ByteArray := prog_10_method_52_code
def yX8_cell : MethodName := ⟨RX8, "cell", "(III)J"⟩
abbrev cX8_copy : ByteArray := prog_10_method_53_code
def yX8_copy : MethodName := ⟨RX8, "copy", "(IIIII)I"⟩
abbrev cX8_begins : ByteArray := prog_10_method_54_code
def yX8_begins : MethodName := ⟨RX8, "begins", "(I)V"⟩
abbrev cX8_tell : ByteArray := prog_10_method_55_code
def yX8_tell : MethodName := ⟨RX8, "tell", "(I)I"⟩
abbrev cX8_hail : ByteArray := prog_10_method_56_code
def yX8_hail : MethodName := ⟨RX8, "hail", "(I)I"⟩
abbrev cX8_as : ByteArray := prog_10_method_57_code
def yX8_as : MethodName := ⟨RX8, "as", "(II)I"⟩
abbrev cX8_trace : ByteArray := prog_10_method_58_code
def yX8_trace : MethodName := ⟨RX8, "trace", "()I"⟩
abbrev cX8_fault : ByteArray := prog_10_method_59_code
def yX8_fault : MethodName := ⟨RX8, "fault", "()I"⟩
abbrev cX8_litNow : ByteArray := prog_10_method_60_code
def yX8_litNow : MethodName := ⟨RX8, "litNow", "()I"⟩
abbrev cX8_many : ByteArray := prog_10_method_61_code
def yX8_many : MethodName := ⟨RX8, "many", "(I)I"⟩
def RJ6 : String := "java/lang/Integer"
def TJ6 : u_T := fun k => match k with
  | _ => ("", "", "", false)
def tyJ6 : Nat → FieldType := fun k => match k with
  | _ => .int
abbrev wsJ60 : List Cond := u_ws RJ6 TJ6 0
theorem nmJ6 : ∀ a, a < 0 → ∀ b, b < 0 → a ≠ b → (TJ6 a).2.1 ≠ (TJ6 b).2.1 := by decide +kernel
theorem tyJ6_ok : ∀ k, k < 0 → parseFieldDescriptor (TJ6 k).2.2.1 = some (tyJ6 k) := by decide +kernel
abbrev cJ6_bitCount_0f7a4 : ByteArray := prog_11_method_49_code
def yJ6_bitCount_0f7a4 : MethodName := ⟨RJ6, "bitCount", "(I)I"⟩
def RJ9 : String := "java/lang/Math"
def TJ9 : u_T := fun k => match k with
  | _ => ("", "", "", false)
def tyJ9 : Nat → FieldType := fun k => match k with
  | _ => .int
abbrev wsJ90 : List Cond := u_ws RJ9 TJ9 0
theorem nmJ9 : ∀ a, a < 0 → ∀ b, b < 0 → a ≠ b → (TJ9 a).2.1 ≠ (TJ9 b).2.1 := by decide +kernel
theorem tyJ9_ok : ∀ k, k < 0 → parseFieldDescriptor (TJ9 k).2.2.1 = some (tyJ9 k) := by decide +kernel
abbrev cJ9_abs_0f7a4 : ByteArray := prog_12_method_59_code
def yJ9_abs_0f7a4 : MethodName := ⟨RJ9, "abs", "(I)I"⟩
abbrev cJ9_max_7cf53 : ByteArray := prog_12_method_65_code
def yJ9_max_7cf53 : MethodName := ⟨RJ9, "max", "(II)I"⟩
abbrev cJ9_min_7cf53 : ByteArray := prog_12_method_69_code
def yJ9_min_7cf53 : MethodName := ⟨RJ9, "min", "(II)I"⟩
def RJ10 : String := "java/lang/System"
def TJ10 : u_T := fun k => match k with
  | _ => ("", "", "", false)
def tyJ10 : Nat → FieldType := fun k => match k with
  | _ => .int
abbrev wsJ100 : List Cond := u_ws RJ10 TJ10 0
theorem nmJ10 : ∀ a, a < 0 → ∀ b, b < 0 → a ≠ b → (TJ10 a).2.1 ≠ (TJ10 b).2.1 := by decide +kernel
theorem tyJ10_ok : ∀ k, k < 0 → parseFieldDescriptor (TJ10 k).2.2.1 = some (tyJ10 k) := by decide +kernel
def RL : String := "DebtLampsLaw"
abbrev cL_law : ByteArray := code
def yL_law : MethodName := ⟨RL, "law", "([I)Z"⟩
def wsX1_init : List Cond := .code yX1_init cX1_init 1 none :: ([.methodLink RX1 1 objectInit, .instanceMethod objectInit, .code objectInit ⟨#[0xb1]⟩ 1 none])
def wsX3_init : List Cond := .code yX3_init cX3_init 1 none :: ([.instanceMethod yX1_init, .initialized RX1, .code yX1_init cX1_init 1 none, .methodLink RX1 1 objectInit, .instanceMethod objectInit, .code objectInit ⟨#[0xb1]⟩ 1 none])
def wsX0_init : List Cond := .code yX0_init cX0_init 1 none :: ([.instanceMethod yX3_init, .initialized RX3, .code yX3_init cX3_init 1 none, .instanceMethod yX1_init, .initialized RX1, .code yX1_init cX1_init 1 none, .methodLink RX1 1 objectInit, .instanceMethod objectInit, .code objectInit ⟨#[0xb1]⟩ 1 none])
def wsX0_weigh : List Cond := .code yX0_weigh cX0_weigh 2 (some .int) :: ([])
def wsX6_leave : List Cond := .code yX6_leave cX6_leave 2 none :: ([.fieldLink RX6 7 "DebtLamps$Trail" "value" "I"] ++ wsX60)
def wsX1_plainTelling : List Cond := .code yX1_plainTelling cX1_plainTelling 3 (some .int) :: ([.methodLink RX1 13 yX6_leave, .instanceMethod yX6_leave, .selects RX6 yX6_leave yX6_leave, .initialized RX6, .code yX6_leave cX6_leave 2 none, .fieldLink RX6 7 "DebtLamps$Trail" "value" "I"] ++ wsX60)
def wsX3_telling : List Cond := .code yX3_telling cX3_telling 3 (some .int) :: ([.methodLink RX3 7 yX6_leave, .instanceMethod yX6_leave, .selects RX6 yX6_leave yX6_leave, .initialized RX6, .code yX6_leave cX6_leave 2 none, .fieldLink RX6 7 "DebtLamps$Trail" "value" "I", .methodLink RX3 13 ⟨"DebtLamps$Rich", "plainTelling", "(ILDebtLamps$Trail;)I"⟩, .sameMethod "DebtLamps$Rich" "DebtLamps$Person" "plainTelling" "(ILDebtLamps$Trail;)I", .selects RX0 ⟨"DebtLamps$Rich", "plainTelling", "(ILDebtLamps$Trail;)I"⟩ yX1_plainTelling, .instanceMethod yX1_plainTelling, .initialized RX1, .code yX1_plainTelling cX1_plainTelling 3 (some .int), .methodLink RX1 13 yX6_leave, .selects RX3 ⟨"DebtLamps$Rich", "plainTelling", "(ILDebtLamps$Trail;)I"⟩ yX1_plainTelling] ++ wsX60)
def wsX0_telling : List Cond := .code yX0_telling cX0_telling 4 (some .int) :: ([.methodLink RX0 7 yX6_leave, .instanceMethod yX6_leave, .selects RX6 yX6_leave yX6_leave, .initialized RX6, .code yX6_leave cX6_leave 2 none, .fieldLink RX6 7 "DebtLamps$Trail" "value" "I", .methodLink RX0 13 yX3_telling, .sameMethod "DebtLamps$Rich" "DebtLamps$Rich" "telling" "(ILDebtLamps$Trail;)I", .superclass RX0 RX3, .instanceMethod yX3_telling, .initialized RX3, .code yX3_telling cX3_telling 3 (some .int), .methodLink RX3 7 yX6_leave, .methodLink RX3 13 ⟨"DebtLamps$Rich", "plainTelling", "(ILDebtLamps$Trail;)I"⟩, .sameMethod "DebtLamps$Rich" "DebtLamps$Person" "plainTelling" "(ILDebtLamps$Trail;)I", .selects RX0 ⟨"DebtLamps$Rich", "plainTelling", "(ILDebtLamps$Trail;)I"⟩ yX1_plainTelling, .instanceMethod yX1_plainTelling, .initialized RX1, .code yX1_plainTelling cX1_plainTelling 3 (some .int), .methodLink RX1 13 yX6_leave, .selects RX3 ⟨"DebtLamps$Rich", "plainTelling", "(ILDebtLamps$Trail;)I"⟩ yX1_plainTelling, .methodLink RX0 17 ⟨"DebtLamps$Bankrupt", "plainTelling", "(ILDebtLamps$Trail;)I"⟩, .sameMethod "DebtLamps$Bankrupt" "DebtLamps$Person" "plainTelling" "(ILDebtLamps$Trail;)I", .selects RX0 ⟨"DebtLamps$Bankrupt", "plainTelling", "(ILDebtLamps$Trail;)I"⟩ yX1_plainTelling] ++ wsX60)
def wsX0_hailing : List Cond := .code yX0_hailing cX0_hailing 3 (some .int) :: ([.methodLink RX0 7 yX6_leave, .instanceMethod yX6_leave, .selects RX6 yX6_leave yX6_leave, .initialized RX6, .code yX6_leave cX6_leave 2 none, .fieldLink RX6 7 "DebtLamps$Trail" "value" "I"] ++ wsX60)
def wsX1_weigh : List Cond := .code yX1_weigh cX1_weigh 2 (some .int) :: ([])
def wsX1_telling : List Cond := .code yX1_telling cX1_telling 3 (some .int) :: ([.methodLink RX1 7 ⟨"DebtLamps$Person", "plainTelling", "(ILDebtLamps$Trail;)I"⟩, .sameMethod "DebtLamps$Person" "DebtLamps$Person" "plainTelling" "(ILDebtLamps$Trail;)I", .selects RX0 ⟨"DebtLamps$Person", "plainTelling", "(ILDebtLamps$Trail;)I"⟩ yX1_plainTelling, .instanceMethod yX1_plainTelling, .initialized RX1, .code yX1_plainTelling cX1_plainTelling 3 (some .int), .methodLink RX1 13 yX6_leave, .instanceMethod yX6_leave, .selects RX6 yX6_leave yX6_leave, .initialized RX6, .code yX6_leave cX6_leave 2 none, .fieldLink RX6 7 "DebtLamps$Trail" "value" "I", .methodLink RX1 7 yX1_plainTelling, .selects RX1 yX1_plainTelling yX1_plainTelling, .selects RX3 ⟨"DebtLamps$Person", "plainTelling", "(ILDebtLamps$Trail;)I"⟩ yX1_plainTelling] ++ wsX60)
def wsX1_hailing : List Cond := .code yX1_hailing cX1_hailing 3 (some .int) :: ([.methodLink RX1 13 yX6_leave, .instanceMethod yX6_leave, .selects RX6 yX6_leave yX6_leave, .initialized RX6, .code yX6_leave cX6_leave 2 none, .fieldLink RX6 7 "DebtLamps$Trail" "value" "I"] ++ wsX60)
def wsX2_init : List Cond := .code yX2_init cX2_init 1 none :: ([.methodLink RX2 3 objectInit, .instanceMethod objectInit, .code objectInit ⟨#[0xb1]⟩ 1 none, .arrayClass .int, .fieldLink RX2 9 "DebtLamps$Readings" "duskOf" "[I", .fieldLink RX2 15 "DebtLamps$Readings" "lampOf" "[I", .fieldLink RX2 18 "DebtLamps$Readings" "lighterOf" "[I"] ++ wsX20)
def wsX2_add : List Cond := .code yX2_add cX2_add 4 (some .int) :: ([.fieldLink RX2 21 "DebtLamps$Readings" "count" "I", .fieldLink RX2 9 "DebtLamps$Readings" "duskOf" "[I", .fieldLink RX2 15 "DebtLamps$Readings" "lampOf" "[I", .fieldLink RX2 18 "DebtLamps$Readings" "lighterOf" "[I"] ++ wsX20)
def wsX2_keepFirst : List Cond := .code yX2_keepFirst cX2_keepFirst 2 none :: ([.fieldLink RX2 21 "DebtLamps$Readings" "count" "I"] ++ wsX20)
def wsX2_latestDusk : List Cond := .code yX2_latestDusk cX2_latestDusk 3 (some .int) :: ([.fieldLink RX2 21 "DebtLamps$Readings" "count" "I", .fieldLink RX2 9 "DebtLamps$Readings" "duskOf" "[I", .methodLink RX2 42 Lib.Math.max.name, .static Lib.Math.max.name, .initialized "java/lang/Math", .code Lib.Math.max.name Lib.Math.max.code 2 (some .int)] ++ wsX20)
def wsX3_weigh : List Cond := .code yX3_weigh cX3_weigh 2 (some .int) :: ([])
def wsX5_weightOf : List Cond := .code yX5_weightOf cX5_weightOf 3 (some .int) :: ([.fieldLink RX5 18 "DebtLamps$Town" "bodies" "[LDebtLamps$Person;", .fieldLink RX5 24 "DebtLamps$Town" "kindOf" "[I", .fieldLink RX5 30 "DebtLamps$Town" "pence" "[[I", .methodLink RX5 75 ⟨"DebtLamps$Person", "weigh", "(I)I"⟩, .sameMethod "DebtLamps$Person" "DebtLamps$Person" "weigh" "(I)I", .instanceMethod ⟨"DebtLamps$Person", "weigh", "(I)I"⟩, .selects RX0 ⟨"DebtLamps$Person", "weigh", "(I)I"⟩ yX0_weigh, .instanceMethod yX0_weigh, .initialized RX0, .code yX0_weigh cX0_weigh 2 (some .int), .code yX1_weigh cX1_weigh 2 (some .int), .methodLink RX5 75 yX1_weigh, .instanceMethod yX1_weigh, .selects RX1 yX1_weigh yX1_weigh, .initialized RX1, .selects RX3 ⟨"DebtLamps$Person", "weigh", "(I)I"⟩ yX3_weigh, .instanceMethod yX3_weigh, .initialized RX3, .code yX3_weigh cX3_weigh 2 (some .int)] ++ wsX50)
def wsX5_lighterAmong_r1 : List Cond := [Cond.fieldLink RX5 40 "DebtLamps$Town" "people" "I", Cond.methodLink RX5 78 yX5_weightOf, Cond.instanceMethod yX5_weightOf, Cond.selects RX5 yX5_weightOf yX5_weightOf, Cond.initialized RX5, Cond.code yX5_weightOf cX5_weightOf 3 (some .int), Cond.fieldLink RX5 18 "DebtLamps$Town" "bodies" "[LDebtLamps$Person;", Cond.fieldLink RX5 24 "DebtLamps$Town" "kindOf" "[I", Cond.fieldLink RX5 30 "DebtLamps$Town" "pence" "[[I", Cond.methodLink RX5 75 ⟨"DebtLamps$Person", "weigh", "(I)I"⟩, Cond.sameMethod "DebtLamps$Person" "DebtLamps$Person" "weigh" "(I)I", Cond.instanceMethod ⟨"DebtLamps$Person", "weigh", "(I)I"⟩, Cond.selects RX0 ⟨"DebtLamps$Person", "weigh", "(I)I"⟩ yX0_weigh, Cond.instanceMethod yX0_weigh, Cond.initialized RX0, Cond.code yX0_weigh cX0_weigh 2 (some .int), Cond.code yX1_weigh cX1_weigh 2 (some .int), Cond.methodLink RX5 75 yX1_weigh, Cond.instanceMethod yX1_weigh, Cond.selects RX1 yX1_weigh yX1_weigh, Cond.initialized RX1, Cond.selects RX3 ⟨"DebtLamps$Person", "weigh", "(I)I"⟩ yX3_weigh, Cond.instanceMethod yX3_weigh, Cond.initialized RX3]
def wsX5_lighterAmong_r2 : List Cond := [Cond.code yX3_weigh cX3_weigh 2 (some .int)]
def wsX5_lighterAmong : List Cond := .code yX5_lighterAmong cX5_lighterAmong 7 (some .int) :: ((wsX5_lighterAmong_r1 ++ wsX5_lighterAmong_r2) ++ wsX50)
def wsX5_findLighters_r1 : List Cond := [Cond.fieldLink RX5 40 "DebtLamps$Town" "people" "I", Cond.fieldLink RX5 33 "DebtLamps$Town" "lighters" "[I", Cond.methodLink RX5 82 yX5_lighterAmong, Cond.instanceMethod yX5_lighterAmong, Cond.selects RX5 yX5_lighterAmong yX5_lighterAmong, Cond.initialized RX5, Cond.code yX5_lighterAmong cX5_lighterAmong 7 (some .int), Cond.methodLink RX5 78 yX5_weightOf, Cond.instanceMethod yX5_weightOf, Cond.selects RX5 yX5_weightOf yX5_weightOf, Cond.code yX5_weightOf cX5_weightOf 3 (some .int), Cond.fieldLink RX5 18 "DebtLamps$Town" "bodies" "[LDebtLamps$Person;", Cond.fieldLink RX5 24 "DebtLamps$Town" "kindOf" "[I", Cond.fieldLink RX5 30 "DebtLamps$Town" "pence" "[[I", Cond.methodLink RX5 75 ⟨"DebtLamps$Person", "weigh", "(I)I"⟩, Cond.sameMethod "DebtLamps$Person" "DebtLamps$Person" "weigh" "(I)I", Cond.instanceMethod ⟨"DebtLamps$Person", "weigh", "(I)I"⟩, Cond.selects RX0 ⟨"DebtLamps$Person", "weigh", "(I)I"⟩ yX0_weigh, Cond.instanceMethod yX0_weigh, Cond.initialized RX0, Cond.code yX0_weigh cX0_weigh 2 (some .int), Cond.code yX1_weigh cX1_weigh 2 (some .int), Cond.methodLink RX5 75 yX1_weigh, Cond.instanceMethod yX1_weigh]
def wsX5_findLighters_r2 : List Cond := [Cond.selects RX1 yX1_weigh yX1_weigh, Cond.initialized RX1, Cond.selects RX3 ⟨"DebtLamps$Person", "weigh", "(I)I"⟩ yX3_weigh, Cond.instanceMethod yX3_weigh, Cond.initialized RX3, Cond.code yX3_weigh cX3_weigh 2 (some .int)]
def wsX5_findLighters : List Cond := .code yX5_findLighters cX5_findLighters 2 none :: ((wsX5_findLighters_r1 ++ wsX5_findLighters_r2) ++ wsX50)
def wsX5_roundByLighters : List Cond := .code yX5_roundByLighters cX5_roundByLighters 4 (some .int) :: ([.fieldLink RX5 40 "DebtLamps$Town" "people" "I", .fieldLink RX5 33 "DebtLamps$Town" "lighters" "[I"] ++ wsX50)
def wsX5_fewestSteps : List Cond := .code yX5_fewestSteps cX5_fewestSteps 5 (some .int) :: ([.methodLink RX5 97 Lib.Math.max.name, .static Lib.Math.max.name, .initialized "java/lang/Math", .code Lib.Math.max.name Lib.Math.max.code 2 (some .int), .methodLink RX5 102 Lib.Math.min.name, .static Lib.Math.min.name, .code Lib.Math.min.name Lib.Math.min.code 2 (some .int)])
def wsX5_passDusk_r1 : List Cond := [Cond.fieldLink RX5 40 "DebtLamps$Town" "people" "I", Cond.fieldLink RX5 36 "DebtLamps$Town" "inTime" "[Z", Cond.fieldLink RX5 44 "DebtLamps$Town" "bellSteps" "I", Cond.fieldLink RX5 33 "DebtLamps$Town" "lighters" "[I", Cond.fieldLink RX5 30 "DebtLamps$Town" "pence" "[[I", Cond.methodLink RX5 97 Lib.Math.max.name, Cond.static Lib.Math.max.name, Cond.initialized "java/lang/Math", Cond.code Lib.Math.max.name Lib.Math.max.code 2 (some .int), Cond.methodLink RX5 102 Lib.Math.min.name, Cond.static Lib.Math.min.name, Cond.code Lib.Math.min.name Lib.Math.min.code 2 (some .int), Cond.methodLink RX5 85 yX5_findLighters, Cond.instanceMethod yX5_findLighters, Cond.selects RX5 yX5_findLighters yX5_findLighters, Cond.initialized RX5, Cond.code yX5_findLighters cX5_findLighters 2 none, Cond.methodLink RX5 82 yX5_lighterAmong, Cond.instanceMethod yX5_lighterAmong, Cond.selects RX5 yX5_lighterAmong yX5_lighterAmong, Cond.code yX5_lighterAmong cX5_lighterAmong 7 (some .int), Cond.methodLink RX5 78 yX5_weightOf, Cond.instanceMethod yX5_weightOf, Cond.selects RX5 yX5_weightOf yX5_weightOf]
def wsX5_passDusk_r2 : List Cond := [Cond.code yX5_weightOf cX5_weightOf 3 (some .int), Cond.fieldLink RX5 18 "DebtLamps$Town" "bodies" "[LDebtLamps$Person;", Cond.fieldLink RX5 24 "DebtLamps$Town" "kindOf" "[I", Cond.methodLink RX5 75 ⟨"DebtLamps$Person", "weigh", "(I)I"⟩, Cond.sameMethod "DebtLamps$Person" "DebtLamps$Person" "weigh" "(I)I", Cond.instanceMethod ⟨"DebtLamps$Person", "weigh", "(I)I"⟩, Cond.selects RX0 ⟨"DebtLamps$Person", "weigh", "(I)I"⟩ yX0_weigh, Cond.instanceMethod yX0_weigh, Cond.initialized RX0, Cond.code yX0_weigh cX0_weigh 2 (some .int), Cond.code yX1_weigh cX1_weigh 2 (some .int), Cond.methodLink RX5 75 yX1_weigh, Cond.instanceMethod yX1_weigh, Cond.selects RX1 yX1_weigh yX1_weigh, Cond.initialized RX1, Cond.selects RX3 ⟨"DebtLamps$Person", "weigh", "(I)I"⟩ yX3_weigh, Cond.instanceMethod yX3_weigh, Cond.initialized RX3, Cond.code yX3_weigh cX3_weigh 2 (some .int), Cond.methodLink RX5 88 yX5_roundByLighters, Cond.instanceMethod yX5_roundByLighters, Cond.selects RX5 yX5_roundByLighters yX5_roundByLighters, Cond.code yX5_roundByLighters cX5_roundByLighters 4 (some .int), Cond.methodLink RX5 94 yX5_fewestSteps]
def wsX5_passDusk_r3 : List Cond := [Cond.static yX5_fewestSteps, Cond.code yX5_fewestSteps cX5_fewestSteps 5 (some .int)]
def wsX5_passDusk : List Cond := .code yX5_passDusk cX5_passDusk 4 none :: ((wsX5_passDusk_r1 ++ (wsX5_passDusk_r2 ++ wsX5_passDusk_r3)) ++ wsX50)
def wsX2_areSoBehind_r1 : List Cond := [Cond.fieldLink RX2 21 "DebtLamps$Readings" "count" "I", Cond.fieldLink RX2 9 "DebtLamps$Readings" "duskOf" "[I", Cond.fieldLink RX2 15 "DebtLamps$Readings" "lampOf" "[I", Cond.fieldLink RX2 18 "DebtLamps$Readings" "lighterOf" "[I", Cond.methodLink RX2 38 yX5_lighterAmong, Cond.instanceMethod yX5_lighterAmong, Cond.selects RX5 yX5_lighterAmong yX5_lighterAmong, Cond.initialized RX5, Cond.code yX5_lighterAmong cX5_lighterAmong 7 (some .int), Cond.fieldLink RX5 40 "DebtLamps$Town" "people" "I", Cond.methodLink RX5 78 yX5_weightOf, Cond.instanceMethod yX5_weightOf, Cond.selects RX5 yX5_weightOf yX5_weightOf, Cond.code yX5_weightOf cX5_weightOf 3 (some .int), Cond.fieldLink RX5 18 "DebtLamps$Town" "bodies" "[LDebtLamps$Person;", Cond.fieldLink RX5 24 "DebtLamps$Town" "kindOf" "[I", Cond.fieldLink RX5 30 "DebtLamps$Town" "pence" "[[I", Cond.methodLink RX5 75 ⟨"DebtLamps$Person", "weigh", "(I)I"⟩, Cond.sameMethod "DebtLamps$Person" "DebtLamps$Person" "weigh" "(I)I", Cond.instanceMethod ⟨"DebtLamps$Person", "weigh", "(I)I"⟩, Cond.selects RX0 ⟨"DebtLamps$Person", "weigh", "(I)I"⟩ yX0_weigh, Cond.instanceMethod yX0_weigh, Cond.initialized RX0, Cond.code yX0_weigh cX0_weigh 2 (some .int)]
def wsX2_areSoBehind_r2 : List Cond := [Cond.code yX1_weigh cX1_weigh 2 (some .int), Cond.methodLink RX5 75 yX1_weigh, Cond.instanceMethod yX1_weigh, Cond.selects RX1 yX1_weigh yX1_weigh, Cond.initialized RX1, Cond.selects RX3 ⟨"DebtLamps$Person", "weigh", "(I)I"⟩ yX3_weigh, Cond.instanceMethod yX3_weigh, Cond.initialized RX3, Cond.code yX3_weigh cX3_weigh 2 (some .int)]
def wsX2_areSoBehind : List Cond := .code yX2_areSoBehind cX2_areSoBehind 4 (some .boolean) :: ((wsX2_areSoBehind_r1 ++ wsX2_areSoBehind_r2) ++ wsX20 ++ wsX50)
def wsX2_areSo_r1 : List Cond := [Cond.methodLink RX2 25 yX2_latestDusk, Cond.instanceMethod yX2_latestDusk, Cond.selects RX2 yX2_latestDusk yX2_latestDusk, Cond.initialized RX2, Cond.code yX2_latestDusk cX2_latestDusk 3 (some .int), Cond.fieldLink RX2 21 "DebtLamps$Readings" "count" "I", Cond.fieldLink RX2 9 "DebtLamps$Readings" "duskOf" "[I", Cond.methodLink RX2 42 Lib.Math.max.name, Cond.static Lib.Math.max.name, Cond.initialized "java/lang/Math", Cond.code Lib.Math.max.name Lib.Math.max.code 2 (some .int), Cond.methodLink RX2 29 yX5_passDusk, Cond.instanceMethod yX5_passDusk, Cond.selects RX5 yX5_passDusk yX5_passDusk, Cond.initialized RX5, Cond.code yX5_passDusk cX5_passDusk 4 none, Cond.fieldLink RX5 40 "DebtLamps$Town" "people" "I", Cond.fieldLink RX5 36 "DebtLamps$Town" "inTime" "[Z", Cond.fieldLink RX5 44 "DebtLamps$Town" "bellSteps" "I", Cond.fieldLink RX5 33 "DebtLamps$Town" "lighters" "[I", Cond.fieldLink RX5 30 "DebtLamps$Town" "pence" "[[I", Cond.methodLink RX5 97 Lib.Math.max.name, Cond.methodLink RX5 102 Lib.Math.min.name, Cond.static Lib.Math.min.name]
def wsX2_areSo_r2 : List Cond := [Cond.code Lib.Math.min.name Lib.Math.min.code 2 (some .int), Cond.methodLink RX5 85 yX5_findLighters, Cond.instanceMethod yX5_findLighters, Cond.selects RX5 yX5_findLighters yX5_findLighters, Cond.code yX5_findLighters cX5_findLighters 2 none, Cond.methodLink RX5 82 yX5_lighterAmong, Cond.instanceMethod yX5_lighterAmong, Cond.selects RX5 yX5_lighterAmong yX5_lighterAmong, Cond.code yX5_lighterAmong cX5_lighterAmong 7 (some .int), Cond.methodLink RX5 78 yX5_weightOf, Cond.instanceMethod yX5_weightOf, Cond.selects RX5 yX5_weightOf yX5_weightOf, Cond.code yX5_weightOf cX5_weightOf 3 (some .int), Cond.fieldLink RX5 18 "DebtLamps$Town" "bodies" "[LDebtLamps$Person;", Cond.fieldLink RX5 24 "DebtLamps$Town" "kindOf" "[I", Cond.methodLink RX5 75 ⟨"DebtLamps$Person", "weigh", "(I)I"⟩, Cond.sameMethod "DebtLamps$Person" "DebtLamps$Person" "weigh" "(I)I", Cond.instanceMethod ⟨"DebtLamps$Person", "weigh", "(I)I"⟩, Cond.selects RX0 ⟨"DebtLamps$Person", "weigh", "(I)I"⟩ yX0_weigh, Cond.instanceMethod yX0_weigh, Cond.initialized RX0, Cond.code yX0_weigh cX0_weigh 2 (some .int), Cond.code yX1_weigh cX1_weigh 2 (some .int), Cond.methodLink RX5 75 yX1_weigh]
def wsX2_areSo_r3 : List Cond := [Cond.instanceMethod yX1_weigh, Cond.selects RX1 yX1_weigh yX1_weigh, Cond.initialized RX1, Cond.selects RX3 ⟨"DebtLamps$Person", "weigh", "(I)I"⟩ yX3_weigh, Cond.instanceMethod yX3_weigh, Cond.initialized RX3, Cond.code yX3_weigh cX3_weigh 2 (some .int), Cond.methodLink RX5 88 yX5_roundByLighters, Cond.instanceMethod yX5_roundByLighters, Cond.selects RX5 yX5_roundByLighters yX5_roundByLighters, Cond.code yX5_roundByLighters cX5_roundByLighters 4 (some .int), Cond.methodLink RX5 94 yX5_fewestSteps, Cond.static yX5_fewestSteps, Cond.code yX5_fewestSteps cX5_fewestSteps 5 (some .int), Cond.methodLink RX2 34 yX2_areSoBehind, Cond.instanceMethod yX2_areSoBehind, Cond.selects RX2 yX2_areSoBehind yX2_areSoBehind, Cond.code yX2_areSoBehind cX2_areSoBehind 4 (some .boolean), Cond.fieldLink RX2 15 "DebtLamps$Readings" "lampOf" "[I", Cond.fieldLink RX2 18 "DebtLamps$Readings" "lighterOf" "[I", Cond.methodLink RX2 38 yX5_lighterAmong]
def wsX2_areSo : List Cond := .code yX2_areSo cX2_areSo 4 (some .boolean) :: ((wsX2_areSo_r1 ++ (wsX2_areSo_r2 ++ wsX2_areSo_r3)) ++ wsX20 ++ wsX50)
def wsX4_init : List Cond := .code yX4_init cX4_init 1 none :: ([.methodLink RX4 3 objectInit, .instanceMethod objectInit, .code objectInit ⟨#[0xb1]⟩ 1 none, .arrayClass .int, .fieldLink RX4 9 "DebtLamps$Sheet" "cells" "[I", .fieldLink RX4 15 "DebtLamps$Sheet" "length" "I"] ++ wsX40)
def wsX4_hasNothing : List Cond := .code yX4_hasNothing cX4_hasNothing 1 (some .boolean) :: ([.fieldLink RX4 15 "DebtLamps$Sheet" "length" "I"] ++ wsX40)
def wsX4_renew : List Cond := .code yX4_renew cX4_renew 4 none :: ([.fieldLink RX4 19 "DebtLamps$Sheet" "lane" "I", .methodLink RX4 22 Lib.Math.min.name, .static Lib.Math.min.name, .initialized "java/lang/Math", .code Lib.Math.min.name Lib.Math.min.code 2 (some .int), .methodLink RX4 28 Lib.Math.max.name, .static Lib.Math.max.name, .code Lib.Math.max.name Lib.Math.max.code 2 (some .int), .fieldLink RX4 15 "DebtLamps$Sheet" "length" "I", .fieldLink RX4 9 "DebtLamps$Sheet" "cells" "[I"] ++ wsX40)
def wsX4_loseRow : List Cond := .code yX4_loseRow cX4_loseRow 1 none :: ([.fieldLink RX4 15 "DebtLamps$Sheet" "length" "I"] ++ wsX40)
def wsX4_isOfLane : List Cond := .code yX4_isOfLane cX4_isOfLane 2 (some .boolean) :: ([.fieldLink RX4 19 "DebtLamps$Sheet" "lane" "I", .methodLink RX4 31 yX4_hasNothing, .instanceMethod yX4_hasNothing, .selects RX4 yX4_hasNothing yX4_hasNothing, .initialized RX4, .code yX4_hasNothing cX4_hasNothing 1 (some .boolean), .fieldLink RX4 15 "DebtLamps$Sheet" "length" "I"] ++ wsX40)
def wsX4_hasCell : List Cond := .code yX4_hasCell cX4_hasCell 2 (some .boolean) :: ([.fieldLink RX4 15 "DebtLamps$Sheet" "length" "I"] ++ wsX40)
def wsX4_hasCells : List Cond := .code yX4_hasCells cX4_hasCells 3 (some .boolean) :: ([.fieldLink RX4 15 "DebtLamps$Sheet" "length" "I"] ++ wsX40)
def wsX4_setCut : List Cond := .code yX4_setCut cX4_setCut 3 none :: ([.fieldLink RX4 9 "DebtLamps$Sheet" "cells" "[I", .fieldLink RX4 19 "DebtLamps$Sheet" "lane" "I", .methodLink RX4 35 yX4_hasCell, .instanceMethod yX4_hasCell, .selects RX4 yX4_hasCell yX4_hasCell, .initialized RX4, .code yX4_hasCell cX4_hasCell 2 (some .boolean), .fieldLink RX4 15 "DebtLamps$Sheet" "length" "I"] ++ wsX40)
def wsX4_valueAt : List Cond := .code yX4_valueAt cX4_valueAt 2 (some .int) :: ([.fieldLink RX4 9 "DebtLamps$Sheet" "cells" "[I", .methodLink RX4 35 yX4_hasCell, .instanceMethod yX4_hasCell, .selects RX4 yX4_hasCell yX4_hasCell, .initialized RX4, .code yX4_hasCell cX4_hasCell 2 (some .boolean), .fieldLink RX4 15 "DebtLamps$Sheet" "length" "I"] ++ wsX40)
def wsX5_init_r1 : List Cond := [Cond.methodLink RX5 3 objectInit, Cond.instanceMethod objectInit, Cond.code objectInit ⟨#[0xb1]⟩ 1 none, Cond.classLink RX5 9 RX1, Cond.instantiable RX1 0, Cond.initialized RX1, Cond.classLink RX5 12 RX3, Cond.instantiable RX3 0, Cond.initialized RX3, Cond.classLink RX5 15 RX0, Cond.instantiable RX0 0, Cond.initialized RX0, Cond.fieldLink RX5 18 "DebtLamps$Town" "bodies" "[LDebtLamps$Person;", Cond.arrayClass .int, Cond.fieldLink RX5 24 "DebtLamps$Town" "kindOf" "[I", Cond.classLink RX5 28 "[[I", Cond.fieldLink RX5 30 "DebtLamps$Town" "pence" "[[I", Cond.fieldLink RX5 33 "DebtLamps$Town" "lighters" "[I", Cond.arrayClass .boolean, Cond.fieldLink RX5 36 "DebtLamps$Town" "inTime" "[Z", Cond.instanceMethod yX1_init, Cond.code yX1_init cX1_init 1 none, Cond.methodLink RX1 1 objectInit, Cond.instanceMethod yX3_init]
def wsX5_init_r2 : List Cond := [Cond.code yX3_init cX3_init 1 none, Cond.instanceMethod yX0_init, Cond.code yX0_init cX0_init 1 none]
def wsX5_init : List Cond := .code yX5_init cX5_init 1 none :: ((wsX5_init_r1 ++ wsX5_init_r2) ++ wsX10 ++ wsX30 ++ wsX00 ++ wsX50)
def wsX5_becomeLike : List Cond := .code yX5_becomeLike cX5_becomeLike 4 none :: ([.fieldLink RX5 40 "DebtLamps$Town" "people" "I", .fieldLink RX5 44 "DebtLamps$Town" "bellSteps" "I", .fieldLink RX5 24 "DebtLamps$Town" "kindOf" "[I", .fieldLink RX5 30 "DebtLamps$Town" "pence" "[[I"] ++ wsX50)
def wsX5_takesPeople : List Cond := .code yX5_takesPeople cX5_takesPeople 2 (some .boolean) :: ([.fieldLink RX5 40 "DebtLamps$Town" "people" "I"] ++ wsX50)
def wsX5_takesBell : List Cond := .code yX5_takesBell cX5_takesBell 2 (some .boolean) :: ([.fieldLink RX5 44 "DebtLamps$Town" "bellSteps" "I"] ++ wsX50)
def wsX5_textLength : List Cond := .code yX5_textLength cX5_textLength 1 (some .int) :: ([.fieldLink RX5 40 "DebtLamps$Town" "people" "I"] ++ wsX50)
def wsX5_takesKind : List Cond := .code yX5_takesKind cX5_takesKind 4 (some .boolean) :: ([.fieldLink RX5 24 "DebtLamps$Town" "kindOf" "[I"] ++ wsX50)
def wsX5_takesPence : List Cond := .code yX5_takesPence cX5_takesPence 5 (some .boolean) :: ([.fieldLink RX5 30 "DebtLamps$Town" "pence" "[[I"] ++ wsX50)
def wsX5_takesCode_r1 : List Cond := [Cond.fieldLink RX5 40 "DebtLamps$Town" "people" "I", Cond.methodLink RX5 61 yX5_takesPeople, Cond.instanceMethod yX5_takesPeople, Cond.selects RX5 yX5_takesPeople yX5_takesPeople, Cond.initialized RX5, Cond.code yX5_takesPeople cX5_takesPeople 2 (some .boolean), Cond.methodLink RX5 65 yX5_takesBell, Cond.instanceMethod yX5_takesBell, Cond.selects RX5 yX5_takesBell yX5_takesBell, Cond.code yX5_takesBell cX5_takesBell 2 (some .boolean), Cond.fieldLink RX5 44 "DebtLamps$Town" "bellSteps" "I", Cond.methodLink RX5 57 yX5_textLength, Cond.instanceMethod yX5_textLength, Cond.selects RX5 yX5_textLength yX5_textLength, Cond.code yX5_textLength cX5_textLength 1 (some .int), Cond.methodLink RX5 68 yX5_takesKind, Cond.instanceMethod yX5_takesKind, Cond.selects RX5 yX5_takesKind yX5_takesKind, Cond.code yX5_takesKind cX5_takesKind 4 (some .boolean), Cond.fieldLink RX5 24 "DebtLamps$Town" "kindOf" "[I", Cond.methodLink RX5 71 yX5_takesPence, Cond.instanceMethod yX5_takesPence, Cond.selects RX5 yX5_takesPence yX5_takesPence, Cond.code yX5_takesPence cX5_takesPence 5 (some .boolean)]
def wsX5_takesCode_r2 : List Cond := [Cond.fieldLink RX5 30 "DebtLamps$Town" "pence" "[[I"]
def wsX5_takesCode : List Cond := .code yX5_takesCode cX5_takesCode 6 (some .boolean) :: ((wsX5_takesCode_r1 ++ wsX5_takesCode_r2) ++ wsX50)
def wsX5_readText_r1 : List Cond := [Cond.fieldLink RX5 40 "DebtLamps$Town" "people" "I", Cond.methodLink RX5 47 yX4_valueAt, Cond.instanceMethod yX4_valueAt, Cond.selects RX4 yX4_valueAt yX4_valueAt, Cond.initialized RX4, Cond.code yX4_valueAt cX4_valueAt 2 (some .int), Cond.fieldLink RX4 9 "DebtLamps$Sheet" "cells" "[I", Cond.methodLink RX4 35 yX4_hasCell, Cond.instanceMethod yX4_hasCell, Cond.selects RX4 yX4_hasCell yX4_hasCell, Cond.code yX4_hasCell cX4_hasCell 2 (some .boolean), Cond.fieldLink RX4 15 "DebtLamps$Sheet" "length" "I", Cond.methodLink RX5 53 yX5_takesCode, Cond.instanceMethod yX5_takesCode, Cond.selects RX5 yX5_takesCode yX5_takesCode, Cond.initialized RX5, Cond.code yX5_takesCode cX5_takesCode 6 (some .boolean), Cond.methodLink RX5 61 yX5_takesPeople, Cond.instanceMethod yX5_takesPeople, Cond.selects RX5 yX5_takesPeople yX5_takesPeople, Cond.code yX5_takesPeople cX5_takesPeople 2 (some .boolean), Cond.methodLink RX5 65 yX5_takesBell, Cond.instanceMethod yX5_takesBell, Cond.selects RX5 yX5_takesBell yX5_takesBell]
def wsX5_readText_r2 : List Cond := [Cond.code yX5_takesBell cX5_takesBell 2 (some .boolean), Cond.fieldLink RX5 44 "DebtLamps$Town" "bellSteps" "I", Cond.methodLink RX5 57 yX5_textLength, Cond.instanceMethod yX5_textLength, Cond.selects RX5 yX5_textLength yX5_textLength, Cond.code yX5_textLength cX5_textLength 1 (some .int), Cond.methodLink RX5 68 yX5_takesKind, Cond.instanceMethod yX5_takesKind, Cond.selects RX5 yX5_takesKind yX5_takesKind, Cond.code yX5_takesKind cX5_takesKind 4 (some .boolean), Cond.fieldLink RX5 24 "DebtLamps$Town" "kindOf" "[I", Cond.methodLink RX5 71 yX5_takesPence, Cond.instanceMethod yX5_takesPence, Cond.selects RX5 yX5_takesPence yX5_takesPence, Cond.code yX5_takesPence cX5_takesPence 5 (some .boolean), Cond.fieldLink RX5 30 "DebtLamps$Town" "pence" "[[I"]
def wsX5_readText : List Cond := .code yX5_readText cX5_readText 5 (some .int) :: ((wsX5_readText_r1 ++ wsX5_readText_r2) ++ wsX50 ++ wsX40)
def wsX5_penceInAll : List Cond := .code yX5_penceInAll cX5_penceInAll 4 (some .int) :: ([.fieldLink RX5 40 "DebtLamps$Town" "people" "I", .fieldLink RX5 30 "DebtLamps$Town" "pence" "[[I"] ++ wsX50)
def wsX5_bodyOf : List Cond := .code yX5_bodyOf cX5_bodyOf 2 (some (.object "DebtLamps$Person")) :: ([.fieldLink RX5 18 "DebtLamps$Town" "bodies" "[LDebtLamps$Person;", .fieldLink RX5 24 "DebtLamps$Town" "kindOf" "[I"] ++ wsX50)
def wsX5_owingTo : List Cond := .code yX5_owingTo cX5_owingTo 4 (some .int) :: ([.fieldLink RX5 40 "DebtLamps$Town" "people" "I", .fieldLink RX5 30 "DebtLamps$Town" "pence" "[[I"] ++ wsX50)
def wsX5_litLamps_r1 : List Cond := [Cond.fieldLink RX5 40 "DebtLamps$Town" "people" "I", Cond.methodLink RX5 82 yX5_lighterAmong, Cond.instanceMethod yX5_lighterAmong, Cond.selects RX5 yX5_lighterAmong yX5_lighterAmong, Cond.initialized RX5, Cond.code yX5_lighterAmong cX5_lighterAmong 7 (some .int), Cond.methodLink RX5 78 yX5_weightOf, Cond.instanceMethod yX5_weightOf, Cond.selects RX5 yX5_weightOf yX5_weightOf, Cond.code yX5_weightOf cX5_weightOf 3 (some .int), Cond.fieldLink RX5 18 "DebtLamps$Town" "bodies" "[LDebtLamps$Person;", Cond.fieldLink RX5 24 "DebtLamps$Town" "kindOf" "[I", Cond.fieldLink RX5 30 "DebtLamps$Town" "pence" "[[I", Cond.methodLink RX5 75 ⟨"DebtLamps$Person", "weigh", "(I)I"⟩, Cond.sameMethod "DebtLamps$Person" "DebtLamps$Person" "weigh" "(I)I", Cond.instanceMethod ⟨"DebtLamps$Person", "weigh", "(I)I"⟩, Cond.selects RX0 ⟨"DebtLamps$Person", "weigh", "(I)I"⟩ yX0_weigh, Cond.instanceMethod yX0_weigh, Cond.initialized RX0, Cond.code yX0_weigh cX0_weigh 2 (some .int), Cond.code yX1_weigh cX1_weigh 2 (some .int), Cond.methodLink RX5 75 yX1_weigh, Cond.instanceMethod yX1_weigh, Cond.selects RX1 yX1_weigh yX1_weigh]
def wsX5_litLamps_r2 : List Cond := [Cond.initialized RX1, Cond.selects RX3 ⟨"DebtLamps$Person", "weigh", "(I)I"⟩ yX3_weigh, Cond.instanceMethod yX3_weigh, Cond.initialized RX3, Cond.code yX3_weigh cX3_weigh 2 (some .int)]
def wsX5_litLamps : List Cond := .code yX5_litLamps cX5_litLamps 3 (some .int) :: ((wsX5_litLamps_r1 ++ wsX5_litLamps_r2) ++ wsX50)
def wsX5_roundOf_r1 : List Cond := [Cond.methodLink RX5 85 yX5_findLighters, Cond.instanceMethod yX5_findLighters, Cond.selects RX5 yX5_findLighters yX5_findLighters, Cond.initialized RX5, Cond.code yX5_findLighters cX5_findLighters 2 none, Cond.fieldLink RX5 40 "DebtLamps$Town" "people" "I", Cond.fieldLink RX5 33 "DebtLamps$Town" "lighters" "[I", Cond.methodLink RX5 82 yX5_lighterAmong, Cond.instanceMethod yX5_lighterAmong, Cond.selects RX5 yX5_lighterAmong yX5_lighterAmong, Cond.code yX5_lighterAmong cX5_lighterAmong 7 (some .int), Cond.methodLink RX5 78 yX5_weightOf, Cond.instanceMethod yX5_weightOf, Cond.selects RX5 yX5_weightOf yX5_weightOf, Cond.code yX5_weightOf cX5_weightOf 3 (some .int), Cond.fieldLink RX5 18 "DebtLamps$Town" "bodies" "[LDebtLamps$Person;", Cond.fieldLink RX5 24 "DebtLamps$Town" "kindOf" "[I", Cond.fieldLink RX5 30 "DebtLamps$Town" "pence" "[[I", Cond.methodLink RX5 75 ⟨"DebtLamps$Person", "weigh", "(I)I"⟩, Cond.sameMethod "DebtLamps$Person" "DebtLamps$Person" "weigh" "(I)I", Cond.instanceMethod ⟨"DebtLamps$Person", "weigh", "(I)I"⟩, Cond.selects RX0 ⟨"DebtLamps$Person", "weigh", "(I)I"⟩ yX0_weigh, Cond.instanceMethod yX0_weigh, Cond.initialized RX0]
def wsX5_roundOf_r2 : List Cond := [Cond.code yX0_weigh cX0_weigh 2 (some .int), Cond.code yX1_weigh cX1_weigh 2 (some .int), Cond.methodLink RX5 75 yX1_weigh, Cond.instanceMethod yX1_weigh, Cond.selects RX1 yX1_weigh yX1_weigh, Cond.initialized RX1, Cond.selects RX3 ⟨"DebtLamps$Person", "weigh", "(I)I"⟩ yX3_weigh, Cond.instanceMethod yX3_weigh, Cond.initialized RX3, Cond.code yX3_weigh cX3_weigh 2 (some .int), Cond.methodLink RX5 88 yX5_roundByLighters, Cond.instanceMethod yX5_roundByLighters, Cond.selects RX5 yX5_roundByLighters yX5_roundByLighters, Cond.code yX5_roundByLighters cX5_roundByLighters 4 (some .int)]
def wsX5_roundOf : List Cond := .code yX5_roundOf cX5_roundOf 2 (some .int) :: ((wsX5_roundOf_r1 ++ wsX5_roundOf_r2) ++ wsX50)
def wsX5_stepsOf_r1 : List Cond := [Cond.methodLink RX5 91 yX5_roundOf, Cond.instanceMethod yX5_roundOf, Cond.selects RX5 yX5_roundOf yX5_roundOf, Cond.initialized RX5, Cond.code yX5_roundOf cX5_roundOf 2 (some .int), Cond.methodLink RX5 85 yX5_findLighters, Cond.instanceMethod yX5_findLighters, Cond.selects RX5 yX5_findLighters yX5_findLighters, Cond.code yX5_findLighters cX5_findLighters 2 none, Cond.fieldLink RX5 40 "DebtLamps$Town" "people" "I", Cond.fieldLink RX5 33 "DebtLamps$Town" "lighters" "[I", Cond.methodLink RX5 82 yX5_lighterAmong, Cond.instanceMethod yX5_lighterAmong, Cond.selects RX5 yX5_lighterAmong yX5_lighterAmong, Cond.code yX5_lighterAmong cX5_lighterAmong 7 (some .int), Cond.methodLink RX5 78 yX5_weightOf, Cond.instanceMethod yX5_weightOf, Cond.selects RX5 yX5_weightOf yX5_weightOf, Cond.code yX5_weightOf cX5_weightOf 3 (some .int), Cond.fieldLink RX5 18 "DebtLamps$Town" "bodies" "[LDebtLamps$Person;", Cond.fieldLink RX5 24 "DebtLamps$Town" "kindOf" "[I", Cond.fieldLink RX5 30 "DebtLamps$Town" "pence" "[[I", Cond.methodLink RX5 75 ⟨"DebtLamps$Person", "weigh", "(I)I"⟩, Cond.sameMethod "DebtLamps$Person" "DebtLamps$Person" "weigh" "(I)I"]
def wsX5_stepsOf_r2 : List Cond := [Cond.instanceMethod ⟨"DebtLamps$Person", "weigh", "(I)I"⟩, Cond.selects RX0 ⟨"DebtLamps$Person", "weigh", "(I)I"⟩ yX0_weigh, Cond.instanceMethod yX0_weigh, Cond.initialized RX0, Cond.code yX0_weigh cX0_weigh 2 (some .int), Cond.code yX1_weigh cX1_weigh 2 (some .int), Cond.methodLink RX5 75 yX1_weigh, Cond.instanceMethod yX1_weigh, Cond.selects RX1 yX1_weigh yX1_weigh, Cond.initialized RX1, Cond.selects RX3 ⟨"DebtLamps$Person", "weigh", "(I)I"⟩ yX3_weigh, Cond.instanceMethod yX3_weigh, Cond.initialized RX3, Cond.code yX3_weigh cX3_weigh 2 (some .int), Cond.methodLink RX5 88 yX5_roundByLighters, Cond.instanceMethod yX5_roundByLighters, Cond.selects RX5 yX5_roundByLighters yX5_roundByLighters, Cond.code yX5_roundByLighters cX5_roundByLighters 4 (some .int), Cond.methodLink RX5 94 yX5_fewestSteps, Cond.static yX5_fewestSteps, Cond.code yX5_fewestSteps cX5_fewestSteps 5 (some .int), Cond.methodLink RX5 97 Lib.Math.max.name, Cond.static Lib.Math.max.name, Cond.initialized "java/lang/Math"]
def wsX5_stepsOf_r3 : List Cond := [Cond.code Lib.Math.max.name Lib.Math.max.code 2 (some .int), Cond.methodLink RX5 102 Lib.Math.min.name, Cond.static Lib.Math.min.name, Cond.code Lib.Math.min.name Lib.Math.min.code 2 (some .int)]
def wsX5_stepsOf : List Cond := .code yX5_stepsOf cX5_stepsOf 2 (some .int) :: ((wsX5_stepsOf_r1 ++ (wsX5_stepsOf_r2 ++ wsX5_stepsOf_r3)) ++ wsX50)
def wsX5_payTillLighterOfNone_r1 : List Cond := [Cond.fieldLink RX5 40 "DebtLamps$Town" "people" "I", Cond.fieldLink RX5 30 "DebtLamps$Town" "pence" "[[I", Cond.methodLink RX5 82 yX5_lighterAmong, Cond.instanceMethod yX5_lighterAmong, Cond.selects RX5 yX5_lighterAmong yX5_lighterAmong, Cond.initialized RX5, Cond.code yX5_lighterAmong cX5_lighterAmong 7 (some .int), Cond.methodLink RX5 78 yX5_weightOf, Cond.instanceMethod yX5_weightOf, Cond.selects RX5 yX5_weightOf yX5_weightOf, Cond.code yX5_weightOf cX5_weightOf 3 (some .int), Cond.fieldLink RX5 18 "DebtLamps$Town" "bodies" "[LDebtLamps$Person;", Cond.fieldLink RX5 24 "DebtLamps$Town" "kindOf" "[I", Cond.methodLink RX5 75 ⟨"DebtLamps$Person", "weigh", "(I)I"⟩, Cond.sameMethod "DebtLamps$Person" "DebtLamps$Person" "weigh" "(I)I", Cond.instanceMethod ⟨"DebtLamps$Person", "weigh", "(I)I"⟩, Cond.selects RX0 ⟨"DebtLamps$Person", "weigh", "(I)I"⟩ yX0_weigh, Cond.instanceMethod yX0_weigh, Cond.initialized RX0, Cond.code yX0_weigh cX0_weigh 2 (some .int), Cond.code yX1_weigh cX1_weigh 2 (some .int), Cond.methodLink RX5 75 yX1_weigh, Cond.instanceMethod yX1_weigh, Cond.selects RX1 yX1_weigh yX1_weigh]
def wsX5_payTillLighterOfNone_r2 : List Cond := [Cond.initialized RX1, Cond.selects RX3 ⟨"DebtLamps$Person", "weigh", "(I)I"⟩ yX3_weigh, Cond.instanceMethod yX3_weigh, Cond.initialized RX3, Cond.code yX3_weigh cX3_weigh 2 (some .int)]
def wsX5_payTillLighterOfNone : List Cond := .code yX5_payTillLighterOfNone cX5_payTillLighterOfNone 5 (some .int) :: ((wsX5_payTillLighterOfNone_r1 ++ wsX5_payTillLighterOfNone_r2) ++ wsX50)
def wsX6_init : List Cond := .code yX6_init cX6_init 1 none :: ([.methodLink RX6 1 objectInit, .instanceMethod objectInit, .code objectInit ⟨#[0xb1]⟩ 1 none])
def wsX7_init_r1 : List Cond := [Cond.methodLink RX7 3 objectInit, Cond.instanceMethod objectInit, Cond.code objectInit ⟨#[0xb1]⟩ 1 none, Cond.classLink RX7 9 RX5, Cond.instantiable RX5 7, Cond.initialized RX5, Cond.fieldLink RX7 12 "DebtLamps" "now" "LDebtLamps$Town;", Cond.fieldLink RX7 18 "DebtLamps" "trial" "LDebtLamps$Town;", Cond.fieldLink RX7 21 "DebtLamps" "draft" "LDebtLamps$Town;", Cond.classLink RX7 24 RX6, Cond.instantiable RX6 1, Cond.initialized RX6, Cond.fieldLink RX7 27 "DebtLamps" "trail" "LDebtLamps$Trail;", Cond.classLink RX7 31 RX2, Cond.instantiable RX2 4, Cond.initialized RX2, Cond.fieldLink RX7 34 "DebtLamps" "readings" "LDebtLamps$Readings;", Cond.classLink RX7 38 RX4, Cond.instantiable RX4 3, Cond.initialized RX4, Cond.fieldLink RX7 41 "DebtLamps" "sheets" "[LDebtLamps$Sheet;", Cond.fieldLink RX7 45 "DebtLamps" "latestFault" "I", Cond.instanceMethod yX5_init, Cond.code yX5_init cX5_init 1 none]
def wsX7_init_r2 : List Cond := [Cond.methodLink RX5 3 objectInit, Cond.classLink RX5 9 RX1, Cond.instantiable RX1 0, Cond.initialized RX1, Cond.classLink RX5 12 RX3, Cond.instantiable RX3 0, Cond.initialized RX3, Cond.classLink RX5 15 RX0, Cond.instantiable RX0 0, Cond.initialized RX0, Cond.fieldLink RX5 18 "DebtLamps$Town" "bodies" "[LDebtLamps$Person;", Cond.arrayClass .int, Cond.fieldLink RX5 24 "DebtLamps$Town" "kindOf" "[I", Cond.classLink RX5 28 "[[I", Cond.fieldLink RX5 30 "DebtLamps$Town" "pence" "[[I", Cond.fieldLink RX5 33 "DebtLamps$Town" "lighters" "[I", Cond.arrayClass .boolean, Cond.fieldLink RX5 36 "DebtLamps$Town" "inTime" "[Z", Cond.instanceMethod yX1_init, Cond.code yX1_init cX1_init 1 none, Cond.methodLink RX1 1 objectInit, Cond.instanceMethod yX3_init, Cond.code yX3_init cX3_init 1 none, Cond.instanceMethod yX0_init]
def wsX7_init_r3 : List Cond := [Cond.code yX0_init cX0_init 1 none, Cond.instanceMethod yX6_init, Cond.code yX6_init cX6_init 1 none, Cond.methodLink RX6 1 objectInit, Cond.instanceMethod yX2_init, Cond.code yX2_init cX2_init 1 none, Cond.methodLink RX2 3 objectInit, Cond.fieldLink RX2 9 "DebtLamps$Readings" "duskOf" "[I", Cond.fieldLink RX2 15 "DebtLamps$Readings" "lampOf" "[I", Cond.fieldLink RX2 18 "DebtLamps$Readings" "lighterOf" "[I", Cond.instanceMethod yX4_init, Cond.code yX4_init cX4_init 1 none, Cond.methodLink RX4 3 objectInit, Cond.fieldLink RX4 9 "DebtLamps$Sheet" "cells" "[I", Cond.fieldLink RX4 15 "DebtLamps$Sheet" "length" "I"]
def wsX7_init : List Cond := .code yX7_init cX7_init 1 none :: ((wsX7_init_r1 ++ (wsX7_init_r2 ++ wsX7_init_r3)) ++ wsX50 ++ wsX70 ++ wsX60 ++ wsX20 ++ wsX40 ++ wsX10 ++ wsX30 ++ wsX00)
def wsX7_isSheet : List Cond := .code yX7_isSheet cX7_isSheet 1 (some .boolean) :: ([])
def wsX7_isWithin : List Cond := .code yX7_isWithin cX7_isWithin 2 (some .boolean) :: ([])
def wsX7_faulted : List Cond := .code yX7_faulted cX7_faulted 2 (some .int) :: ([.fieldLink RX7 45 "DebtLamps" "latestFault" "I"] ++ wsX70)
def wsX7_town_r1 : List Cond := [Cond.fieldLink RX7 45 "DebtLamps" "latestFault" "I", Cond.fieldLink RX7 41 "DebtLamps" "sheets" "[LDebtLamps$Sheet;", Cond.fieldLink RX7 21 "DebtLamps" "draft" "LDebtLamps$Town;", Cond.fieldLink RX7 12 "DebtLamps" "now" "LDebtLamps$Town;", Cond.fieldLink RX7 34 "DebtLamps" "readings" "LDebtLamps$Readings;", Cond.methodLink RX7 49 yX7_isSheet, Cond.static yX7_isSheet, Cond.initialized RX7, Cond.code yX7_isSheet cX7_isSheet 1 (some .boolean), Cond.methodLink RX7 53 yX7_isWithin, Cond.static yX7_isWithin, Cond.code yX7_isWithin cX7_isWithin 2 (some .boolean), Cond.methodLink RX7 57 yX4_isOfLane, Cond.instanceMethod yX4_isOfLane, Cond.selects RX4 yX4_isOfLane yX4_isOfLane, Cond.initialized RX4, Cond.code yX4_isOfLane cX4_isOfLane 2 (some .boolean), Cond.fieldLink RX4 19 "DebtLamps$Sheet" "lane" "I", Cond.methodLink RX4 31 yX4_hasNothing, Cond.instanceMethod yX4_hasNothing, Cond.selects RX4 yX4_hasNothing yX4_hasNothing, Cond.code yX4_hasNothing cX4_hasNothing 1 (some .boolean), Cond.fieldLink RX4 15 "DebtLamps$Sheet" "length" "I", Cond.methodLink RX7 60 yX7_faulted]
def wsX7_town_r2 : List Cond := [Cond.instanceMethod yX7_faulted, Cond.selects RX7 yX7_faulted yX7_faulted, Cond.code yX7_faulted cX7_faulted 2 (some .int), Cond.methodLink RX7 64 yX4_hasNothing, Cond.methodLink RX7 68 yX4_hasCells, Cond.instanceMethod yX4_hasCells, Cond.selects RX4 yX4_hasCells yX4_hasCells, Cond.code yX4_hasCells cX4_hasCells 3 (some .boolean), Cond.methodLink RX7 71 yX5_readText, Cond.instanceMethod yX5_readText, Cond.selects RX5 yX5_readText yX5_readText, Cond.initialized RX5, Cond.code yX5_readText cX5_readText 5 (some .int), Cond.fieldLink RX5 40 "DebtLamps$Town" "people" "I", Cond.methodLink RX5 47 yX4_valueAt, Cond.instanceMethod yX4_valueAt, Cond.selects RX4 yX4_valueAt yX4_valueAt, Cond.code yX4_valueAt cX4_valueAt 2 (some .int), Cond.fieldLink RX4 9 "DebtLamps$Sheet" "cells" "[I", Cond.methodLink RX4 35 yX4_hasCell, Cond.instanceMethod yX4_hasCell, Cond.selects RX4 yX4_hasCell yX4_hasCell, Cond.code yX4_hasCell cX4_hasCell 2 (some .boolean), Cond.methodLink RX5 53 yX5_takesCode]
def wsX7_town_r3 : List Cond := [Cond.instanceMethod yX5_takesCode, Cond.selects RX5 yX5_takesCode yX5_takesCode, Cond.code yX5_takesCode cX5_takesCode 6 (some .boolean), Cond.methodLink RX5 61 yX5_takesPeople, Cond.instanceMethod yX5_takesPeople, Cond.selects RX5 yX5_takesPeople yX5_takesPeople, Cond.code yX5_takesPeople cX5_takesPeople 2 (some .boolean), Cond.methodLink RX5 65 yX5_takesBell, Cond.instanceMethod yX5_takesBell, Cond.selects RX5 yX5_takesBell yX5_takesBell, Cond.code yX5_takesBell cX5_takesBell 2 (some .boolean), Cond.fieldLink RX5 44 "DebtLamps$Town" "bellSteps" "I", Cond.methodLink RX5 57 yX5_textLength, Cond.instanceMethod yX5_textLength, Cond.selects RX5 yX5_textLength yX5_textLength, Cond.code yX5_textLength cX5_textLength 1 (some .int), Cond.methodLink RX5 68 yX5_takesKind, Cond.instanceMethod yX5_takesKind, Cond.selects RX5 yX5_takesKind yX5_takesKind, Cond.code yX5_takesKind cX5_takesKind 4 (some .boolean), Cond.fieldLink RX5 24 "DebtLamps$Town" "kindOf" "[I", Cond.methodLink RX5 71 yX5_takesPence, Cond.instanceMethod yX5_takesPence, Cond.selects RX5 yX5_takesPence yX5_takesPence]
def wsX7_town_r4 : List Cond := [Cond.code yX5_takesPence cX5_takesPence 5 (some .boolean), Cond.fieldLink RX5 30 "DebtLamps$Town" "pence" "[[I", Cond.methodLink RX7 75 yX5_becomeLike, Cond.instanceMethod yX5_becomeLike, Cond.selects RX5 yX5_becomeLike yX5_becomeLike, Cond.code yX5_becomeLike cX5_becomeLike 4 none, Cond.methodLink RX7 79 yX2_keepFirst, Cond.instanceMethod yX2_keepFirst, Cond.selects RX2 yX2_keepFirst yX2_keepFirst, Cond.initialized RX2, Cond.code yX2_keepFirst cX2_keepFirst 2 none, Cond.fieldLink RX2 21 "DebtLamps$Readings" "count" "I"]
def wsX7_town : List Cond := .code yX7_town cX7_town 7 (some .int) :: ((wsX7_town_r1 ++ (wsX7_town_r2 ++ (wsX7_town_r3 ++ wsX7_town_r4))) ++ wsX70 ++ wsX50 ++ wsX40 ++ wsX20)
def wsX7_isPerson : List Cond := .code yX7_isPerson cX7_isPerson 2 (some .boolean) :: ([.fieldLink RX7 12 "DebtLamps" "now" "LDebtLamps$Town;"] ++ wsX70 ++ wsX50)
def wsX7_ofPerson_r1 : List Cond := [Cond.fieldLink RX7 12 "DebtLamps" "now" "LDebtLamps$Town;", Cond.methodLink RX7 86 yX7_isPerson, Cond.instanceMethod yX7_isPerson, Cond.selects RX7 yX7_isPerson yX7_isPerson, Cond.initialized RX7, Cond.code yX7_isPerson cX7_isPerson 2 (some .boolean), Cond.methodLink RX7 93 yX5_penceInAll, Cond.instanceMethod yX5_penceInAll, Cond.selects RX5 yX5_penceInAll yX5_penceInAll, Cond.initialized RX5, Cond.code yX5_penceInAll cX5_penceInAll 4 (some .int), Cond.fieldLink RX5 40 "DebtLamps$Town" "people" "I", Cond.fieldLink RX5 30 "DebtLamps$Town" "pence" "[[I", Cond.methodLink RX7 96 yX5_roundOf, Cond.instanceMethod yX5_roundOf, Cond.selects RX5 yX5_roundOf yX5_roundOf, Cond.code yX5_roundOf cX5_roundOf 2 (some .int), Cond.methodLink RX5 85 yX5_findLighters, Cond.instanceMethod yX5_findLighters, Cond.selects RX5 yX5_findLighters yX5_findLighters, Cond.code yX5_findLighters cX5_findLighters 2 none, Cond.fieldLink RX5 33 "DebtLamps$Town" "lighters" "[I", Cond.methodLink RX5 82 yX5_lighterAmong, Cond.instanceMethod yX5_lighterAmong]
def wsX7_ofPerson_r2 : List Cond := [Cond.selects RX5 yX5_lighterAmong yX5_lighterAmong, Cond.code yX5_lighterAmong cX5_lighterAmong 7 (some .int), Cond.methodLink RX5 78 yX5_weightOf, Cond.instanceMethod yX5_weightOf, Cond.selects RX5 yX5_weightOf yX5_weightOf, Cond.code yX5_weightOf cX5_weightOf 3 (some .int), Cond.fieldLink RX5 18 "DebtLamps$Town" "bodies" "[LDebtLamps$Person;", Cond.fieldLink RX5 24 "DebtLamps$Town" "kindOf" "[I", Cond.methodLink RX5 75 ⟨"DebtLamps$Person", "weigh", "(I)I"⟩, Cond.sameMethod "DebtLamps$Person" "DebtLamps$Person" "weigh" "(I)I", Cond.instanceMethod ⟨"DebtLamps$Person", "weigh", "(I)I"⟩, Cond.selects RX0 ⟨"DebtLamps$Person", "weigh", "(I)I"⟩ yX0_weigh, Cond.instanceMethod yX0_weigh, Cond.initialized RX0, Cond.code yX0_weigh cX0_weigh 2 (some .int), Cond.code yX1_weigh cX1_weigh 2 (some .int), Cond.methodLink RX5 75 yX1_weigh, Cond.instanceMethod yX1_weigh, Cond.selects RX1 yX1_weigh yX1_weigh, Cond.initialized RX1, Cond.selects RX3 ⟨"DebtLamps$Person", "weigh", "(I)I"⟩ yX3_weigh, Cond.instanceMethod yX3_weigh, Cond.initialized RX3, Cond.code yX3_weigh cX3_weigh 2 (some .int)]
def wsX7_ofPerson_r3 : List Cond := [Cond.methodLink RX5 88 yX5_roundByLighters, Cond.instanceMethod yX5_roundByLighters, Cond.selects RX5 yX5_roundByLighters yX5_roundByLighters, Cond.code yX5_roundByLighters cX5_roundByLighters 4 (some .int), Cond.methodLink RX7 99 yX5_stepsOf, Cond.instanceMethod yX5_stepsOf, Cond.selects RX5 yX5_stepsOf yX5_stepsOf, Cond.code yX5_stepsOf cX5_stepsOf 2 (some .int), Cond.methodLink RX5 91 yX5_roundOf, Cond.methodLink RX5 94 yX5_fewestSteps, Cond.static yX5_fewestSteps, Cond.code yX5_fewestSteps cX5_fewestSteps 5 (some .int), Cond.methodLink RX5 97 Lib.Math.max.name, Cond.static Lib.Math.max.name, Cond.initialized "java/lang/Math", Cond.code Lib.Math.max.name Lib.Math.max.code 2 (some .int), Cond.methodLink RX5 102 Lib.Math.min.name, Cond.static Lib.Math.min.name, Cond.code Lib.Math.min.name Lib.Math.min.code 2 (some .int)]
def wsX7_ofPerson : List Cond := .code yX7_ofPerson cX7_ofPerson 3 (some .int) :: ((wsX7_ofPerson_r1 ++ (wsX7_ofPerson_r2 ++ wsX7_ofPerson_r3)) ++ wsX70 ++ wsX50)
def wsX7_owe : List Cond := .code yX7_owe cX7_owe 5 (some .int) :: ([.fieldLink RX7 12 "DebtLamps" "now" "LDebtLamps$Town;", .methodLink RX7 86 yX7_isPerson, .instanceMethod yX7_isPerson, .selects RX7 yX7_isPerson yX7_isPerson, .initialized RX7, .code yX7_isPerson cX7_isPerson 2 (some .boolean), .methodLink RX7 53 yX7_isWithin, .static yX7_isWithin, .code yX7_isWithin cX7_isWithin 2 (some .boolean)] ++ wsX70 ++ wsX50)
def wsX7_owes : List Cond := .code yX7_owes cX7_owes 3 (some .int) :: ([.fieldLink RX7 12 "DebtLamps" "now" "LDebtLamps$Town;", .methodLink RX7 86 yX7_isPerson, .instanceMethod yX7_isPerson, .selects RX7 yX7_isPerson yX7_isPerson, .initialized RX7, .code yX7_isPerson cX7_isPerson 2 (some .boolean)] ++ wsX70 ++ wsX50)
def wsX7_weight_r1 : List Cond := [Cond.fieldLink RX7 12 "DebtLamps" "now" "LDebtLamps$Town;", Cond.methodLink RX7 86 yX7_isPerson, Cond.instanceMethod yX7_isPerson, Cond.selects RX7 yX7_isPerson yX7_isPerson, Cond.initialized RX7, Cond.code yX7_isPerson cX7_isPerson 2 (some .boolean), Cond.methodLink RX7 109 yX5_weightOf, Cond.instanceMethod yX5_weightOf, Cond.selects RX5 yX5_weightOf yX5_weightOf, Cond.initialized RX5, Cond.code yX5_weightOf cX5_weightOf 3 (some .int), Cond.fieldLink RX5 18 "DebtLamps$Town" "bodies" "[LDebtLamps$Person;", Cond.fieldLink RX5 24 "DebtLamps$Town" "kindOf" "[I", Cond.fieldLink RX5 30 "DebtLamps$Town" "pence" "[[I", Cond.methodLink RX5 75 ⟨"DebtLamps$Person", "weigh", "(I)I"⟩, Cond.sameMethod "DebtLamps$Person" "DebtLamps$Person" "weigh" "(I)I", Cond.instanceMethod ⟨"DebtLamps$Person", "weigh", "(I)I"⟩, Cond.selects RX0 ⟨"DebtLamps$Person", "weigh", "(I)I"⟩ yX0_weigh, Cond.instanceMethod yX0_weigh, Cond.initialized RX0, Cond.code yX0_weigh cX0_weigh 2 (some .int), Cond.code yX1_weigh cX1_weigh 2 (some .int), Cond.methodLink RX5 75 yX1_weigh, Cond.instanceMethod yX1_weigh]
def wsX7_weight_r2 : List Cond := [Cond.selects RX1 yX1_weigh yX1_weigh, Cond.initialized RX1, Cond.selects RX3 ⟨"DebtLamps$Person", "weigh", "(I)I"⟩ yX3_weigh, Cond.instanceMethod yX3_weigh, Cond.initialized RX3, Cond.code yX3_weigh cX3_weigh 2 (some .int)]
def wsX7_weight : List Cond := .code yX7_weight cX7_weight 3 (some .int) :: ((wsX7_weight_r1 ++ wsX7_weight_r2) ++ wsX70 ++ wsX50)
def wsX7_hasTown : List Cond := .code yX7_hasTown cX7_hasTown 1 (some .boolean) :: ([.fieldLink RX7 12 "DebtLamps" "now" "LDebtLamps$Town;"] ++ wsX70 ++ wsX50)
def wsX7_bell : List Cond := .code yX7_bell cX7_bell 3 (some .int) :: ([.fieldLink RX7 12 "DebtLamps" "now" "LDebtLamps$Town;", .methodLink RX7 53 yX7_isWithin, .static yX7_isWithin, .initialized RX7, .code yX7_isWithin cX7_isWithin 2 (some .boolean), .methodLink RX7 113 yX7_hasTown, .instanceMethod yX7_hasTown, .selects RX7 yX7_hasTown yX7_hasTown, .code yX7_hasTown cX7_hasTown 1 (some .boolean)] ++ wsX70 ++ wsX50)
def wsX7_lighter_r1 : List Cond := [Cond.fieldLink RX7 12 "DebtLamps" "now" "LDebtLamps$Town;", Cond.methodLink RX7 86 yX7_isPerson, Cond.instanceMethod yX7_isPerson, Cond.selects RX7 yX7_isPerson yX7_isPerson, Cond.initialized RX7, Cond.code yX7_isPerson cX7_isPerson 2 (some .boolean), Cond.methodLink RX7 116 yX5_lighterAmong, Cond.instanceMethod yX5_lighterAmong, Cond.selects RX5 yX5_lighterAmong yX5_lighterAmong, Cond.initialized RX5, Cond.code yX5_lighterAmong cX5_lighterAmong 7 (some .int), Cond.fieldLink RX5 40 "DebtLamps$Town" "people" "I", Cond.methodLink RX5 78 yX5_weightOf, Cond.instanceMethod yX5_weightOf, Cond.selects RX5 yX5_weightOf yX5_weightOf, Cond.code yX5_weightOf cX5_weightOf 3 (some .int), Cond.fieldLink RX5 18 "DebtLamps$Town" "bodies" "[LDebtLamps$Person;", Cond.fieldLink RX5 24 "DebtLamps$Town" "kindOf" "[I", Cond.fieldLink RX5 30 "DebtLamps$Town" "pence" "[[I", Cond.methodLink RX5 75 ⟨"DebtLamps$Person", "weigh", "(I)I"⟩, Cond.sameMethod "DebtLamps$Person" "DebtLamps$Person" "weigh" "(I)I", Cond.instanceMethod ⟨"DebtLamps$Person", "weigh", "(I)I"⟩, Cond.selects RX0 ⟨"DebtLamps$Person", "weigh", "(I)I"⟩ yX0_weigh, Cond.instanceMethod yX0_weigh]
def wsX7_lighter_r2 : List Cond := [Cond.initialized RX0, Cond.code yX0_weigh cX0_weigh 2 (some .int), Cond.code yX1_weigh cX1_weigh 2 (some .int), Cond.methodLink RX5 75 yX1_weigh, Cond.instanceMethod yX1_weigh, Cond.selects RX1 yX1_weigh yX1_weigh, Cond.initialized RX1, Cond.selects RX3 ⟨"DebtLamps$Person", "weigh", "(I)I"⟩ yX3_weigh, Cond.instanceMethod yX3_weigh, Cond.initialized RX3, Cond.code yX3_weigh cX3_weigh 2 (some .int)]
def wsX7_lighter : List Cond := .code yX7_lighter cX7_lighter 2 (some .int) :: ((wsX7_lighter_r1 ++ wsX7_lighter_r2) ++ wsX70 ++ wsX50)
def wsX7_dusks_r1 : List Cond := [Cond.fieldLink RX7 12 "DebtLamps" "now" "LDebtLamps$Town;", Cond.methodLink RX7 53 yX7_isWithin, Cond.static yX7_isWithin, Cond.initialized RX7, Cond.code yX7_isWithin cX7_isWithin 2 (some .boolean), Cond.methodLink RX7 113 yX7_hasTown, Cond.instanceMethod yX7_hasTown, Cond.selects RX7 yX7_hasTown yX7_hasTown, Cond.code yX7_hasTown cX7_hasTown 1 (some .boolean), Cond.methodLink RX7 119 yX5_passDusk, Cond.instanceMethod yX5_passDusk, Cond.selects RX5 yX5_passDusk yX5_passDusk, Cond.initialized RX5, Cond.code yX5_passDusk cX5_passDusk 4 none, Cond.fieldLink RX5 40 "DebtLamps$Town" "people" "I", Cond.fieldLink RX5 36 "DebtLamps$Town" "inTime" "[Z", Cond.fieldLink RX5 44 "DebtLamps$Town" "bellSteps" "I", Cond.fieldLink RX5 33 "DebtLamps$Town" "lighters" "[I", Cond.fieldLink RX5 30 "DebtLamps$Town" "pence" "[[I", Cond.methodLink RX5 97 Lib.Math.max.name, Cond.static Lib.Math.max.name, Cond.initialized "java/lang/Math", Cond.code Lib.Math.max.name Lib.Math.max.code 2 (some .int), Cond.methodLink RX5 102 Lib.Math.min.name]
def wsX7_dusks_r2 : List Cond := [Cond.static Lib.Math.min.name, Cond.code Lib.Math.min.name Lib.Math.min.code 2 (some .int), Cond.methodLink RX5 85 yX5_findLighters, Cond.instanceMethod yX5_findLighters, Cond.selects RX5 yX5_findLighters yX5_findLighters, Cond.code yX5_findLighters cX5_findLighters 2 none, Cond.methodLink RX5 82 yX5_lighterAmong, Cond.instanceMethod yX5_lighterAmong, Cond.selects RX5 yX5_lighterAmong yX5_lighterAmong, Cond.code yX5_lighterAmong cX5_lighterAmong 7 (some .int), Cond.methodLink RX5 78 yX5_weightOf, Cond.instanceMethod yX5_weightOf, Cond.selects RX5 yX5_weightOf yX5_weightOf, Cond.code yX5_weightOf cX5_weightOf 3 (some .int), Cond.fieldLink RX5 18 "DebtLamps$Town" "bodies" "[LDebtLamps$Person;", Cond.fieldLink RX5 24 "DebtLamps$Town" "kindOf" "[I", Cond.methodLink RX5 75 ⟨"DebtLamps$Person", "weigh", "(I)I"⟩, Cond.sameMethod "DebtLamps$Person" "DebtLamps$Person" "weigh" "(I)I", Cond.instanceMethod ⟨"DebtLamps$Person", "weigh", "(I)I"⟩, Cond.selects RX0 ⟨"DebtLamps$Person", "weigh", "(I)I"⟩ yX0_weigh, Cond.instanceMethod yX0_weigh, Cond.initialized RX0, Cond.code yX0_weigh cX0_weigh 2 (some .int), Cond.code yX1_weigh cX1_weigh 2 (some .int)]
def wsX7_dusks_r3 : List Cond := [Cond.methodLink RX5 75 yX1_weigh, Cond.instanceMethod yX1_weigh, Cond.selects RX1 yX1_weigh yX1_weigh, Cond.initialized RX1, Cond.selects RX3 ⟨"DebtLamps$Person", "weigh", "(I)I"⟩ yX3_weigh, Cond.instanceMethod yX3_weigh, Cond.initialized RX3, Cond.code yX3_weigh cX3_weigh 2 (some .int), Cond.methodLink RX5 88 yX5_roundByLighters, Cond.instanceMethod yX5_roundByLighters, Cond.selects RX5 yX5_roundByLighters yX5_roundByLighters, Cond.code yX5_roundByLighters cX5_roundByLighters 4 (some .int), Cond.methodLink RX5 94 yX5_fewestSteps, Cond.static yX5_fewestSteps, Cond.code yX5_fewestSteps cX5_fewestSteps 5 (some .int), Cond.methodLink RX7 122 yX5_litLamps, Cond.instanceMethod yX5_litLamps, Cond.selects RX5 yX5_litLamps yX5_litLamps, Cond.code yX5_litLamps cX5_litLamps 3 (some .int)]
def wsX7_dusks : List Cond := .code yX7_dusks cX7_dusks 3 (some .int) :: ((wsX7_dusks_r1 ++ (wsX7_dusks_r2 ++ wsX7_dusks_r3)) ++ wsX70 ++ wsX50)
def wsX7_later_r1 : List Cond := [Cond.fieldLink RX7 18 "DebtLamps" "trial" "LDebtLamps$Town;", Cond.fieldLink RX7 12 "DebtLamps" "now" "LDebtLamps$Town;", Cond.methodLink RX7 86 yX7_isPerson, Cond.instanceMethod yX7_isPerson, Cond.selects RX7 yX7_isPerson yX7_isPerson, Cond.initialized RX7, Cond.code yX7_isPerson cX7_isPerson 2 (some .boolean), Cond.methodLink RX7 53 yX7_isWithin, Cond.static yX7_isWithin, Cond.code yX7_isWithin cX7_isWithin 2 (some .boolean), Cond.methodLink RX7 75 yX5_becomeLike, Cond.instanceMethod yX5_becomeLike, Cond.selects RX5 yX5_becomeLike yX5_becomeLike, Cond.initialized RX5, Cond.code yX5_becomeLike cX5_becomeLike 4 none, Cond.fieldLink RX5 40 "DebtLamps$Town" "people" "I", Cond.fieldLink RX5 44 "DebtLamps$Town" "bellSteps" "I", Cond.fieldLink RX5 24 "DebtLamps$Town" "kindOf" "[I", Cond.fieldLink RX5 30 "DebtLamps$Town" "pence" "[[I", Cond.methodLink RX7 119 yX5_passDusk, Cond.instanceMethod yX5_passDusk, Cond.selects RX5 yX5_passDusk yX5_passDusk, Cond.code yX5_passDusk cX5_passDusk 4 none, Cond.fieldLink RX5 36 "DebtLamps$Town" "inTime" "[Z"]
def wsX7_later_r2 : List Cond := [Cond.fieldLink RX5 33 "DebtLamps$Town" "lighters" "[I", Cond.methodLink RX5 97 Lib.Math.max.name, Cond.static Lib.Math.max.name, Cond.initialized "java/lang/Math", Cond.code Lib.Math.max.name Lib.Math.max.code 2 (some .int), Cond.methodLink RX5 102 Lib.Math.min.name, Cond.static Lib.Math.min.name, Cond.code Lib.Math.min.name Lib.Math.min.code 2 (some .int), Cond.methodLink RX5 85 yX5_findLighters, Cond.instanceMethod yX5_findLighters, Cond.selects RX5 yX5_findLighters yX5_findLighters, Cond.code yX5_findLighters cX5_findLighters 2 none, Cond.methodLink RX5 82 yX5_lighterAmong, Cond.instanceMethod yX5_lighterAmong, Cond.selects RX5 yX5_lighterAmong yX5_lighterAmong, Cond.code yX5_lighterAmong cX5_lighterAmong 7 (some .int), Cond.methodLink RX5 78 yX5_weightOf, Cond.instanceMethod yX5_weightOf, Cond.selects RX5 yX5_weightOf yX5_weightOf, Cond.code yX5_weightOf cX5_weightOf 3 (some .int), Cond.fieldLink RX5 18 "DebtLamps$Town" "bodies" "[LDebtLamps$Person;", Cond.methodLink RX5 75 ⟨"DebtLamps$Person", "weigh", "(I)I"⟩, Cond.sameMethod "DebtLamps$Person" "DebtLamps$Person" "weigh" "(I)I", Cond.instanceMethod ⟨"DebtLamps$Person", "weigh", "(I)I"⟩]
def wsX7_later_r3 : List Cond := [Cond.selects RX0 ⟨"DebtLamps$Person", "weigh", "(I)I"⟩ yX0_weigh, Cond.instanceMethod yX0_weigh, Cond.initialized RX0, Cond.code yX0_weigh cX0_weigh 2 (some .int), Cond.code yX1_weigh cX1_weigh 2 (some .int), Cond.methodLink RX5 75 yX1_weigh, Cond.instanceMethod yX1_weigh, Cond.selects RX1 yX1_weigh yX1_weigh, Cond.initialized RX1, Cond.selects RX3 ⟨"DebtLamps$Person", "weigh", "(I)I"⟩ yX3_weigh, Cond.instanceMethod yX3_weigh, Cond.initialized RX3, Cond.code yX3_weigh cX3_weigh 2 (some .int), Cond.methodLink RX5 88 yX5_roundByLighters, Cond.instanceMethod yX5_roundByLighters, Cond.selects RX5 yX5_roundByLighters yX5_roundByLighters, Cond.code yX5_roundByLighters cX5_roundByLighters 4 (some .int), Cond.methodLink RX5 94 yX5_fewestSteps, Cond.static yX5_fewestSteps, Cond.code yX5_fewestSteps cX5_fewestSteps 5 (some .int), Cond.methodLink RX7 116 yX5_lighterAmong]
def wsX7_later : List Cond := .code yX7_later cX7_later 4 (some .int) :: ((wsX7_later_r1 ++ (wsX7_later_r2 ++ wsX7_later_r3)) ++ wsX70 ++ wsX50)
def wsX7_dark_r1 : List Cond := [Cond.fieldLink RX7 18 "DebtLamps" "trial" "LDebtLamps$Town;", Cond.fieldLink RX7 12 "DebtLamps" "now" "LDebtLamps$Town;", Cond.methodLink RX7 113 yX7_hasTown, Cond.instanceMethod yX7_hasTown, Cond.selects RX7 yX7_hasTown yX7_hasTown, Cond.initialized RX7, Cond.code yX7_hasTown cX7_hasTown 1 (some .boolean), Cond.methodLink RX7 75 yX5_becomeLike, Cond.instanceMethod yX5_becomeLike, Cond.selects RX5 yX5_becomeLike yX5_becomeLike, Cond.initialized RX5, Cond.code yX5_becomeLike cX5_becomeLike 4 none, Cond.fieldLink RX5 40 "DebtLamps$Town" "people" "I", Cond.fieldLink RX5 44 "DebtLamps$Town" "bellSteps" "I", Cond.fieldLink RX5 24 "DebtLamps$Town" "kindOf" "[I", Cond.fieldLink RX5 30 "DebtLamps$Town" "pence" "[[I", Cond.methodLink RX7 122 yX5_litLamps, Cond.instanceMethod yX5_litLamps, Cond.selects RX5 yX5_litLamps yX5_litLamps, Cond.code yX5_litLamps cX5_litLamps 3 (some .int), Cond.methodLink RX5 82 yX5_lighterAmong, Cond.instanceMethod yX5_lighterAmong, Cond.selects RX5 yX5_lighterAmong yX5_lighterAmong, Cond.code yX5_lighterAmong cX5_lighterAmong 7 (some .int)]
def wsX7_dark_r2 : List Cond := [Cond.methodLink RX5 78 yX5_weightOf, Cond.instanceMethod yX5_weightOf, Cond.selects RX5 yX5_weightOf yX5_weightOf, Cond.code yX5_weightOf cX5_weightOf 3 (some .int), Cond.fieldLink RX5 18 "DebtLamps$Town" "bodies" "[LDebtLamps$Person;", Cond.methodLink RX5 75 ⟨"DebtLamps$Person", "weigh", "(I)I"⟩, Cond.sameMethod "DebtLamps$Person" "DebtLamps$Person" "weigh" "(I)I", Cond.instanceMethod ⟨"DebtLamps$Person", "weigh", "(I)I"⟩, Cond.selects RX0 ⟨"DebtLamps$Person", "weigh", "(I)I"⟩ yX0_weigh, Cond.instanceMethod yX0_weigh, Cond.initialized RX0, Cond.code yX0_weigh cX0_weigh 2 (some .int), Cond.code yX1_weigh cX1_weigh 2 (some .int), Cond.methodLink RX5 75 yX1_weigh, Cond.instanceMethod yX1_weigh, Cond.selects RX1 yX1_weigh yX1_weigh, Cond.initialized RX1, Cond.selects RX3 ⟨"DebtLamps$Person", "weigh", "(I)I"⟩ yX3_weigh, Cond.instanceMethod yX3_weigh, Cond.initialized RX3, Cond.code yX3_weigh cX3_weigh 2 (some .int), Cond.methodLink RX7 119 yX5_passDusk, Cond.instanceMethod yX5_passDusk, Cond.selects RX5 yX5_passDusk yX5_passDusk]
def wsX7_dark_r3 : List Cond := [Cond.code yX5_passDusk cX5_passDusk 4 none, Cond.fieldLink RX5 36 "DebtLamps$Town" "inTime" "[Z", Cond.fieldLink RX5 33 "DebtLamps$Town" "lighters" "[I", Cond.methodLink RX5 97 Lib.Math.max.name, Cond.static Lib.Math.max.name, Cond.initialized "java/lang/Math", Cond.code Lib.Math.max.name Lib.Math.max.code 2 (some .int), Cond.methodLink RX5 102 Lib.Math.min.name, Cond.static Lib.Math.min.name, Cond.code Lib.Math.min.name Lib.Math.min.code 2 (some .int), Cond.methodLink RX5 85 yX5_findLighters, Cond.instanceMethod yX5_findLighters, Cond.selects RX5 yX5_findLighters yX5_findLighters, Cond.code yX5_findLighters cX5_findLighters 2 none, Cond.methodLink RX5 88 yX5_roundByLighters, Cond.instanceMethod yX5_roundByLighters, Cond.selects RX5 yX5_roundByLighters yX5_roundByLighters, Cond.code yX5_roundByLighters cX5_roundByLighters 4 (some .int), Cond.methodLink RX5 94 yX5_fewestSteps, Cond.static yX5_fewestSteps, Cond.code yX5_fewestSteps cX5_fewestSteps 5 (some .int)]
def wsX7_dark : List Cond := .code yX7_dark cX7_dark 2 (some .int) :: ((wsX7_dark_r1 ++ (wsX7_dark_r2 ++ wsX7_dark_r3)) ++ wsX70 ++ wsX50)
def wsX7_ring_r1 : List Cond := [Cond.fieldLink RX7 12 "DebtLamps" "now" "LDebtLamps$Town;", Cond.methodLink RX7 86 yX7_isPerson, Cond.instanceMethod yX7_isPerson, Cond.selects RX7 yX7_isPerson yX7_isPerson, Cond.initialized RX7, Cond.code yX7_isPerson cX7_isPerson 2 (some .boolean), Cond.methodLink RX7 116 yX5_lighterAmong, Cond.instanceMethod yX5_lighterAmong, Cond.selects RX5 yX5_lighterAmong yX5_lighterAmong, Cond.initialized RX5, Cond.code yX5_lighterAmong cX5_lighterAmong 7 (some .int), Cond.fieldLink RX5 40 "DebtLamps$Town" "people" "I", Cond.methodLink RX5 78 yX5_weightOf, Cond.instanceMethod yX5_weightOf, Cond.selects RX5 yX5_weightOf yX5_weightOf, Cond.code yX5_weightOf cX5_weightOf 3 (some .int), Cond.fieldLink RX5 18 "DebtLamps$Town" "bodies" "[LDebtLamps$Person;", Cond.fieldLink RX5 24 "DebtLamps$Town" "kindOf" "[I", Cond.fieldLink RX5 30 "DebtLamps$Town" "pence" "[[I", Cond.methodLink RX5 75 ⟨"DebtLamps$Person", "weigh", "(I)I"⟩, Cond.sameMethod "DebtLamps$Person" "DebtLamps$Person" "weigh" "(I)I", Cond.instanceMethod ⟨"DebtLamps$Person", "weigh", "(I)I"⟩, Cond.selects RX0 ⟨"DebtLamps$Person", "weigh", "(I)I"⟩ yX0_weigh, Cond.instanceMethod yX0_weigh]
def wsX7_ring_r2 : List Cond := [Cond.initialized RX0, Cond.code yX0_weigh cX0_weigh 2 (some .int), Cond.code yX1_weigh cX1_weigh 2 (some .int), Cond.methodLink RX5 75 yX1_weigh, Cond.instanceMethod yX1_weigh, Cond.selects RX1 yX1_weigh yX1_weigh, Cond.initialized RX1, Cond.selects RX3 ⟨"DebtLamps$Person", "weigh", "(I)I"⟩ yX3_weigh, Cond.instanceMethod yX3_weigh, Cond.initialized RX3, Cond.code yX3_weigh cX3_weigh 2 (some .int)]
def wsX7_ring : List Cond := .code yX7_ring cX7_ring 5 (some .int) :: ((wsX7_ring_r1 ++ wsX7_ring_r2) ++ wsX70 ++ wsX50)
def wsX7_stepsAlong : List Cond := .code yX7_stepsAlong cX7_stepsAlong 8 (some .int) :: ([.methodLink RX7 139 Lib.Math.abs.name, .static Lib.Math.abs.name, .initialized "java/lang/Math", .code Lib.Math.abs.name Lib.Math.abs.code 1 (some .int), .methodLink RX7 126 yX4_valueAt, .instanceMethod yX4_valueAt, .selects RX4 yX4_valueAt yX4_valueAt, .initialized RX4, .code yX4_valueAt cX4_valueAt 2 (some .int), .fieldLink RX4 9 "DebtLamps$Sheet" "cells" "[I", .methodLink RX4 35 yX4_hasCell, .instanceMethod yX4_hasCell, .selects RX4 yX4_hasCell yX4_hasCell, .code yX4_hasCell cX4_hasCell 2 (some .boolean), .fieldLink RX4 15 "DebtLamps$Sheet" "length" "I"] ++ wsX40)
def wsX7_lampsLeft_r1 : List Cond := [Cond.fieldLink RX7 12 "DebtLamps" "now" "LDebtLamps$Town;", Cond.methodLink RX7 96 yX5_roundOf, Cond.instanceMethod yX5_roundOf, Cond.selects RX5 yX5_roundOf yX5_roundOf, Cond.initialized RX5, Cond.code yX5_roundOf cX5_roundOf 2 (some .int), Cond.methodLink RX5 85 yX5_findLighters, Cond.instanceMethod yX5_findLighters, Cond.selects RX5 yX5_findLighters yX5_findLighters, Cond.code yX5_findLighters cX5_findLighters 2 none, Cond.fieldLink RX5 40 "DebtLamps$Town" "people" "I", Cond.fieldLink RX5 33 "DebtLamps$Town" "lighters" "[I", Cond.methodLink RX5 82 yX5_lighterAmong, Cond.instanceMethod yX5_lighterAmong, Cond.selects RX5 yX5_lighterAmong yX5_lighterAmong, Cond.code yX5_lighterAmong cX5_lighterAmong 7 (some .int), Cond.methodLink RX5 78 yX5_weightOf, Cond.instanceMethod yX5_weightOf, Cond.selects RX5 yX5_weightOf yX5_weightOf, Cond.code yX5_weightOf cX5_weightOf 3 (some .int), Cond.fieldLink RX5 18 "DebtLamps$Town" "bodies" "[LDebtLamps$Person;", Cond.fieldLink RX5 24 "DebtLamps$Town" "kindOf" "[I", Cond.fieldLink RX5 30 "DebtLamps$Town" "pence" "[[I", Cond.methodLink RX5 75 ⟨"DebtLamps$Person", "weigh", "(I)I"⟩]
def wsX7_lampsLeft_r2 : List Cond := [Cond.sameMethod "DebtLamps$Person" "DebtLamps$Person" "weigh" "(I)I", Cond.instanceMethod ⟨"DebtLamps$Person", "weigh", "(I)I"⟩, Cond.selects RX0 ⟨"DebtLamps$Person", "weigh", "(I)I"⟩ yX0_weigh, Cond.instanceMethod yX0_weigh, Cond.initialized RX0, Cond.code yX0_weigh cX0_weigh 2 (some .int), Cond.code yX1_weigh cX1_weigh 2 (some .int), Cond.methodLink RX5 75 yX1_weigh, Cond.instanceMethod yX1_weigh, Cond.selects RX1 yX1_weigh yX1_weigh, Cond.initialized RX1, Cond.selects RX3 ⟨"DebtLamps$Person", "weigh", "(I)I"⟩ yX3_weigh, Cond.instanceMethod yX3_weigh, Cond.initialized RX3, Cond.code yX3_weigh cX3_weigh 2 (some .int), Cond.methodLink RX5 88 yX5_roundByLighters, Cond.instanceMethod yX5_roundByLighters, Cond.selects RX5 yX5_roundByLighters yX5_roundByLighters, Cond.code yX5_roundByLighters cX5_roundByLighters 4 (some .int), Cond.methodLink RX7 126 yX4_valueAt, Cond.instanceMethod yX4_valueAt, Cond.selects RX4 yX4_valueAt yX4_valueAt, Cond.initialized RX4, Cond.code yX4_valueAt cX4_valueAt 2 (some .int)]
def wsX7_lampsLeft_r3 : List Cond := [Cond.fieldLink RX4 9 "DebtLamps$Sheet" "cells" "[I", Cond.methodLink RX4 35 yX4_hasCell, Cond.instanceMethod yX4_hasCell, Cond.selects RX4 yX4_hasCell yX4_hasCell, Cond.code yX4_hasCell cX4_hasCell 2 (some .boolean), Cond.fieldLink RX4 15 "DebtLamps$Sheet" "length" "I"]
def wsX7_lampsLeft : List Cond := .code yX7_lampsLeft cX7_lampsLeft 7 (some .int) :: ((wsX7_lampsLeft_r1 ++ (wsX7_lampsLeft_r2 ++ wsX7_lampsLeft_r3)) ++ wsX70 ++ wsX50 ++ wsX40)
def wsX7_doorsTillRoundIsDone_r1 : List Cond := [Cond.fieldLink RX7 12 "DebtLamps" "now" "LDebtLamps$Town;", Cond.methodLink RX7 96 yX5_roundOf, Cond.instanceMethod yX5_roundOf, Cond.selects RX5 yX5_roundOf yX5_roundOf, Cond.initialized RX5, Cond.code yX5_roundOf cX5_roundOf 2 (some .int), Cond.methodLink RX5 85 yX5_findLighters, Cond.instanceMethod yX5_findLighters, Cond.selects RX5 yX5_findLighters yX5_findLighters, Cond.code yX5_findLighters cX5_findLighters 2 none, Cond.fieldLink RX5 40 "DebtLamps$Town" "people" "I", Cond.fieldLink RX5 33 "DebtLamps$Town" "lighters" "[I", Cond.methodLink RX5 82 yX5_lighterAmong, Cond.instanceMethod yX5_lighterAmong, Cond.selects RX5 yX5_lighterAmong yX5_lighterAmong, Cond.code yX5_lighterAmong cX5_lighterAmong 7 (some .int), Cond.methodLink RX5 78 yX5_weightOf, Cond.instanceMethod yX5_weightOf, Cond.selects RX5 yX5_weightOf yX5_weightOf, Cond.code yX5_weightOf cX5_weightOf 3 (some .int), Cond.fieldLink RX5 18 "DebtLamps$Town" "bodies" "[LDebtLamps$Person;", Cond.fieldLink RX5 24 "DebtLamps$Town" "kindOf" "[I", Cond.fieldLink RX5 30 "DebtLamps$Town" "pence" "[[I", Cond.methodLink RX5 75 ⟨"DebtLamps$Person", "weigh", "(I)I"⟩]
def wsX7_doorsTillRoundIsDone_r2 : List Cond := [Cond.sameMethod "DebtLamps$Person" "DebtLamps$Person" "weigh" "(I)I", Cond.instanceMethod ⟨"DebtLamps$Person", "weigh", "(I)I"⟩, Cond.selects RX0 ⟨"DebtLamps$Person", "weigh", "(I)I"⟩ yX0_weigh, Cond.instanceMethod yX0_weigh, Cond.initialized RX0, Cond.code yX0_weigh cX0_weigh 2 (some .int), Cond.code yX1_weigh cX1_weigh 2 (some .int), Cond.methodLink RX5 75 yX1_weigh, Cond.instanceMethod yX1_weigh, Cond.selects RX1 yX1_weigh yX1_weigh, Cond.initialized RX1, Cond.selects RX3 ⟨"DebtLamps$Person", "weigh", "(I)I"⟩ yX3_weigh, Cond.instanceMethod yX3_weigh, Cond.initialized RX3, Cond.code yX3_weigh cX3_weigh 2 (some .int), Cond.methodLink RX5 88 yX5_roundByLighters, Cond.instanceMethod yX5_roundByLighters, Cond.selects RX5 yX5_roundByLighters yX5_roundByLighters, Cond.code yX5_roundByLighters cX5_roundByLighters 4 (some .int), Cond.methodLink RX7 126 yX4_valueAt, Cond.instanceMethod yX4_valueAt, Cond.selects RX4 yX4_valueAt yX4_valueAt, Cond.initialized RX4, Cond.code yX4_valueAt cX4_valueAt 2 (some .int)]
def wsX7_doorsTillRoundIsDone_r3 : List Cond := [Cond.fieldLink RX4 9 "DebtLamps$Sheet" "cells" "[I", Cond.methodLink RX4 35 yX4_hasCell, Cond.instanceMethod yX4_hasCell, Cond.selects RX4 yX4_hasCell yX4_hasCell, Cond.code yX4_hasCell cX4_hasCell 2 (some .boolean), Cond.fieldLink RX4 15 "DebtLamps$Sheet" "length" "I"]
def wsX7_doorsTillRoundIsDone : List Cond := .code yX7_doorsTillRoundIsDone cX7_doorsTillRoundIsDone 7 (some .int) :: ((wsX7_doorsTillRoundIsDone_r1 ++ (wsX7_doorsTillRoundIsDone_r2 ++ wsX7_doorsTillRoundIsDone_r3)) ++ wsX70 ++ wsX50 ++ wsX40)
def wsX7_walk_r1 : List Cond := [Cond.fieldLink RX7 45 "DebtLamps" "latestFault" "I", Cond.fieldLink RX7 41 "DebtLamps" "sheets" "[LDebtLamps$Sheet;", Cond.methodLink RX7 86 yX7_isPerson, Cond.instanceMethod yX7_isPerson, Cond.selects RX7 yX7_isPerson yX7_isPerson, Cond.initialized RX7, Cond.code yX7_isPerson cX7_isPerson 2 (some .boolean), Cond.fieldLink RX7 12 "DebtLamps" "now" "LDebtLamps$Town;", Cond.methodLink RX7 49 yX7_isSheet, Cond.static yX7_isSheet, Cond.code yX7_isSheet cX7_isSheet 1 (some .boolean), Cond.methodLink RX7 53 yX7_isWithin, Cond.static yX7_isWithin, Cond.code yX7_isWithin cX7_isWithin 2 (some .boolean), Cond.methodLink RX7 57 yX4_isOfLane, Cond.instanceMethod yX4_isOfLane, Cond.selects RX4 yX4_isOfLane yX4_isOfLane, Cond.initialized RX4, Cond.code yX4_isOfLane cX4_isOfLane 2 (some .boolean), Cond.fieldLink RX4 19 "DebtLamps$Sheet" "lane" "I", Cond.methodLink RX4 31 yX4_hasNothing, Cond.instanceMethod yX4_hasNothing, Cond.selects RX4 yX4_hasNothing yX4_hasNothing, Cond.code yX4_hasNothing cX4_hasNothing 1 (some .boolean)]
def wsX7_walk_r2 : List Cond := [Cond.fieldLink RX4 15 "DebtLamps$Sheet" "length" "I", Cond.methodLink RX7 60 yX7_faulted, Cond.instanceMethod yX7_faulted, Cond.selects RX7 yX7_faulted yX7_faulted, Cond.code yX7_faulted cX7_faulted 2 (some .int), Cond.methodLink RX7 64 yX4_hasNothing, Cond.methodLink RX7 68 yX4_hasCells, Cond.instanceMethod yX4_hasCells, Cond.selects RX4 yX4_hasCells yX4_hasCells, Cond.code yX4_hasCells cX4_hasCells 3 (some .boolean), Cond.methodLink RX7 126 yX4_valueAt, Cond.instanceMethod yX4_valueAt, Cond.selects RX4 yX4_valueAt yX4_valueAt, Cond.code yX4_valueAt cX4_valueAt 2 (some .int), Cond.fieldLink RX4 9 "DebtLamps$Sheet" "cells" "[I", Cond.methodLink RX4 35 yX4_hasCell, Cond.instanceMethod yX4_hasCell, Cond.selects RX4 yX4_hasCell yX4_hasCell, Cond.code yX4_hasCell cX4_hasCell 2 (some .boolean), Cond.methodLink RX7 129 yX7_stepsAlong, Cond.static yX7_stepsAlong, Cond.code yX7_stepsAlong cX7_stepsAlong 8 (some .int), Cond.methodLink RX7 139 Lib.Math.abs.name, Cond.static Lib.Math.abs.name]
def wsX7_walk_r3 : List Cond := [Cond.initialized "java/lang/Math", Cond.code Lib.Math.abs.name Lib.Math.abs.code 1 (some .int), Cond.methodLink RX7 133 yX7_lampsLeft, Cond.instanceMethod yX7_lampsLeft, Cond.selects RX7 yX7_lampsLeft yX7_lampsLeft, Cond.code yX7_lampsLeft cX7_lampsLeft 7 (some .int), Cond.methodLink RX7 96 yX5_roundOf, Cond.instanceMethod yX5_roundOf, Cond.selects RX5 yX5_roundOf yX5_roundOf, Cond.initialized RX5, Cond.code yX5_roundOf cX5_roundOf 2 (some .int), Cond.methodLink RX5 85 yX5_findLighters, Cond.instanceMethod yX5_findLighters, Cond.selects RX5 yX5_findLighters yX5_findLighters, Cond.code yX5_findLighters cX5_findLighters 2 none, Cond.fieldLink RX5 40 "DebtLamps$Town" "people" "I", Cond.fieldLink RX5 33 "DebtLamps$Town" "lighters" "[I", Cond.methodLink RX5 82 yX5_lighterAmong, Cond.instanceMethod yX5_lighterAmong, Cond.selects RX5 yX5_lighterAmong yX5_lighterAmong, Cond.code yX5_lighterAmong cX5_lighterAmong 7 (some .int), Cond.methodLink RX5 78 yX5_weightOf, Cond.instanceMethod yX5_weightOf, Cond.selects RX5 yX5_weightOf yX5_weightOf]
def wsX7_walk_r4 : List Cond := [Cond.code yX5_weightOf cX5_weightOf 3 (some .int), Cond.fieldLink RX5 18 "DebtLamps$Town" "bodies" "[LDebtLamps$Person;", Cond.fieldLink RX5 24 "DebtLamps$Town" "kindOf" "[I", Cond.fieldLink RX5 30 "DebtLamps$Town" "pence" "[[I", Cond.methodLink RX5 75 ⟨"DebtLamps$Person", "weigh", "(I)I"⟩, Cond.sameMethod "DebtLamps$Person" "DebtLamps$Person" "weigh" "(I)I", Cond.instanceMethod ⟨"DebtLamps$Person", "weigh", "(I)I"⟩, Cond.selects RX0 ⟨"DebtLamps$Person", "weigh", "(I)I"⟩ yX0_weigh, Cond.instanceMethod yX0_weigh, Cond.initialized RX0, Cond.code yX0_weigh cX0_weigh 2 (some .int), Cond.code yX1_weigh cX1_weigh 2 (some .int), Cond.methodLink RX5 75 yX1_weigh, Cond.instanceMethod yX1_weigh, Cond.selects RX1 yX1_weigh yX1_weigh, Cond.initialized RX1, Cond.selects RX3 ⟨"DebtLamps$Person", "weigh", "(I)I"⟩ yX3_weigh, Cond.instanceMethod yX3_weigh, Cond.initialized RX3, Cond.code yX3_weigh cX3_weigh 2 (some .int), Cond.methodLink RX5 88 yX5_roundByLighters, Cond.instanceMethod yX5_roundByLighters, Cond.selects RX5 yX5_roundByLighters yX5_roundByLighters, Cond.code yX5_roundByLighters cX5_roundByLighters 4 (some .int)]
def wsX7_walk_r5 : List Cond := [Cond.methodLink RX7 136 yX7_doorsTillRoundIsDone, Cond.instanceMethod yX7_doorsTillRoundIsDone, Cond.selects RX7 yX7_doorsTillRoundIsDone yX7_doorsTillRoundIsDone, Cond.code yX7_doorsTillRoundIsDone cX7_doorsTillRoundIsDone 7 (some .int)]
def wsX7_walk : List Cond := .code yX7_walk cX7_walk 9 (some .int) :: ((wsX7_walk_r1 ++ (wsX7_walk_r2 ++ (wsX7_walk_r3 ++ (wsX7_walk_r4 ++ wsX7_walk_r5)))) ++ wsX70 ++ wsX50 ++ wsX40)
def wsX7_free_r1 : List Cond := [Cond.fieldLink RX7 18 "DebtLamps" "trial" "LDebtLamps$Town;", Cond.fieldLink RX7 12 "DebtLamps" "now" "LDebtLamps$Town;", Cond.methodLink RX7 86 yX7_isPerson, Cond.instanceMethod yX7_isPerson, Cond.selects RX7 yX7_isPerson yX7_isPerson, Cond.initialized RX7, Cond.code yX7_isPerson cX7_isPerson 2 (some .boolean), Cond.methodLink RX7 75 yX5_becomeLike, Cond.instanceMethod yX5_becomeLike, Cond.selects RX5 yX5_becomeLike yX5_becomeLike, Cond.initialized RX5, Cond.code yX5_becomeLike cX5_becomeLike 4 none, Cond.fieldLink RX5 40 "DebtLamps$Town" "people" "I", Cond.fieldLink RX5 44 "DebtLamps$Town" "bellSteps" "I", Cond.fieldLink RX5 24 "DebtLamps$Town" "kindOf" "[I", Cond.fieldLink RX5 30 "DebtLamps$Town" "pence" "[[I", Cond.methodLink RX7 144 yX5_payTillLighterOfNone, Cond.instanceMethod yX5_payTillLighterOfNone, Cond.selects RX5 yX5_payTillLighterOfNone yX5_payTillLighterOfNone, Cond.code yX5_payTillLighterOfNone cX5_payTillLighterOfNone 5 (some .int), Cond.methodLink RX5 82 yX5_lighterAmong, Cond.instanceMethod yX5_lighterAmong, Cond.selects RX5 yX5_lighterAmong yX5_lighterAmong, Cond.code yX5_lighterAmong cX5_lighterAmong 7 (some .int)]
def wsX7_free_r2 : List Cond := [Cond.methodLink RX5 78 yX5_weightOf, Cond.instanceMethod yX5_weightOf, Cond.selects RX5 yX5_weightOf yX5_weightOf, Cond.code yX5_weightOf cX5_weightOf 3 (some .int), Cond.fieldLink RX5 18 "DebtLamps$Town" "bodies" "[LDebtLamps$Person;", Cond.methodLink RX5 75 ⟨"DebtLamps$Person", "weigh", "(I)I"⟩, Cond.sameMethod "DebtLamps$Person" "DebtLamps$Person" "weigh" "(I)I", Cond.instanceMethod ⟨"DebtLamps$Person", "weigh", "(I)I"⟩, Cond.selects RX0 ⟨"DebtLamps$Person", "weigh", "(I)I"⟩ yX0_weigh, Cond.instanceMethod yX0_weigh, Cond.initialized RX0, Cond.code yX0_weigh cX0_weigh 2 (some .int), Cond.code yX1_weigh cX1_weigh 2 (some .int), Cond.methodLink RX5 75 yX1_weigh, Cond.instanceMethod yX1_weigh, Cond.selects RX1 yX1_weigh yX1_weigh, Cond.initialized RX1, Cond.selects RX3 ⟨"DebtLamps$Person", "weigh", "(I)I"⟩ yX3_weigh, Cond.instanceMethod yX3_weigh, Cond.initialized RX3, Cond.code yX3_weigh cX3_weigh 2 (some .int)]
def wsX7_free : List Cond := .code yX7_free cX7_free 2 (some .int) :: ((wsX7_free_r1 ++ wsX7_free_r2) ++ wsX70 ++ wsX50)
def wsX7_haste_r1 : List Cond := [Cond.fieldLink RX7 12 "DebtLamps" "now" "LDebtLamps$Town;", Cond.methodLink RX7 147 Lib.Math.max.name, Cond.static Lib.Math.max.name, Cond.initialized "java/lang/Math", Cond.code Lib.Math.max.name Lib.Math.max.code 2 (some .int), Cond.methodLink RX7 113 yX7_hasTown, Cond.instanceMethod yX7_hasTown, Cond.selects RX7 yX7_hasTown yX7_hasTown, Cond.initialized RX7, Cond.code yX7_hasTown cX7_hasTown 1 (some .boolean), Cond.methodLink RX7 99 yX5_stepsOf, Cond.instanceMethod yX5_stepsOf, Cond.selects RX5 yX5_stepsOf yX5_stepsOf, Cond.initialized RX5, Cond.code yX5_stepsOf cX5_stepsOf 2 (some .int), Cond.methodLink RX5 91 yX5_roundOf, Cond.instanceMethod yX5_roundOf, Cond.selects RX5 yX5_roundOf yX5_roundOf, Cond.code yX5_roundOf cX5_roundOf 2 (some .int), Cond.methodLink RX5 85 yX5_findLighters, Cond.instanceMethod yX5_findLighters, Cond.selects RX5 yX5_findLighters yX5_findLighters, Cond.code yX5_findLighters cX5_findLighters 2 none, Cond.fieldLink RX5 40 "DebtLamps$Town" "people" "I"]
def wsX7_haste_r2 : List Cond := [Cond.fieldLink RX5 33 "DebtLamps$Town" "lighters" "[I", Cond.methodLink RX5 82 yX5_lighterAmong, Cond.instanceMethod yX5_lighterAmong, Cond.selects RX5 yX5_lighterAmong yX5_lighterAmong, Cond.code yX5_lighterAmong cX5_lighterAmong 7 (some .int), Cond.methodLink RX5 78 yX5_weightOf, Cond.instanceMethod yX5_weightOf, Cond.selects RX5 yX5_weightOf yX5_weightOf, Cond.code yX5_weightOf cX5_weightOf 3 (some .int), Cond.fieldLink RX5 18 "DebtLamps$Town" "bodies" "[LDebtLamps$Person;", Cond.fieldLink RX5 24 "DebtLamps$Town" "kindOf" "[I", Cond.fieldLink RX5 30 "DebtLamps$Town" "pence" "[[I", Cond.methodLink RX5 75 ⟨"DebtLamps$Person", "weigh", "(I)I"⟩, Cond.sameMethod "DebtLamps$Person" "DebtLamps$Person" "weigh" "(I)I", Cond.instanceMethod ⟨"DebtLamps$Person", "weigh", "(I)I"⟩, Cond.selects RX0 ⟨"DebtLamps$Person", "weigh", "(I)I"⟩ yX0_weigh, Cond.instanceMethod yX0_weigh, Cond.initialized RX0, Cond.code yX0_weigh cX0_weigh 2 (some .int), Cond.code yX1_weigh cX1_weigh 2 (some .int), Cond.methodLink RX5 75 yX1_weigh, Cond.instanceMethod yX1_weigh, Cond.selects RX1 yX1_weigh yX1_weigh, Cond.initialized RX1]
def wsX7_haste_r3 : List Cond := [Cond.selects RX3 ⟨"DebtLamps$Person", "weigh", "(I)I"⟩ yX3_weigh, Cond.instanceMethod yX3_weigh, Cond.initialized RX3, Cond.code yX3_weigh cX3_weigh 2 (some .int), Cond.methodLink RX5 88 yX5_roundByLighters, Cond.instanceMethod yX5_roundByLighters, Cond.selects RX5 yX5_roundByLighters yX5_roundByLighters, Cond.code yX5_roundByLighters cX5_roundByLighters 4 (some .int), Cond.methodLink RX5 94 yX5_fewestSteps, Cond.static yX5_fewestSteps, Cond.code yX5_fewestSteps cX5_fewestSteps 5 (some .int), Cond.methodLink RX5 97 Lib.Math.max.name, Cond.methodLink RX5 102 Lib.Math.min.name, Cond.static Lib.Math.min.name, Cond.code Lib.Math.min.name Lib.Math.min.code 2 (some .int)]
def wsX7_haste : List Cond := .code yX7_haste cX7_haste 3 (some .int) :: ((wsX7_haste_r1 ++ (wsX7_haste_r2 ++ wsX7_haste_r3)) ++ wsX70 ++ wsX50)
def wsX7_reading : List Cond := .code yX7_reading cX7_reading 4 (some .int) :: ([.fieldLink RX7 34 "DebtLamps" "readings" "LDebtLamps$Readings;", .methodLink RX7 86 yX7_isPerson, .instanceMethod yX7_isPerson, .selects RX7 yX7_isPerson yX7_isPerson, .initialized RX7, .code yX7_isPerson cX7_isPerson 2 (some .boolean), .fieldLink RX7 12 "DebtLamps" "now" "LDebtLamps$Town;", .methodLink RX7 53 yX7_isWithin, .static yX7_isWithin, .code yX7_isWithin cX7_isWithin 2 (some .boolean), .methodLink RX7 153 yX2_add, .instanceMethod yX2_add, .selects RX2 yX2_add yX2_add, .initialized RX2, .code yX2_add cX2_add 4 (some .int), .fieldLink RX2 21 "DebtLamps$Readings" "count" "I", .fieldLink RX2 9 "DebtLamps$Readings" "duskOf" "[I", .fieldLink RX2 15 "DebtLamps$Readings" "lampOf" "[I", .fieldLink RX2 18 "DebtLamps$Readings" "lighterOf" "[I"] ++ wsX70 ++ wsX20 ++ wsX50)
def wsX7_back : List Cond := .code yX7_back cX7_back 2 (some .int) :: ([.fieldLink RX7 34 "DebtLamps" "readings" "LDebtLamps$Readings;", .methodLink RX7 53 yX7_isWithin, .static yX7_isWithin, .initialized RX7, .code yX7_isWithin cX7_isWithin 2 (some .boolean), .methodLink RX7 79 yX2_keepFirst, .instanceMethod yX2_keepFirst, .selects RX2 yX2_keepFirst yX2_keepFirst, .initialized RX2, .code yX2_keepFirst cX2_keepFirst 2 none, .fieldLink RX2 21 "DebtLamps$Readings" "count" "I"] ++ wsX70 ++ wsX20)
def wsX7_debts_r1 : List Cond := [Cond.fieldLink RX7 18 "DebtLamps" "trial" "LDebtLamps$Town;", Cond.fieldLink RX7 12 "DebtLamps" "now" "LDebtLamps$Town;", Cond.fieldLink RX7 34 "DebtLamps" "readings" "LDebtLamps$Readings;", Cond.methodLink RX7 86 yX7_isPerson, Cond.instanceMethod yX7_isPerson, Cond.selects RX7 yX7_isPerson yX7_isPerson, Cond.initialized RX7, Cond.code yX7_isPerson cX7_isPerson 2 (some .boolean), Cond.methodLink RX7 75 yX5_becomeLike, Cond.instanceMethod yX5_becomeLike, Cond.selects RX5 yX5_becomeLike yX5_becomeLike, Cond.initialized RX5, Cond.code yX5_becomeLike cX5_becomeLike 4 none, Cond.fieldLink RX5 40 "DebtLamps$Town" "people" "I", Cond.fieldLink RX5 44 "DebtLamps$Town" "bellSteps" "I", Cond.fieldLink RX5 24 "DebtLamps$Town" "kindOf" "[I", Cond.fieldLink RX5 30 "DebtLamps$Town" "pence" "[[I", Cond.methodLink RX7 157 yX2_areSo, Cond.instanceMethod yX2_areSo, Cond.selects RX2 yX2_areSo yX2_areSo, Cond.initialized RX2, Cond.code yX2_areSo cX2_areSo 4 (some .boolean), Cond.methodLink RX2 25 yX2_latestDusk, Cond.instanceMethod yX2_latestDusk]
def wsX7_debts_r2 : List Cond := [Cond.selects RX2 yX2_latestDusk yX2_latestDusk, Cond.code yX2_latestDusk cX2_latestDusk 3 (some .int), Cond.fieldLink RX2 21 "DebtLamps$Readings" "count" "I", Cond.fieldLink RX2 9 "DebtLamps$Readings" "duskOf" "[I", Cond.methodLink RX2 42 Lib.Math.max.name, Cond.static Lib.Math.max.name, Cond.initialized "java/lang/Math", Cond.code Lib.Math.max.name Lib.Math.max.code 2 (some .int), Cond.methodLink RX2 29 yX5_passDusk, Cond.instanceMethod yX5_passDusk, Cond.selects RX5 yX5_passDusk yX5_passDusk, Cond.code yX5_passDusk cX5_passDusk 4 none, Cond.fieldLink RX5 36 "DebtLamps$Town" "inTime" "[Z", Cond.fieldLink RX5 33 "DebtLamps$Town" "lighters" "[I", Cond.methodLink RX5 97 Lib.Math.max.name, Cond.methodLink RX5 102 Lib.Math.min.name, Cond.static Lib.Math.min.name, Cond.code Lib.Math.min.name Lib.Math.min.code 2 (some .int), Cond.methodLink RX5 85 yX5_findLighters, Cond.instanceMethod yX5_findLighters, Cond.selects RX5 yX5_findLighters yX5_findLighters, Cond.code yX5_findLighters cX5_findLighters 2 none, Cond.methodLink RX5 82 yX5_lighterAmong, Cond.instanceMethod yX5_lighterAmong]
def wsX7_debts_r3 : List Cond := [Cond.selects RX5 yX5_lighterAmong yX5_lighterAmong, Cond.code yX5_lighterAmong cX5_lighterAmong 7 (some .int), Cond.methodLink RX5 78 yX5_weightOf, Cond.instanceMethod yX5_weightOf, Cond.selects RX5 yX5_weightOf yX5_weightOf, Cond.code yX5_weightOf cX5_weightOf 3 (some .int), Cond.fieldLink RX5 18 "DebtLamps$Town" "bodies" "[LDebtLamps$Person;", Cond.methodLink RX5 75 ⟨"DebtLamps$Person", "weigh", "(I)I"⟩, Cond.sameMethod "DebtLamps$Person" "DebtLamps$Person" "weigh" "(I)I", Cond.instanceMethod ⟨"DebtLamps$Person", "weigh", "(I)I"⟩, Cond.selects RX0 ⟨"DebtLamps$Person", "weigh", "(I)I"⟩ yX0_weigh, Cond.instanceMethod yX0_weigh, Cond.initialized RX0, Cond.code yX0_weigh cX0_weigh 2 (some .int), Cond.code yX1_weigh cX1_weigh 2 (some .int), Cond.methodLink RX5 75 yX1_weigh, Cond.instanceMethod yX1_weigh, Cond.selects RX1 yX1_weigh yX1_weigh, Cond.initialized RX1, Cond.selects RX3 ⟨"DebtLamps$Person", "weigh", "(I)I"⟩ yX3_weigh, Cond.instanceMethod yX3_weigh, Cond.initialized RX3, Cond.code yX3_weigh cX3_weigh 2 (some .int), Cond.methodLink RX5 88 yX5_roundByLighters]
def wsX7_debts_r4 : List Cond := [Cond.instanceMethod yX5_roundByLighters, Cond.selects RX5 yX5_roundByLighters yX5_roundByLighters, Cond.code yX5_roundByLighters cX5_roundByLighters 4 (some .int), Cond.methodLink RX5 94 yX5_fewestSteps, Cond.static yX5_fewestSteps, Cond.code yX5_fewestSteps cX5_fewestSteps 5 (some .int), Cond.methodLink RX2 34 yX2_areSoBehind, Cond.instanceMethod yX2_areSoBehind, Cond.selects RX2 yX2_areSoBehind yX2_areSoBehind, Cond.code yX2_areSoBehind cX2_areSoBehind 4 (some .boolean), Cond.fieldLink RX2 15 "DebtLamps$Readings" "lampOf" "[I", Cond.fieldLink RX2 18 "DebtLamps$Readings" "lighterOf" "[I", Cond.methodLink RX2 38 yX5_lighterAmong]
def wsX7_debts : List Cond := .code yX7_debts cX7_debts 5 (some .int) :: ((wsX7_debts_r1 ++ (wsX7_debts_r2 ++ (wsX7_debts_r3 ++ wsX7_debts_r4))) ++ wsX70 ++ wsX50 ++ wsX20)
def wsX7_kinds_r1 : List Cond := [Cond.fieldLink RX7 18 "DebtLamps" "trial" "LDebtLamps$Town;", Cond.fieldLink RX7 12 "DebtLamps" "now" "LDebtLamps$Town;", Cond.fieldLink RX7 34 "DebtLamps" "readings" "LDebtLamps$Readings;", Cond.methodLink RX7 86 yX7_isPerson, Cond.instanceMethod yX7_isPerson, Cond.selects RX7 yX7_isPerson yX7_isPerson, Cond.initialized RX7, Cond.code yX7_isPerson cX7_isPerson 2 (some .boolean), Cond.methodLink RX7 75 yX5_becomeLike, Cond.instanceMethod yX5_becomeLike, Cond.selects RX5 yX5_becomeLike yX5_becomeLike, Cond.initialized RX5, Cond.code yX5_becomeLike cX5_becomeLike 4 none, Cond.fieldLink RX5 40 "DebtLamps$Town" "people" "I", Cond.fieldLink RX5 44 "DebtLamps$Town" "bellSteps" "I", Cond.fieldLink RX5 24 "DebtLamps$Town" "kindOf" "[I", Cond.fieldLink RX5 30 "DebtLamps$Town" "pence" "[[I", Cond.methodLink RX7 157 yX2_areSo, Cond.instanceMethod yX2_areSo, Cond.selects RX2 yX2_areSo yX2_areSo, Cond.initialized RX2, Cond.code yX2_areSo cX2_areSo 4 (some .boolean), Cond.methodLink RX2 25 yX2_latestDusk, Cond.instanceMethod yX2_latestDusk]
def wsX7_kinds_r2 : List Cond := [Cond.selects RX2 yX2_latestDusk yX2_latestDusk, Cond.code yX2_latestDusk cX2_latestDusk 3 (some .int), Cond.fieldLink RX2 21 "DebtLamps$Readings" "count" "I", Cond.fieldLink RX2 9 "DebtLamps$Readings" "duskOf" "[I", Cond.methodLink RX2 42 Lib.Math.max.name, Cond.static Lib.Math.max.name, Cond.initialized "java/lang/Math", Cond.code Lib.Math.max.name Lib.Math.max.code 2 (some .int), Cond.methodLink RX2 29 yX5_passDusk, Cond.instanceMethod yX5_passDusk, Cond.selects RX5 yX5_passDusk yX5_passDusk, Cond.code yX5_passDusk cX5_passDusk 4 none, Cond.fieldLink RX5 36 "DebtLamps$Town" "inTime" "[Z", Cond.fieldLink RX5 33 "DebtLamps$Town" "lighters" "[I", Cond.methodLink RX5 97 Lib.Math.max.name, Cond.methodLink RX5 102 Lib.Math.min.name, Cond.static Lib.Math.min.name, Cond.code Lib.Math.min.name Lib.Math.min.code 2 (some .int), Cond.methodLink RX5 85 yX5_findLighters, Cond.instanceMethod yX5_findLighters, Cond.selects RX5 yX5_findLighters yX5_findLighters, Cond.code yX5_findLighters cX5_findLighters 2 none, Cond.methodLink RX5 82 yX5_lighterAmong, Cond.instanceMethod yX5_lighterAmong]
def wsX7_kinds_r3 : List Cond := [Cond.selects RX5 yX5_lighterAmong yX5_lighterAmong, Cond.code yX5_lighterAmong cX5_lighterAmong 7 (some .int), Cond.methodLink RX5 78 yX5_weightOf, Cond.instanceMethod yX5_weightOf, Cond.selects RX5 yX5_weightOf yX5_weightOf, Cond.code yX5_weightOf cX5_weightOf 3 (some .int), Cond.fieldLink RX5 18 "DebtLamps$Town" "bodies" "[LDebtLamps$Person;", Cond.methodLink RX5 75 ⟨"DebtLamps$Person", "weigh", "(I)I"⟩, Cond.sameMethod "DebtLamps$Person" "DebtLamps$Person" "weigh" "(I)I", Cond.instanceMethod ⟨"DebtLamps$Person", "weigh", "(I)I"⟩, Cond.selects RX0 ⟨"DebtLamps$Person", "weigh", "(I)I"⟩ yX0_weigh, Cond.instanceMethod yX0_weigh, Cond.initialized RX0, Cond.code yX0_weigh cX0_weigh 2 (some .int), Cond.code yX1_weigh cX1_weigh 2 (some .int), Cond.methodLink RX5 75 yX1_weigh, Cond.instanceMethod yX1_weigh, Cond.selects RX1 yX1_weigh yX1_weigh, Cond.initialized RX1, Cond.selects RX3 ⟨"DebtLamps$Person", "weigh", "(I)I"⟩ yX3_weigh, Cond.instanceMethod yX3_weigh, Cond.initialized RX3, Cond.code yX3_weigh cX3_weigh 2 (some .int), Cond.methodLink RX5 88 yX5_roundByLighters]
def wsX7_kinds_r4 : List Cond := [Cond.instanceMethod yX5_roundByLighters, Cond.selects RX5 yX5_roundByLighters yX5_roundByLighters, Cond.code yX5_roundByLighters cX5_roundByLighters 4 (some .int), Cond.methodLink RX5 94 yX5_fewestSteps, Cond.static yX5_fewestSteps, Cond.code yX5_fewestSteps cX5_fewestSteps 5 (some .int), Cond.methodLink RX2 34 yX2_areSoBehind, Cond.instanceMethod yX2_areSoBehind, Cond.selects RX2 yX2_areSoBehind yX2_areSoBehind, Cond.code yX2_areSoBehind cX2_areSoBehind 4 (some .boolean), Cond.fieldLink RX2 15 "DebtLamps$Readings" "lampOf" "[I", Cond.fieldLink RX2 18 "DebtLamps$Readings" "lighterOf" "[I", Cond.methodLink RX2 38 yX5_lighterAmong]
def wsX7_kinds : List Cond := .code yX7_kinds cX7_kinds 4 (some .int) :: ((wsX7_kinds_r1 ++ (wsX7_kinds_r2 ++ (wsX7_kinds_r3 ++ wsX7_kinds_r4))) ++ wsX70 ++ wsX50 ++ wsX20)
def wsX7_bells_r1 : List Cond := [Cond.fieldLink RX7 18 "DebtLamps" "trial" "LDebtLamps$Town;", Cond.fieldLink RX7 12 "DebtLamps" "now" "LDebtLamps$Town;", Cond.fieldLink RX7 34 "DebtLamps" "readings" "LDebtLamps$Readings;", Cond.methodLink RX7 113 yX7_hasTown, Cond.instanceMethod yX7_hasTown, Cond.selects RX7 yX7_hasTown yX7_hasTown, Cond.initialized RX7, Cond.code yX7_hasTown cX7_hasTown 1 (some .boolean), Cond.methodLink RX7 75 yX5_becomeLike, Cond.instanceMethod yX5_becomeLike, Cond.selects RX5 yX5_becomeLike yX5_becomeLike, Cond.initialized RX5, Cond.code yX5_becomeLike cX5_becomeLike 4 none, Cond.fieldLink RX5 40 "DebtLamps$Town" "people" "I", Cond.fieldLink RX5 44 "DebtLamps$Town" "bellSteps" "I", Cond.fieldLink RX5 24 "DebtLamps$Town" "kindOf" "[I", Cond.fieldLink RX5 30 "DebtLamps$Town" "pence" "[[I", Cond.methodLink RX7 157 yX2_areSo, Cond.instanceMethod yX2_areSo, Cond.selects RX2 yX2_areSo yX2_areSo, Cond.initialized RX2, Cond.code yX2_areSo cX2_areSo 4 (some .boolean), Cond.methodLink RX2 25 yX2_latestDusk, Cond.instanceMethod yX2_latestDusk]
def wsX7_bells_r2 : List Cond := [Cond.selects RX2 yX2_latestDusk yX2_latestDusk, Cond.code yX2_latestDusk cX2_latestDusk 3 (some .int), Cond.fieldLink RX2 21 "DebtLamps$Readings" "count" "I", Cond.fieldLink RX2 9 "DebtLamps$Readings" "duskOf" "[I", Cond.methodLink RX2 42 Lib.Math.max.name, Cond.static Lib.Math.max.name, Cond.initialized "java/lang/Math", Cond.code Lib.Math.max.name Lib.Math.max.code 2 (some .int), Cond.methodLink RX2 29 yX5_passDusk, Cond.instanceMethod yX5_passDusk, Cond.selects RX5 yX5_passDusk yX5_passDusk, Cond.code yX5_passDusk cX5_passDusk 4 none, Cond.fieldLink RX5 36 "DebtLamps$Town" "inTime" "[Z", Cond.fieldLink RX5 33 "DebtLamps$Town" "lighters" "[I", Cond.methodLink RX5 97 Lib.Math.max.name, Cond.methodLink RX5 102 Lib.Math.min.name, Cond.static Lib.Math.min.name, Cond.code Lib.Math.min.name Lib.Math.min.code 2 (some .int), Cond.methodLink RX5 85 yX5_findLighters, Cond.instanceMethod yX5_findLighters, Cond.selects RX5 yX5_findLighters yX5_findLighters, Cond.code yX5_findLighters cX5_findLighters 2 none, Cond.methodLink RX5 82 yX5_lighterAmong, Cond.instanceMethod yX5_lighterAmong]
def wsX7_bells_r3 : List Cond := [Cond.selects RX5 yX5_lighterAmong yX5_lighterAmong, Cond.code yX5_lighterAmong cX5_lighterAmong 7 (some .int), Cond.methodLink RX5 78 yX5_weightOf, Cond.instanceMethod yX5_weightOf, Cond.selects RX5 yX5_weightOf yX5_weightOf, Cond.code yX5_weightOf cX5_weightOf 3 (some .int), Cond.fieldLink RX5 18 "DebtLamps$Town" "bodies" "[LDebtLamps$Person;", Cond.methodLink RX5 75 ⟨"DebtLamps$Person", "weigh", "(I)I"⟩, Cond.sameMethod "DebtLamps$Person" "DebtLamps$Person" "weigh" "(I)I", Cond.instanceMethod ⟨"DebtLamps$Person", "weigh", "(I)I"⟩, Cond.selects RX0 ⟨"DebtLamps$Person", "weigh", "(I)I"⟩ yX0_weigh, Cond.instanceMethod yX0_weigh, Cond.initialized RX0, Cond.code yX0_weigh cX0_weigh 2 (some .int), Cond.code yX1_weigh cX1_weigh 2 (some .int), Cond.methodLink RX5 75 yX1_weigh, Cond.instanceMethod yX1_weigh, Cond.selects RX1 yX1_weigh yX1_weigh, Cond.initialized RX1, Cond.selects RX3 ⟨"DebtLamps$Person", "weigh", "(I)I"⟩ yX3_weigh, Cond.instanceMethod yX3_weigh, Cond.initialized RX3, Cond.code yX3_weigh cX3_weigh 2 (some .int), Cond.methodLink RX5 88 yX5_roundByLighters]
def wsX7_bells_r4 : List Cond := [Cond.instanceMethod yX5_roundByLighters, Cond.selects RX5 yX5_roundByLighters yX5_roundByLighters, Cond.code yX5_roundByLighters cX5_roundByLighters 4 (some .int), Cond.methodLink RX5 94 yX5_fewestSteps, Cond.static yX5_fewestSteps, Cond.code yX5_fewestSteps cX5_fewestSteps 5 (some .int), Cond.methodLink RX2 34 yX2_areSoBehind, Cond.instanceMethod yX2_areSoBehind, Cond.selects RX2 yX2_areSoBehind yX2_areSoBehind, Cond.code yX2_areSoBehind cX2_areSoBehind 4 (some .boolean), Cond.fieldLink RX2 15 "DebtLamps$Readings" "lampOf" "[I", Cond.fieldLink RX2 18 "DebtLamps$Readings" "lighterOf" "[I", Cond.methodLink RX2 38 yX5_lighterAmong]
def wsX7_bells : List Cond := .code yX7_bells cX7_bells 3 (some .int) :: ((wsX7_bells_r1 ++ (wsX7_bells_r2 ++ (wsX7_bells_r3 ++ wsX7_bells_r4))) ++ wsX70 ++ wsX50 ++ wsX20)
def wsX7_odds_r1 : List Cond := [Cond.constantLong RX7 161 (-9223372036854775808), Cond.fieldLink RX7 12 "DebtLamps" "now" "LDebtLamps$Town;", Cond.methodLink RX7 86 yX7_isPerson, Cond.instanceMethod yX7_isPerson, Cond.selects RX7 yX7_isPerson yX7_isPerson, Cond.initialized RX7, Cond.code yX7_isPerson cX7_isPerson 2 (some .boolean), Cond.methodLink RX7 53 yX7_isWithin, Cond.static yX7_isWithin, Cond.code yX7_isWithin cX7_isWithin 2 (some .boolean), Cond.methodLink RX7 163 yX5_owingTo, Cond.instanceMethod yX5_owingTo, Cond.selects RX5 yX5_owingTo yX5_owingTo, Cond.initialized RX5, Cond.code yX5_owingTo cX5_owingTo 4 (some .int), Cond.fieldLink RX5 40 "DebtLamps$Town" "people" "I", Cond.fieldLink RX5 30 "DebtLamps$Town" "pence" "[[I", Cond.methodLink RX7 116 yX5_lighterAmong, Cond.instanceMethod yX5_lighterAmong, Cond.selects RX5 yX5_lighterAmong yX5_lighterAmong, Cond.code yX5_lighterAmong cX5_lighterAmong 7 (some .int), Cond.methodLink RX5 78 yX5_weightOf, Cond.instanceMethod yX5_weightOf, Cond.selects RX5 yX5_weightOf yX5_weightOf]
def wsX7_odds_r2 : List Cond := [Cond.code yX5_weightOf cX5_weightOf 3 (some .int), Cond.fieldLink RX5 18 "DebtLamps$Town" "bodies" "[LDebtLamps$Person;", Cond.fieldLink RX5 24 "DebtLamps$Town" "kindOf" "[I", Cond.methodLink RX5 75 ⟨"DebtLamps$Person", "weigh", "(I)I"⟩, Cond.sameMethod "DebtLamps$Person" "DebtLamps$Person" "weigh" "(I)I", Cond.instanceMethod ⟨"DebtLamps$Person", "weigh", "(I)I"⟩, Cond.selects RX0 ⟨"DebtLamps$Person", "weigh", "(I)I"⟩ yX0_weigh, Cond.instanceMethod yX0_weigh, Cond.initialized RX0, Cond.code yX0_weigh cX0_weigh 2 (some .int), Cond.code yX1_weigh cX1_weigh 2 (some .int), Cond.methodLink RX5 75 yX1_weigh, Cond.instanceMethod yX1_weigh, Cond.selects RX1 yX1_weigh yX1_weigh, Cond.initialized RX1, Cond.selects RX3 ⟨"DebtLamps$Person", "weigh", "(I)I"⟩ yX3_weigh, Cond.instanceMethod yX3_weigh, Cond.initialized RX3, Cond.code yX3_weigh cX3_weigh 2 (some .int)]
def wsX7_odds : List Cond := .code yX7_odds cX7_odds 8 (some .long) :: ((wsX7_odds_r1 ++ wsX7_odds_r2) ++ wsX70 ++ wsX50)
def wsX7_sheet_r1 : List Cond := [Cond.fieldLink RX7 45 "DebtLamps" "latestFault" "I", Cond.fieldLink RX7 41 "DebtLamps" "sheets" "[LDebtLamps$Sheet;", Cond.methodLink RX7 49 yX7_isSheet, Cond.static yX7_isSheet, Cond.initialized RX7, Cond.code yX7_isSheet cX7_isSheet 1 (some .boolean), Cond.methodLink RX7 53 yX7_isWithin, Cond.static yX7_isWithin, Cond.code yX7_isWithin cX7_isWithin 2 (some .boolean), Cond.methodLink RX7 60 yX7_faulted, Cond.instanceMethod yX7_faulted, Cond.selects RX7 yX7_faulted yX7_faulted, Cond.code yX7_faulted cX7_faulted 2 (some .int), Cond.methodLink RX7 166 yX4_renew, Cond.instanceMethod yX4_renew, Cond.selects RX4 yX4_renew yX4_renew, Cond.initialized RX4, Cond.code yX4_renew cX4_renew 4 none, Cond.fieldLink RX4 19 "DebtLamps$Sheet" "lane" "I", Cond.methodLink RX4 22 Lib.Math.min.name, Cond.static Lib.Math.min.name, Cond.initialized "java/lang/Math", Cond.code Lib.Math.min.name Lib.Math.min.code 2 (some .int), Cond.methodLink RX4 28 Lib.Math.max.name]
def wsX7_sheet_r2 : List Cond := [Cond.static Lib.Math.max.name, Cond.code Lib.Math.max.name Lib.Math.max.code 2 (some .int), Cond.fieldLink RX4 15 "DebtLamps$Sheet" "length" "I", Cond.fieldLink RX4 9 "DebtLamps$Sheet" "cells" "[I"]
def wsX7_sheet : List Cond := .code yX7_sheet cX7_sheet 4 (some .int) :: ((wsX7_sheet_r1 ++ wsX7_sheet_r2) ++ wsX70 ++ wsX40)
def wsX7_lose : List Cond := .code yX7_lose cX7_lose 2 (some .int) :: ([.fieldLink RX7 41 "DebtLamps" "sheets" "[LDebtLamps$Sheet;", .methodLink RX7 49 yX7_isSheet, .static yX7_isSheet, .initialized RX7, .code yX7_isSheet cX7_isSheet 1 (some .boolean), .methodLink RX7 64 yX4_hasNothing, .instanceMethod yX4_hasNothing, .selects RX4 yX4_hasNothing yX4_hasNothing, .initialized RX4, .code yX4_hasNothing cX4_hasNothing 1 (some .boolean), .fieldLink RX4 15 "DebtLamps$Sheet" "length" "I", .methodLink RX7 170 yX4_loseRow, .instanceMethod yX4_loseRow, .selects RX4 yX4_loseRow yX4_loseRow, .code yX4_loseRow cX4_loseRow 1 none] ++ wsX70 ++ wsX40)
def wsX7_put_r1 : List Cond := [Cond.fieldLink RX7 45 "DebtLamps" "latestFault" "I", Cond.fieldLink RX7 41 "DebtLamps" "sheets" "[LDebtLamps$Sheet;", Cond.methodLink RX7 49 yX7_isSheet, Cond.static yX7_isSheet, Cond.initialized RX7, Cond.code yX7_isSheet cX7_isSheet 1 (some .boolean), Cond.methodLink RX7 64 yX4_hasNothing, Cond.instanceMethod yX4_hasNothing, Cond.selects RX4 yX4_hasNothing yX4_hasNothing, Cond.initialized RX4, Cond.code yX4_hasNothing cX4_hasNothing 1 (some .boolean), Cond.fieldLink RX4 15 "DebtLamps$Sheet" "length" "I", Cond.methodLink RX7 60 yX7_faulted, Cond.instanceMethod yX7_faulted, Cond.selects RX7 yX7_faulted yX7_faulted, Cond.code yX7_faulted cX7_faulted 2 (some .int), Cond.methodLink RX7 173 yX4_hasCell, Cond.instanceMethod yX4_hasCell, Cond.selects RX4 yX4_hasCell yX4_hasCell, Cond.code yX4_hasCell cX4_hasCell 2 (some .boolean), Cond.methodLink RX7 176 yX4_setCut, Cond.instanceMethod yX4_setCut, Cond.selects RX4 yX4_setCut yX4_setCut, Cond.code yX4_setCut cX4_setCut 3 none]
def wsX7_put_r2 : List Cond := [Cond.fieldLink RX4 9 "DebtLamps$Sheet" "cells" "[I", Cond.fieldLink RX4 19 "DebtLamps$Sheet" "lane" "I", Cond.methodLink RX4 35 yX4_hasCell]
def wsX7_put : List Cond := .code yX7_put cX7_put 5 (some .int) :: ((wsX7_put_r1 ++ wsX7_put_r2) ++ wsX70 ++ wsX40)
def wsX7_lostBy : List Cond := .code yX7_lostBy cX7_lostBy 2 (some .long) :: ([.fieldLink RX7 45 "DebtLamps" "latestFault" "I", .constantLong RX7 161 (-9223372036854775808)] ++ wsX70)
def wsX7_cell_r1 : List Cond := [Cond.fieldLink RX7 45 "DebtLamps" "latestFault" "I", Cond.constantLong RX7 161 (-9223372036854775808), Cond.fieldLink RX7 41 "DebtLamps" "sheets" "[LDebtLamps$Sheet;", Cond.methodLink RX7 49 yX7_isSheet, Cond.static yX7_isSheet, Cond.initialized RX7, Cond.code yX7_isSheet cX7_isSheet 1 (some .boolean), Cond.methodLink RX7 53 yX7_isWithin, Cond.static yX7_isWithin, Cond.code yX7_isWithin cX7_isWithin 2 (some .boolean), Cond.methodLink RX7 57 yX4_isOfLane, Cond.instanceMethod yX4_isOfLane, Cond.selects RX4 yX4_isOfLane yX4_isOfLane, Cond.initialized RX4, Cond.code yX4_isOfLane cX4_isOfLane 2 (some .boolean), Cond.fieldLink RX4 19 "DebtLamps$Sheet" "lane" "I", Cond.methodLink RX4 31 yX4_hasNothing, Cond.instanceMethod yX4_hasNothing, Cond.selects RX4 yX4_hasNothing yX4_hasNothing, Cond.code yX4_hasNothing cX4_hasNothing 1 (some .boolean), Cond.fieldLink RX4 15 "DebtLamps$Sheet" "length" "I", Cond.methodLink RX7 179 yX7_lostBy, Cond.instanceMethod yX7_lostBy, Cond.selects RX7 yX7_lostBy yX7_lostBy]
def wsX7_cell_r2 : List Cond := [Cond.code yX7_lostBy cX7_lostBy 2 (some .long), Cond.methodLink RX7 64 yX4_hasNothing, Cond.methodLink RX7 173 yX4_hasCell, Cond.instanceMethod yX4_hasCell, Cond.selects RX4 yX4_hasCell yX4_hasCell, Cond.code yX4_hasCell cX4_hasCell 2 (some .boolean), Cond.methodLink RX7 126 yX4_valueAt, Cond.instanceMethod yX4_valueAt, Cond.selects RX4 yX4_valueAt yX4_valueAt, Cond.code yX4_valueAt cX4_valueAt 2 (some .int), Cond.fieldLink RX4 9 "DebtLamps$Sheet" "cells" "[I", Cond.methodLink RX4 35 yX4_hasCell]
def wsX7_cell : List Cond := .code yX7_cell cX7_cell 5 (some .long) :: ((wsX7_cell_r1 ++ wsX7_cell_r2) ++ wsX70 ++ wsX40)
def wsX7_copy_r1 : List Cond := [Cond.fieldLink RX7 45 "DebtLamps" "latestFault" "I", Cond.fieldLink RX7 41 "DebtLamps" "sheets" "[LDebtLamps$Sheet;", Cond.methodLink RX7 189 arraycopyName, Cond.native arraycopyName, Cond.static arraycopyName, Cond.initialized "java/lang/System", Cond.methodLink RX7 49 yX7_isSheet, Cond.static yX7_isSheet, Cond.initialized RX7, Cond.code yX7_isSheet cX7_isSheet 1 (some .boolean), Cond.methodLink RX7 64 yX4_hasNothing, Cond.instanceMethod yX4_hasNothing, Cond.selects RX4 yX4_hasNothing yX4_hasNothing, Cond.initialized RX4, Cond.code yX4_hasNothing cX4_hasNothing 1 (some .boolean), Cond.fieldLink RX4 15 "DebtLamps$Sheet" "length" "I", Cond.methodLink RX7 60 yX7_faulted, Cond.instanceMethod yX7_faulted, Cond.selects RX7 yX7_faulted yX7_faulted, Cond.code yX7_faulted cX7_faulted 2 (some .int), Cond.methodLink RX7 57 yX4_isOfLane, Cond.instanceMethod yX4_isOfLane, Cond.selects RX4 yX4_isOfLane yX4_isOfLane, Cond.code yX4_isOfLane cX4_isOfLane 2 (some .boolean)]
def wsX7_copy_r2 : List Cond := [Cond.fieldLink RX4 19 "DebtLamps$Sheet" "lane" "I", Cond.methodLink RX4 31 yX4_hasNothing, Cond.methodLink RX7 68 yX4_hasCells, Cond.instanceMethod yX4_hasCells, Cond.selects RX4 yX4_hasCells yX4_hasCells, Cond.code yX4_hasCells cX4_hasCells 3 (some .boolean)]
def wsX7_copy : List Cond := .code yX7_copy cX7_copy 8 (some .int) :: ((wsX7_copy_r1 ++ wsX7_copy_r2) ++ wsX70 ++ wsX40)
def wsX7_tell_r1 : List Cond := [Cond.fieldLink RX7 12 "DebtLamps" "now" "LDebtLamps$Town;", Cond.fieldLink RX7 27 "DebtLamps" "trail" "LDebtLamps$Trail;", Cond.methodLink RX7 86 yX7_isPerson, Cond.instanceMethod yX7_isPerson, Cond.selects RX7 yX7_isPerson yX7_isPerson, Cond.initialized RX7, Cond.code yX7_isPerson cX7_isPerson 2 (some .boolean), Cond.methodLink RX7 195 yX5_bodyOf, Cond.instanceMethod yX5_bodyOf, Cond.selects RX5 yX5_bodyOf yX5_bodyOf, Cond.initialized RX5, Cond.code yX5_bodyOf cX5_bodyOf 2 (some (.object "DebtLamps$Person")), Cond.fieldLink RX5 18 "DebtLamps$Town" "bodies" "[LDebtLamps$Person;", Cond.fieldLink RX5 24 "DebtLamps$Town" "kindOf" "[I", Cond.methodLink RX7 93 yX5_penceInAll, Cond.instanceMethod yX5_penceInAll, Cond.selects RX5 yX5_penceInAll yX5_penceInAll, Cond.code yX5_penceInAll cX5_penceInAll 4 (some .int), Cond.fieldLink RX5 40 "DebtLamps$Town" "people" "I", Cond.fieldLink RX5 30 "DebtLamps$Town" "pence" "[[I", Cond.methodLink RX7 199 ⟨"DebtLamps$Person", "telling", "(ILDebtLamps$Trail;)I"⟩, Cond.sameMethod "DebtLamps$Person" "DebtLamps$Person" "telling" "(ILDebtLamps$Trail;)I", Cond.instanceMethod ⟨"DebtLamps$Person", "telling", "(ILDebtLamps$Trail;)I"⟩, Cond.selects RX0 ⟨"DebtLamps$Person", "telling", "(ILDebtLamps$Trail;)I"⟩ yX0_telling]
def wsX7_tell_r2 : List Cond := [Cond.instanceMethod yX0_telling, Cond.initialized RX0, Cond.code yX0_telling cX0_telling 4 (some .int), Cond.methodLink RX0 7 yX6_leave, Cond.instanceMethod yX6_leave, Cond.selects RX6 yX6_leave yX6_leave, Cond.initialized RX6, Cond.code yX6_leave cX6_leave 2 none, Cond.fieldLink RX6 7 "DebtLamps$Trail" "value" "I", Cond.methodLink RX0 13 yX3_telling, Cond.sameMethod "DebtLamps$Rich" "DebtLamps$Rich" "telling" "(ILDebtLamps$Trail;)I", Cond.superclass RX0 RX3, Cond.instanceMethod yX3_telling, Cond.initialized RX3, Cond.code yX3_telling cX3_telling 3 (some .int), Cond.methodLink RX3 7 yX6_leave, Cond.methodLink RX3 13 ⟨"DebtLamps$Rich", "plainTelling", "(ILDebtLamps$Trail;)I"⟩, Cond.sameMethod "DebtLamps$Rich" "DebtLamps$Person" "plainTelling" "(ILDebtLamps$Trail;)I", Cond.selects RX0 ⟨"DebtLamps$Rich", "plainTelling", "(ILDebtLamps$Trail;)I"⟩ yX1_plainTelling, Cond.instanceMethod yX1_plainTelling, Cond.initialized RX1, Cond.code yX1_plainTelling cX1_plainTelling 3 (some .int), Cond.methodLink RX1 13 yX6_leave, Cond.selects RX3 ⟨"DebtLamps$Rich", "plainTelling", "(ILDebtLamps$Trail;)I"⟩ yX1_plainTelling]
def wsX7_tell_r3 : List Cond := [Cond.methodLink RX0 17 ⟨"DebtLamps$Bankrupt", "plainTelling", "(ILDebtLamps$Trail;)I"⟩, Cond.sameMethod "DebtLamps$Bankrupt" "DebtLamps$Person" "plainTelling" "(ILDebtLamps$Trail;)I", Cond.selects RX0 ⟨"DebtLamps$Bankrupt", "plainTelling", "(ILDebtLamps$Trail;)I"⟩ yX1_plainTelling, Cond.code yX1_telling cX1_telling 3 (some .int), Cond.methodLink RX7 199 yX1_telling, Cond.instanceMethod yX1_telling, Cond.selects RX1 yX1_telling yX1_telling, Cond.methodLink RX1 7 ⟨"DebtLamps$Person", "plainTelling", "(ILDebtLamps$Trail;)I"⟩, Cond.sameMethod "DebtLamps$Person" "DebtLamps$Person" "plainTelling" "(ILDebtLamps$Trail;)I", Cond.selects RX0 ⟨"DebtLamps$Person", "plainTelling", "(ILDebtLamps$Trail;)I"⟩ yX1_plainTelling, Cond.methodLink RX1 7 yX1_plainTelling, Cond.selects RX1 yX1_plainTelling yX1_plainTelling, Cond.selects RX3 ⟨"DebtLamps$Person", "plainTelling", "(ILDebtLamps$Trail;)I"⟩ yX1_plainTelling, Cond.selects RX3 ⟨"DebtLamps$Person", "telling", "(ILDebtLamps$Trail;)I"⟩ yX3_telling]
def wsX7_tell : List Cond := .code yX7_tell cX7_tell 2 (some .int) :: ((wsX7_tell_r1 ++ (wsX7_tell_r2 ++ wsX7_tell_r3)) ++ wsX70 ++ wsX50 ++ wsX60)
def wsX7_hail_r1 : List Cond := [Cond.fieldLink RX7 12 "DebtLamps" "now" "LDebtLamps$Town;", Cond.fieldLink RX7 27 "DebtLamps" "trail" "LDebtLamps$Trail;", Cond.methodLink RX7 86 yX7_isPerson, Cond.instanceMethod yX7_isPerson, Cond.selects RX7 yX7_isPerson yX7_isPerson, Cond.initialized RX7, Cond.code yX7_isPerson cX7_isPerson 2 (some .boolean), Cond.methodLink RX7 195 yX5_bodyOf, Cond.instanceMethod yX5_bodyOf, Cond.selects RX5 yX5_bodyOf yX5_bodyOf, Cond.initialized RX5, Cond.code yX5_bodyOf cX5_bodyOf 2 (some (.object "DebtLamps$Person")), Cond.fieldLink RX5 18 "DebtLamps$Town" "bodies" "[LDebtLamps$Person;", Cond.fieldLink RX5 24 "DebtLamps$Town" "kindOf" "[I", Cond.methodLink RX7 205 ⟨"DebtLamps$Person", "hailing", "(ILDebtLamps$Trail;)I"⟩, Cond.sameMethod "DebtLamps$Person" "DebtLamps$Person" "hailing" "(ILDebtLamps$Trail;)I", Cond.instanceMethod ⟨"DebtLamps$Person", "hailing", "(ILDebtLamps$Trail;)I"⟩, Cond.selects RX0 ⟨"DebtLamps$Person", "hailing", "(ILDebtLamps$Trail;)I"⟩ yX0_hailing, Cond.instanceMethod yX0_hailing, Cond.initialized RX0, Cond.code yX0_hailing cX0_hailing 3 (some .int), Cond.methodLink RX0 7 yX6_leave, Cond.instanceMethod yX6_leave, Cond.selects RX6 yX6_leave yX6_leave]
def wsX7_hail_r2 : List Cond := [Cond.initialized RX6, Cond.code yX6_leave cX6_leave 2 none, Cond.fieldLink RX6 7 "DebtLamps$Trail" "value" "I", Cond.code yX1_hailing cX1_hailing 3 (some .int), Cond.methodLink RX7 205 yX1_hailing, Cond.instanceMethod yX1_hailing, Cond.selects RX1 yX1_hailing yX1_hailing, Cond.initialized RX1, Cond.methodLink RX1 13 yX6_leave, Cond.selects RX3 ⟨"DebtLamps$Person", "hailing", "(ILDebtLamps$Trail;)I"⟩ yX1_hailing]
def wsX7_hail : List Cond := .code yX7_hail cX7_hail 2 (some .int) :: ((wsX7_hail_r1 ++ wsX7_hail_r2) ++ wsX70 ++ wsX50 ++ wsX60)
def wsX7_as : List Cond := .code yX7_as cX7_as 3 (some .int) :: ([.fieldLink RX7 45 "DebtLamps" "latestFault" "I", .fieldLink RX7 12 "DebtLamps" "now" "LDebtLamps$Town;", .methodLink RX7 86 yX7_isPerson, .instanceMethod yX7_isPerson, .selects RX7 yX7_isPerson yX7_isPerson, .initialized RX7, .code yX7_isPerson cX7_isPerson 2 (some .boolean), .methodLink RX7 53 yX7_isWithin, .static yX7_isWithin, .code yX7_isWithin cX7_isWithin 2 (some .boolean), .methodLink RX7 60 yX7_faulted, .instanceMethod yX7_faulted, .selects RX7 yX7_faulted yX7_faulted, .code yX7_faulted cX7_faulted 2 (some .int)] ++ wsX70 ++ wsX50)
def wsX7_trace : List Cond := .code yX7_trace cX7_trace 1 (some .int) :: ([.fieldLink RX7 27 "DebtLamps" "trail" "LDebtLamps$Trail;"] ++ wsX70 ++ wsX60)
def wsX7_fault : List Cond := .code yX7_fault cX7_fault 1 (some .int) :: ([.fieldLink RX7 45 "DebtLamps" "latestFault" "I"] ++ wsX70)
def wsJ6_bitCount_0f7a4 : List Cond := .code yJ6_bitCount_0f7a4 cJ6_bitCount_0f7a4 1 (some .int) :: ([.constant RJ6 265 (1431655765), .constant RJ6 266 (858993459), .constant RJ6 267 (252645135)])
def wsX7_many_r1 : List Cond := [Cond.fieldLink RX7 12 "DebtLamps" "now" "LDebtLamps$Town;", Cond.fieldLink RX7 34 "DebtLamps" "readings" "LDebtLamps$Readings;", Cond.methodLink RX7 122 yX5_litLamps, Cond.instanceMethod yX5_litLamps, Cond.selects RX5 yX5_litLamps yX5_litLamps, Cond.initialized RX5, Cond.code yX5_litLamps cX5_litLamps 3 (some .int), Cond.fieldLink RX5 40 "DebtLamps$Town" "people" "I", Cond.methodLink RX5 82 yX5_lighterAmong, Cond.instanceMethod yX5_lighterAmong, Cond.selects RX5 yX5_lighterAmong yX5_lighterAmong, Cond.code yX5_lighterAmong cX5_lighterAmong 7 (some .int), Cond.methodLink RX5 78 yX5_weightOf, Cond.instanceMethod yX5_weightOf, Cond.selects RX5 yX5_weightOf yX5_weightOf, Cond.code yX5_weightOf cX5_weightOf 3 (some .int), Cond.fieldLink RX5 18 "DebtLamps$Town" "bodies" "[LDebtLamps$Person;", Cond.fieldLink RX5 24 "DebtLamps$Town" "kindOf" "[I", Cond.fieldLink RX5 30 "DebtLamps$Town" "pence" "[[I", Cond.methodLink RX5 75 ⟨"DebtLamps$Person", "weigh", "(I)I"⟩, Cond.sameMethod "DebtLamps$Person" "DebtLamps$Person" "weigh" "(I)I", Cond.instanceMethod ⟨"DebtLamps$Person", "weigh", "(I)I"⟩, Cond.selects RX0 ⟨"DebtLamps$Person", "weigh", "(I)I"⟩ yX0_weigh, Cond.instanceMethod yX0_weigh]
def wsX7_many_r2 : List Cond := [Cond.initialized RX0, Cond.code yX0_weigh cX0_weigh 2 (some .int), Cond.code yX1_weigh cX1_weigh 2 (some .int), Cond.methodLink RX5 75 yX1_weigh, Cond.instanceMethod yX1_weigh, Cond.selects RX1 yX1_weigh yX1_weigh, Cond.initialized RX1, Cond.selects RX3 ⟨"DebtLamps$Person", "weigh", "(I)I"⟩ yX3_weigh, Cond.instanceMethod yX3_weigh, Cond.initialized RX3, Cond.code yX3_weigh cX3_weigh 2 (some .int), Cond.methodLink RX7 211 yJ6_bitCount_0f7a4, Cond.static yJ6_bitCount_0f7a4, Cond.initialized RJ6, Cond.code yJ6_bitCount_0f7a4 cJ6_bitCount_0f7a4 1 (some .int), Cond.constant RJ6 265 (1431655765), Cond.constant RJ6 266 (858993459), Cond.constant RJ6 267 (252645135)]
def wsX7_many : List Cond := .code yX7_many cX7_many 2 (some .int) :: ((wsX7_many_r1 ++ wsX7_many_r2) ++ wsX70 ++ wsX50 ++ wsX20)
def wsX8_init : List Cond := .code yX8_init cX8_init 1 none :: ([.methodLink RX8 1 objectInit, .instanceMethod objectInit, .code objectInit ⟨#[0xb1]⟩ 1 none, .arrayClass .int, .fieldLink RX8 9 "DebtLampsModel" "sorts" "[I", .fieldLink RX8 13 "DebtLampsModel" "sheetLong" "[I", .fieldLink RX8 16 "DebtLampsModel" "cells" "[I", .fieldLink RX8 19 "DebtLampsModel" "kind" "[I", .fieldLink RX8 22 "DebtLampsModel" "pence" "[I", .fieldLink RX8 25 "DebtLampsModel" "readKind" "[I", .fieldLink RX8 28 "DebtLampsModel" "readPence" "[I", .fieldLink RX8 31 "DebtLampsModel" "lighters" "[I", .arrayClass .boolean, .fieldLink RX8 34 "DebtLampsModel" "inTime" "[Z", .fieldLink RX8 38 "DebtLampsModel" "kept" "[I", .fieldLink RX8 41 "DebtLampsModel" "readDusk" "[I", .fieldLink RX8 44 "DebtLampsModel" "readLamp" "[I", .fieldLink RX8 47 "DebtLampsModel" "readLighter" "[I"] ++ wsX80)
def wsX8_fails : List Cond := .code yX8_fails cX8_fails 2 (some .int) :: ([.fieldLink RX8 50 "DebtLampsModel" "fault" "I"] ++ wsX80)
def wsX8_lost : List Cond := .code yX8_lost cX8_lost 2 (some .long) :: ([.fieldLink RX8 50 "DebtLampsModel" "fault" "I", .constantLong RX8 54 (-9223372036854775808)] ++ wsX80)
def wsX8_within : List Cond := .code yX8_within cX8_within 3 (some .boolean) :: ([])
def wsX8_isSheet : List Cond := .code yX8_isSheet cX8_isSheet 1 (some .boolean) :: ([.methodLink RX8 56 yX8_within, .static yX8_within, .initialized RX8, .code yX8_within cX8_within 3 (some .boolean)])
def wsX8_isSort : List Cond := .code yX8_isSort cX8_isSort 1 (some .boolean) :: ([.methodLink RX8 56 yX8_within, .static yX8_within, .initialized RX8, .code yX8_within cX8_within 3 (some .boolean)])
def wsX8_against : List Cond := .code yX8_against cX8_against 5 (some .int) :: ([.fieldLink RX8 9 "DebtLampsModel" "sorts" "[I", .fieldLink RX8 13 "DebtLampsModel" "sheetLong" "[I"] ++ wsX80)
def wsX8_isPerson : List Cond := .code yX8_isPerson cX8_isPerson 2 (some .boolean) :: ([.fieldLink RX8 60 "DebtLampsModel" "people" "I"] ++ wsX80)
def wsX8_areTwo : List Cond := .code yX8_areTwo cX8_areTwo 3 (some .boolean) :: ([.methodLink RX8 63 yX8_isPerson, .instanceMethod yX8_isPerson, .selects RX8 yX8_isPerson yX8_isPerson, .initialized RX8, .code yX8_isPerson cX8_isPerson 2 (some .boolean), .fieldLink RX8 60 "DebtLampsModel" "people" "I"] ++ wsX80)
def wsX8_spot : List Cond := .code yX8_spot cX8_spot 2 (some .int) :: ([])
def wsX8_digit : List Cond := .code yX8_digit cX8_digit 4 (some .int) :: ([.fieldLink RX8 67 "DebtLampsModel" "at" "I", .fieldLink RX8 16 "DebtLampsModel" "cells" "[I", .methodLink RX8 56 yX8_within, .static yX8_within, .initialized RX8, .code yX8_within cX8_within 3 (some .boolean)] ++ wsX80)
def wsX8_isSign : List Cond := .code yX8_isSign cX8_isSign 3 (some .boolean) :: ([.fieldLink RX8 67 "DebtLampsModel" "at" "I", .fieldLink RX8 16 "DebtLampsModel" "cells" "[I"] ++ wsX80)
def wsX8_readPerson : List Cond := .code yX8_readPerson cX8_readPerson 5 (some .boolean) :: ([.fieldLink RX8 67 "DebtLampsModel" "at" "I", .fieldLink RX8 16 "DebtLampsModel" "cells" "[I", .fieldLink RX8 25 "DebtLampsModel" "readKind" "[I", .fieldLink RX8 87 "DebtLampsModel" "readMany" "I", .fieldLink RX8 28 "DebtLampsModel" "readPence" "[I", .methodLink RX8 110 yX8_spot, .static yX8_spot, .initialized RX8, .code yX8_spot cX8_spot 2 (some .int), .methodLink RX8 103 yX8_digit, .instanceMethod yX8_digit, .selects RX8 yX8_digit yX8_digit, .code yX8_digit cX8_digit 4 (some .int), .methodLink RX8 56 yX8_within, .static yX8_within, .code yX8_within cX8_within 3 (some .boolean)] ++ wsX80)
def wsX8_readTown_r1 : List Cond := [Cond.fieldLink RX8 87 "DebtLampsModel" "readMany" "I", Cond.fieldLink RX8 90 "DebtLampsModel" "readBell" "I", Cond.fieldLink RX8 67 "DebtLampsModel" "at" "I", Cond.methodLink RX8 99 yX8_isSign, Cond.instanceMethod yX8_isSign, Cond.selects RX8 yX8_isSign yX8_isSign, Cond.initialized RX8, Cond.code yX8_isSign cX8_isSign 3 (some .boolean), Cond.fieldLink RX8 16 "DebtLampsModel" "cells" "[I", Cond.methodLink RX8 103 yX8_digit, Cond.instanceMethod yX8_digit, Cond.selects RX8 yX8_digit yX8_digit, Cond.code yX8_digit cX8_digit 4 (some .int), Cond.methodLink RX8 56 yX8_within, Cond.static yX8_within, Cond.code yX8_within cX8_within 3 (some .boolean), Cond.methodLink RX8 107 yX8_readPerson, Cond.instanceMethod yX8_readPerson, Cond.selects RX8 yX8_readPerson yX8_readPerson, Cond.code yX8_readPerson cX8_readPerson 5 (some .boolean), Cond.fieldLink RX8 25 "DebtLampsModel" "readKind" "[I", Cond.fieldLink RX8 28 "DebtLampsModel" "readPence" "[I", Cond.methodLink RX8 110 yX8_spot, Cond.static yX8_spot]
def wsX8_readTown_r2 : List Cond := [Cond.code yX8_spot cX8_spot 2 (some .int)]
def wsX8_readTown : List Cond := .code yX8_readTown cX8_readTown 3 (some .boolean) :: ((wsX8_readTown_r1 ++ wsX8_readTown_r2) ++ wsX80)
def wsX8_town_r1 : List Cond := [Cond.fieldLink RX8 50 "DebtLampsModel" "fault" "I", Cond.fieldLink RX8 67 "DebtLampsModel" "at" "I", Cond.fieldLink RX8 87 "DebtLampsModel" "readMany" "I", Cond.fieldLink RX8 60 "DebtLampsModel" "people" "I", Cond.fieldLink RX8 90 "DebtLampsModel" "readBell" "I", Cond.fieldLink RX8 93 "DebtLampsModel" "bell" "I", Cond.fieldLink RX8 19 "DebtLampsModel" "kind" "[I", Cond.fieldLink RX8 25 "DebtLampsModel" "readKind" "[I", Cond.fieldLink RX8 22 "DebtLampsModel" "pence" "[I", Cond.fieldLink RX8 28 "DebtLampsModel" "readPence" "[I", Cond.fieldLink RX8 96 "DebtLampsModel" "readings" "I", Cond.methodLink RX8 70 yX8_isSheet, Cond.static yX8_isSheet, Cond.initialized RX8, Cond.code yX8_isSheet cX8_isSheet 1 (some .boolean), Cond.methodLink RX8 56 yX8_within, Cond.static yX8_within, Cond.code yX8_within cX8_within 3 (some .boolean), Cond.methodLink RX8 73 yX8_isSort, Cond.static yX8_isSort, Cond.code yX8_isSort cX8_isSort 1 (some .boolean), Cond.methodLink RX8 76 yX8_against, Cond.instanceMethod yX8_against, Cond.selects RX8 yX8_against yX8_against]
def wsX8_town_r2 : List Cond := [Cond.code yX8_against cX8_against 5 (some .int), Cond.fieldLink RX8 9 "DebtLampsModel" "sorts" "[I", Cond.fieldLink RX8 13 "DebtLampsModel" "sheetLong" "[I", Cond.methodLink RX8 80 yX8_fails, Cond.instanceMethod yX8_fails, Cond.selects RX8 yX8_fails yX8_fails, Cond.code yX8_fails cX8_fails 2 (some .int), Cond.methodLink RX8 84 yX8_readTown, Cond.instanceMethod yX8_readTown, Cond.selects RX8 yX8_readTown yX8_readTown, Cond.code yX8_readTown cX8_readTown 3 (some .boolean), Cond.methodLink RX8 99 yX8_isSign, Cond.instanceMethod yX8_isSign, Cond.selects RX8 yX8_isSign yX8_isSign, Cond.code yX8_isSign cX8_isSign 3 (some .boolean), Cond.fieldLink RX8 16 "DebtLampsModel" "cells" "[I", Cond.methodLink RX8 103 yX8_digit, Cond.instanceMethod yX8_digit, Cond.selects RX8 yX8_digit yX8_digit, Cond.code yX8_digit cX8_digit 4 (some .int), Cond.methodLink RX8 107 yX8_readPerson, Cond.instanceMethod yX8_readPerson, Cond.selects RX8 yX8_readPerson yX8_readPerson, Cond.code yX8_readPerson cX8_readPerson 5 (some .boolean)]
def wsX8_town_r3 : List Cond := [Cond.methodLink RX8 110 yX8_spot, Cond.static yX8_spot, Cond.code yX8_spot cX8_spot 2 (some .int)]
def wsX8_town : List Cond := .code yX8_town cX8_town 8 (some .int) :: ((wsX8_town_r1 ++ (wsX8_town_r2 ++ wsX8_town_r3)) ++ wsX80)
def wsX8_weightOf : List Cond := .code yX8_weightOf cX8_weightOf 4 (some .int) :: ([.fieldLink RX8 22 "DebtLampsModel" "pence" "[I", .fieldLink RX8 19 "DebtLampsModel" "kind" "[I", .methodLink RX8 110 yX8_spot, .static yX8_spot, .initialized RX8, .code yX8_spot cX8_spot 2 (some .int)] ++ wsX80)
def wsX8_lighterOf : List Cond := .code yX8_lighterOf cX8_lighterOf 4 (some .int) :: ([.fieldLink RX8 60 "DebtLampsModel" "people" "I", .methodLink RX8 114 yX8_weightOf, .instanceMethod yX8_weightOf, .selects RX8 yX8_weightOf yX8_weightOf, .initialized RX8, .code yX8_weightOf cX8_weightOf 4 (some .int), .fieldLink RX8 22 "DebtLampsModel" "pence" "[I", .fieldLink RX8 19 "DebtLampsModel" "kind" "[I", .methodLink RX8 110 yX8_spot, .static yX8_spot, .code yX8_spot cX8_spot 2 (some .int)] ++ wsX80)
def wsX8_roundOf : List Cond := .code yX8_roundOf cX8_roundOf 4 (some .int) :: ([.fieldLink RX8 60 "DebtLampsModel" "people" "I", .methodLink RX8 117 yX8_lighterOf, .instanceMethod yX8_lighterOf, .selects RX8 yX8_lighterOf yX8_lighterOf, .initialized RX8, .code yX8_lighterOf cX8_lighterOf 4 (some .int), .methodLink RX8 114 yX8_weightOf, .instanceMethod yX8_weightOf, .selects RX8 yX8_weightOf yX8_weightOf, .code yX8_weightOf cX8_weightOf 4 (some .int), .fieldLink RX8 22 "DebtLampsModel" "pence" "[I", .fieldLink RX8 19 "DebtLampsModel" "kind" "[I", .methodLink RX8 110 yX8_spot, .static yX8_spot, .code yX8_spot cX8_spot 2 (some .int)] ++ wsX80)
def wsX8_steps : List Cond := .code yX8_steps cX8_steps 6 (some .int) :: ([.fieldLink RX8 60 "DebtLampsModel" "people" "I"] ++ wsX80)
def wsX8_isInTime : List Cond := .code yX8_isInTime cX8_isInTime 2 (some .boolean) :: ([.fieldLink RX8 93 "DebtLampsModel" "bell" "I", .methodLink RX8 120 yX8_roundOf, .instanceMethod yX8_roundOf, .selects RX8 yX8_roundOf yX8_roundOf, .initialized RX8, .code yX8_roundOf cX8_roundOf 4 (some .int), .fieldLink RX8 60 "DebtLampsModel" "people" "I", .methodLink RX8 117 yX8_lighterOf, .instanceMethod yX8_lighterOf, .selects RX8 yX8_lighterOf yX8_lighterOf, .code yX8_lighterOf cX8_lighterOf 4 (some .int), .methodLink RX8 114 yX8_weightOf, .instanceMethod yX8_weightOf, .selects RX8 yX8_weightOf yX8_weightOf, .code yX8_weightOf cX8_weightOf 4 (some .int), .fieldLink RX8 22 "DebtLampsModel" "pence" "[I", .fieldLink RX8 19 "DebtLampsModel" "kind" "[I", .methodLink RX8 110 yX8_spot, .static yX8_spot, .code yX8_spot cX8_spot 2 (some .int), .methodLink RX8 123 yX8_steps, .instanceMethod yX8_steps, .selects RX8 yX8_steps yX8_steps, .code yX8_steps cX8_steps 6 (some .int)] ++ wsX80)
def wsX8_owesAll : List Cond := .code yX8_owesAll cX8_owesAll 4 (some .int) :: ([.fieldLink RX8 60 "DebtLampsModel" "people" "I", .fieldLink RX8 22 "DebtLampsModel" "pence" "[I", .methodLink RX8 110 yX8_spot, .static yX8_spot, .initialized RX8, .code yX8_spot cX8_spot 2 (some .int)] ++ wsX80)
def wsX8_ofPerson_r1 : List Cond := [Cond.fieldLink RX8 19 "DebtLampsModel" "kind" "[I", Cond.methodLink RX8 63 yX8_isPerson, Cond.instanceMethod yX8_isPerson, Cond.selects RX8 yX8_isPerson yX8_isPerson, Cond.initialized RX8, Cond.code yX8_isPerson cX8_isPerson 2 (some .boolean), Cond.fieldLink RX8 60 "DebtLampsModel" "people" "I", Cond.methodLink RX8 126 yX8_owesAll, Cond.instanceMethod yX8_owesAll, Cond.selects RX8 yX8_owesAll yX8_owesAll, Cond.code yX8_owesAll cX8_owesAll 4 (some .int), Cond.fieldLink RX8 22 "DebtLampsModel" "pence" "[I", Cond.methodLink RX8 110 yX8_spot, Cond.static yX8_spot, Cond.code yX8_spot cX8_spot 2 (some .int), Cond.methodLink RX8 120 yX8_roundOf, Cond.instanceMethod yX8_roundOf, Cond.selects RX8 yX8_roundOf yX8_roundOf, Cond.code yX8_roundOf cX8_roundOf 4 (some .int), Cond.methodLink RX8 117 yX8_lighterOf, Cond.instanceMethod yX8_lighterOf, Cond.selects RX8 yX8_lighterOf yX8_lighterOf, Cond.code yX8_lighterOf cX8_lighterOf 4 (some .int), Cond.methodLink RX8 114 yX8_weightOf]
def wsX8_ofPerson_r2 : List Cond := [Cond.instanceMethod yX8_weightOf, Cond.selects RX8 yX8_weightOf yX8_weightOf, Cond.code yX8_weightOf cX8_weightOf 4 (some .int), Cond.methodLink RX8 123 yX8_steps, Cond.instanceMethod yX8_steps, Cond.selects RX8 yX8_steps yX8_steps, Cond.code yX8_steps cX8_steps 6 (some .int), Cond.methodLink RX8 129 yX8_isInTime, Cond.instanceMethod yX8_isInTime, Cond.selects RX8 yX8_isInTime yX8_isInTime, Cond.code yX8_isInTime cX8_isInTime 2 (some .boolean), Cond.fieldLink RX8 93 "DebtLampsModel" "bell" "I"]
def wsX8_ofPerson : List Cond := .code yX8_ofPerson cX8_ofPerson 3 (some .int) :: ((wsX8_ofPerson_r1 ++ wsX8_ofPerson_r2) ++ wsX80)
def wsX8_owe : List Cond := .code yX8_owe cX8_owe 5 (some .int) :: ([.fieldLink RX8 22 "DebtLampsModel" "pence" "[I", .methodLink RX8 132 yX8_areTwo, .instanceMethod yX8_areTwo, .selects RX8 yX8_areTwo yX8_areTwo, .initialized RX8, .code yX8_areTwo cX8_areTwo 3 (some .boolean), .methodLink RX8 63 yX8_isPerson, .instanceMethod yX8_isPerson, .selects RX8 yX8_isPerson yX8_isPerson, .code yX8_isPerson cX8_isPerson 2 (some .boolean), .fieldLink RX8 60 "DebtLampsModel" "people" "I", .methodLink RX8 56 yX8_within, .static yX8_within, .code yX8_within cX8_within 3 (some .boolean), .methodLink RX8 110 yX8_spot, .static yX8_spot, .code yX8_spot cX8_spot 2 (some .int)] ++ wsX80)
def wsX8_owes : List Cond := .code yX8_owes cX8_owes 3 (some .int) :: ([.fieldLink RX8 22 "DebtLampsModel" "pence" "[I", .methodLink RX8 63 yX8_isPerson, .instanceMethod yX8_isPerson, .selects RX8 yX8_isPerson yX8_isPerson, .initialized RX8, .code yX8_isPerson cX8_isPerson 2 (some .boolean), .fieldLink RX8 60 "DebtLampsModel" "people" "I", .methodLink RX8 110 yX8_spot, .static yX8_spot, .code yX8_spot cX8_spot 2 (some .int)] ++ wsX80)
def wsX8_weight : List Cond := .code yX8_weight cX8_weight 3 (some .int) :: ([.methodLink RX8 63 yX8_isPerson, .instanceMethod yX8_isPerson, .selects RX8 yX8_isPerson yX8_isPerson, .initialized RX8, .code yX8_isPerson cX8_isPerson 2 (some .boolean), .fieldLink RX8 60 "DebtLampsModel" "people" "I", .methodLink RX8 114 yX8_weightOf, .instanceMethod yX8_weightOf, .selects RX8 yX8_weightOf yX8_weightOf, .code yX8_weightOf cX8_weightOf 4 (some .int), .fieldLink RX8 22 "DebtLampsModel" "pence" "[I", .fieldLink RX8 19 "DebtLampsModel" "kind" "[I", .methodLink RX8 110 yX8_spot, .static yX8_spot, .code yX8_spot cX8_spot 2 (some .int)] ++ wsX80)
def wsX8_bell : List Cond := .code yX8_bell cX8_bell 3 (some .int) :: ([.fieldLink RX8 60 "DebtLampsModel" "people" "I", .fieldLink RX8 93 "DebtLampsModel" "bell" "I", .methodLink RX8 56 yX8_within, .static yX8_within, .initialized RX8, .code yX8_within cX8_within 3 (some .boolean)] ++ wsX80)
def wsX8_lighter : List Cond := .code yX8_lighter cX8_lighter 2 (some .int) :: ([.methodLink RX8 63 yX8_isPerson, .instanceMethod yX8_isPerson, .selects RX8 yX8_isPerson yX8_isPerson, .initialized RX8, .code yX8_isPerson cX8_isPerson 2 (some .boolean), .fieldLink RX8 60 "DebtLampsModel" "people" "I", .methodLink RX8 117 yX8_lighterOf, .instanceMethod yX8_lighterOf, .selects RX8 yX8_lighterOf yX8_lighterOf, .code yX8_lighterOf cX8_lighterOf 4 (some .int), .methodLink RX8 114 yX8_weightOf, .instanceMethod yX8_weightOf, .selects RX8 yX8_weightOf yX8_weightOf, .code yX8_weightOf cX8_weightOf 4 (some .int), .fieldLink RX8 22 "DebtLampsModel" "pence" "[I", .fieldLink RX8 19 "DebtLampsModel" "kind" "[I", .methodLink RX8 110 yX8_spot, .static yX8_spot, .code yX8_spot cX8_spot 2 (some .int)] ++ wsX80)
def wsX8_lit : List Cond := .code yX8_lit cX8_lit 3 (some .int) :: ([.fieldLink RX8 60 "DebtLampsModel" "people" "I", .methodLink RX8 117 yX8_lighterOf, .instanceMethod yX8_lighterOf, .selects RX8 yX8_lighterOf yX8_lighterOf, .initialized RX8, .code yX8_lighterOf cX8_lighterOf 4 (some .int), .methodLink RX8 114 yX8_weightOf, .instanceMethod yX8_weightOf, .selects RX8 yX8_weightOf yX8_weightOf, .code yX8_weightOf cX8_weightOf 4 (some .int), .fieldLink RX8 22 "DebtLampsModel" "pence" "[I", .fieldLink RX8 19 "DebtLampsModel" "kind" "[I", .methodLink RX8 110 yX8_spot, .static yX8_spot, .code yX8_spot cX8_spot 2 (some .int)] ++ wsX80)
def wsX8_goDusk_r1 : List Cond := [Cond.fieldLink RX8 60 "DebtLampsModel" "people" "I", Cond.fieldLink RX8 31 "DebtLampsModel" "lighters" "[I", Cond.fieldLink RX8 34 "DebtLampsModel" "inTime" "[Z", Cond.fieldLink RX8 22 "DebtLampsModel" "pence" "[I", Cond.methodLink RX8 117 yX8_lighterOf, Cond.instanceMethod yX8_lighterOf, Cond.selects RX8 yX8_lighterOf yX8_lighterOf, Cond.initialized RX8, Cond.code yX8_lighterOf cX8_lighterOf 4 (some .int), Cond.methodLink RX8 114 yX8_weightOf, Cond.instanceMethod yX8_weightOf, Cond.selects RX8 yX8_weightOf yX8_weightOf, Cond.code yX8_weightOf cX8_weightOf 4 (some .int), Cond.fieldLink RX8 19 "DebtLampsModel" "kind" "[I", Cond.methodLink RX8 110 yX8_spot, Cond.static yX8_spot, Cond.code yX8_spot cX8_spot 2 (some .int), Cond.methodLink RX8 129 yX8_isInTime, Cond.instanceMethod yX8_isInTime, Cond.selects RX8 yX8_isInTime yX8_isInTime, Cond.code yX8_isInTime cX8_isInTime 2 (some .boolean), Cond.fieldLink RX8 93 "DebtLampsModel" "bell" "I", Cond.methodLink RX8 120 yX8_roundOf, Cond.instanceMethod yX8_roundOf]
def wsX8_goDusk_r2 : List Cond := [Cond.selects RX8 yX8_roundOf yX8_roundOf, Cond.code yX8_roundOf cX8_roundOf 4 (some .int), Cond.methodLink RX8 123 yX8_steps, Cond.instanceMethod yX8_steps, Cond.selects RX8 yX8_steps yX8_steps, Cond.code yX8_steps cX8_steps 6 (some .int)]
def wsX8_goDusk : List Cond := .code yX8_goDusk cX8_goDusk 4 none :: ((wsX8_goDusk_r1 ++ wsX8_goDusk_r2) ++ wsX80)
def wsX8_dusks_r1 : List Cond := [Cond.fieldLink RX8 60 "DebtLampsModel" "people" "I", Cond.methodLink RX8 56 yX8_within, Cond.static yX8_within, Cond.initialized RX8, Cond.code yX8_within cX8_within 3 (some .boolean), Cond.methodLink RX8 135 yX8_goDusk, Cond.instanceMethod yX8_goDusk, Cond.selects RX8 yX8_goDusk yX8_goDusk, Cond.code yX8_goDusk cX8_goDusk 4 none, Cond.fieldLink RX8 31 "DebtLampsModel" "lighters" "[I", Cond.fieldLink RX8 34 "DebtLampsModel" "inTime" "[Z", Cond.fieldLink RX8 22 "DebtLampsModel" "pence" "[I", Cond.methodLink RX8 117 yX8_lighterOf, Cond.instanceMethod yX8_lighterOf, Cond.selects RX8 yX8_lighterOf yX8_lighterOf, Cond.code yX8_lighterOf cX8_lighterOf 4 (some .int), Cond.methodLink RX8 114 yX8_weightOf, Cond.instanceMethod yX8_weightOf, Cond.selects RX8 yX8_weightOf yX8_weightOf, Cond.code yX8_weightOf cX8_weightOf 4 (some .int), Cond.fieldLink RX8 19 "DebtLampsModel" "kind" "[I", Cond.methodLink RX8 110 yX8_spot, Cond.static yX8_spot, Cond.code yX8_spot cX8_spot 2 (some .int)]
def wsX8_dusks_r2 : List Cond := [Cond.methodLink RX8 129 yX8_isInTime, Cond.instanceMethod yX8_isInTime, Cond.selects RX8 yX8_isInTime yX8_isInTime, Cond.code yX8_isInTime cX8_isInTime 2 (some .boolean), Cond.fieldLink RX8 93 "DebtLampsModel" "bell" "I", Cond.methodLink RX8 120 yX8_roundOf, Cond.instanceMethod yX8_roundOf, Cond.selects RX8 yX8_roundOf yX8_roundOf, Cond.code yX8_roundOf cX8_roundOf 4 (some .int), Cond.methodLink RX8 123 yX8_steps, Cond.instanceMethod yX8_steps, Cond.selects RX8 yX8_steps yX8_steps, Cond.code yX8_steps cX8_steps 6 (some .int), Cond.methodLink RX8 138 yX8_lit, Cond.instanceMethod yX8_lit, Cond.selects RX8 yX8_lit yX8_lit, Cond.code yX8_lit cX8_lit 3 (some .int)]
def wsX8_dusks : List Cond := .code yX8_dusks cX8_dusks 3 (some .int) :: ((wsX8_dusks_r1 ++ wsX8_dusks_r2) ++ wsX80)
def wsX8_keep : List Cond := .code yX8_keep cX8_keep 2 none :: ([.fieldLink RX8 38 "DebtLampsModel" "kept" "[I", .fieldLink RX8 22 "DebtLampsModel" "pence" "[I"] ++ wsX80)
def wsX8_restore : List Cond := .code yX8_restore cX8_restore 2 none :: ([.fieldLink RX8 22 "DebtLampsModel" "pence" "[I", .fieldLink RX8 38 "DebtLampsModel" "kept" "[I"] ++ wsX80)
def wsX8_later_r1 : List Cond := [Cond.methodLink RX8 63 yX8_isPerson, Cond.instanceMethod yX8_isPerson, Cond.selects RX8 yX8_isPerson yX8_isPerson, Cond.initialized RX8, Cond.code yX8_isPerson cX8_isPerson 2 (some .boolean), Cond.fieldLink RX8 60 "DebtLampsModel" "people" "I", Cond.methodLink RX8 56 yX8_within, Cond.static yX8_within, Cond.code yX8_within cX8_within 3 (some .boolean), Cond.methodLink RX8 142 yX8_keep, Cond.instanceMethod yX8_keep, Cond.selects RX8 yX8_keep yX8_keep, Cond.code yX8_keep cX8_keep 2 none, Cond.fieldLink RX8 38 "DebtLampsModel" "kept" "[I", Cond.fieldLink RX8 22 "DebtLampsModel" "pence" "[I", Cond.methodLink RX8 135 yX8_goDusk, Cond.instanceMethod yX8_goDusk, Cond.selects RX8 yX8_goDusk yX8_goDusk, Cond.code yX8_goDusk cX8_goDusk 4 none, Cond.fieldLink RX8 31 "DebtLampsModel" "lighters" "[I", Cond.fieldLink RX8 34 "DebtLampsModel" "inTime" "[Z", Cond.methodLink RX8 117 yX8_lighterOf, Cond.instanceMethod yX8_lighterOf, Cond.selects RX8 yX8_lighterOf yX8_lighterOf]
def wsX8_later_r2 : List Cond := [Cond.code yX8_lighterOf cX8_lighterOf 4 (some .int), Cond.methodLink RX8 114 yX8_weightOf, Cond.instanceMethod yX8_weightOf, Cond.selects RX8 yX8_weightOf yX8_weightOf, Cond.code yX8_weightOf cX8_weightOf 4 (some .int), Cond.fieldLink RX8 19 "DebtLampsModel" "kind" "[I", Cond.methodLink RX8 110 yX8_spot, Cond.static yX8_spot, Cond.code yX8_spot cX8_spot 2 (some .int), Cond.methodLink RX8 129 yX8_isInTime, Cond.instanceMethod yX8_isInTime, Cond.selects RX8 yX8_isInTime yX8_isInTime, Cond.code yX8_isInTime cX8_isInTime 2 (some .boolean), Cond.fieldLink RX8 93 "DebtLampsModel" "bell" "I", Cond.methodLink RX8 120 yX8_roundOf, Cond.instanceMethod yX8_roundOf, Cond.selects RX8 yX8_roundOf yX8_roundOf, Cond.code yX8_roundOf cX8_roundOf 4 (some .int), Cond.methodLink RX8 123 yX8_steps, Cond.instanceMethod yX8_steps, Cond.selects RX8 yX8_steps yX8_steps, Cond.code yX8_steps cX8_steps 6 (some .int), Cond.methodLink RX8 145 yX8_restore, Cond.instanceMethod yX8_restore]
def wsX8_later_r3 : List Cond := [Cond.selects RX8 yX8_restore yX8_restore, Cond.code yX8_restore cX8_restore 2 none]
def wsX8_later : List Cond := .code yX8_later cX8_later 4 (some .int) :: ((wsX8_later_r1 ++ (wsX8_later_r2 ++ wsX8_later_r3)) ++ wsX80)
def wsX8_dark_r1 : List Cond := [Cond.fieldLink RX8 60 "DebtLampsModel" "people" "I", Cond.methodLink RX8 142 yX8_keep, Cond.instanceMethod yX8_keep, Cond.selects RX8 yX8_keep yX8_keep, Cond.initialized RX8, Cond.code yX8_keep cX8_keep 2 none, Cond.fieldLink RX8 38 "DebtLampsModel" "kept" "[I", Cond.fieldLink RX8 22 "DebtLampsModel" "pence" "[I", Cond.methodLink RX8 138 yX8_lit, Cond.instanceMethod yX8_lit, Cond.selects RX8 yX8_lit yX8_lit, Cond.code yX8_lit cX8_lit 3 (some .int), Cond.methodLink RX8 117 yX8_lighterOf, Cond.instanceMethod yX8_lighterOf, Cond.selects RX8 yX8_lighterOf yX8_lighterOf, Cond.code yX8_lighterOf cX8_lighterOf 4 (some .int), Cond.methodLink RX8 114 yX8_weightOf, Cond.instanceMethod yX8_weightOf, Cond.selects RX8 yX8_weightOf yX8_weightOf, Cond.code yX8_weightOf cX8_weightOf 4 (some .int), Cond.fieldLink RX8 19 "DebtLampsModel" "kind" "[I", Cond.methodLink RX8 110 yX8_spot, Cond.static yX8_spot, Cond.code yX8_spot cX8_spot 2 (some .int)]
def wsX8_dark_r2 : List Cond := [Cond.methodLink RX8 135 yX8_goDusk, Cond.instanceMethod yX8_goDusk, Cond.selects RX8 yX8_goDusk yX8_goDusk, Cond.code yX8_goDusk cX8_goDusk 4 none, Cond.fieldLink RX8 31 "DebtLampsModel" "lighters" "[I", Cond.fieldLink RX8 34 "DebtLampsModel" "inTime" "[Z", Cond.methodLink RX8 129 yX8_isInTime, Cond.instanceMethod yX8_isInTime, Cond.selects RX8 yX8_isInTime yX8_isInTime, Cond.code yX8_isInTime cX8_isInTime 2 (some .boolean), Cond.fieldLink RX8 93 "DebtLampsModel" "bell" "I", Cond.methodLink RX8 120 yX8_roundOf, Cond.instanceMethod yX8_roundOf, Cond.selects RX8 yX8_roundOf yX8_roundOf, Cond.code yX8_roundOf cX8_roundOf 4 (some .int), Cond.methodLink RX8 123 yX8_steps, Cond.instanceMethod yX8_steps, Cond.selects RX8 yX8_steps yX8_steps, Cond.code yX8_steps cX8_steps 6 (some .int), Cond.methodLink RX8 145 yX8_restore, Cond.instanceMethod yX8_restore, Cond.selects RX8 yX8_restore yX8_restore, Cond.code yX8_restore cX8_restore 2 none]
def wsX8_dark : List Cond := .code yX8_dark cX8_dark 2 (some .int) :: ((wsX8_dark_r1 ++ wsX8_dark_r2) ++ wsX80)
def wsX8_ring : List Cond := .code yX8_ring cX8_ring 4 (some .int) :: ([.fieldLink RX8 60 "DebtLampsModel" "people" "I", .methodLink RX8 63 yX8_isPerson, .instanceMethod yX8_isPerson, .selects RX8 yX8_isPerson yX8_isPerson, .initialized RX8, .code yX8_isPerson cX8_isPerson 2 (some .boolean), .methodLink RX8 117 yX8_lighterOf, .instanceMethod yX8_lighterOf, .selects RX8 yX8_lighterOf yX8_lighterOf, .code yX8_lighterOf cX8_lighterOf 4 (some .int), .methodLink RX8 114 yX8_weightOf, .instanceMethod yX8_weightOf, .selects RX8 yX8_weightOf yX8_weightOf, .code yX8_weightOf cX8_weightOf 4 (some .int), .fieldLink RX8 22 "DebtLampsModel" "pence" "[I", .fieldLink RX8 19 "DebtLampsModel" "kind" "[I", .methodLink RX8 110 yX8_spot, .static yX8_spot, .code yX8_spot cX8_spot 2 (some .int)] ++ wsX80)
def wsX8_walkOf : List Cond := .code yX8_walkOf cX8_walkOf 11 (some .int) :: ([.fieldLink RX8 16 "DebtLampsModel" "cells" "[I", .methodLink RX8 120 yX8_roundOf, .instanceMethod yX8_roundOf, .selects RX8 yX8_roundOf yX8_roundOf, .initialized RX8, .code yX8_roundOf cX8_roundOf 4 (some .int), .fieldLink RX8 60 "DebtLampsModel" "people" "I", .methodLink RX8 117 yX8_lighterOf, .instanceMethod yX8_lighterOf, .selects RX8 yX8_lighterOf yX8_lighterOf, .code yX8_lighterOf cX8_lighterOf 4 (some .int), .methodLink RX8 114 yX8_weightOf, .instanceMethod yX8_weightOf, .selects RX8 yX8_weightOf yX8_weightOf, .code yX8_weightOf cX8_weightOf 4 (some .int), .fieldLink RX8 22 "DebtLampsModel" "pence" "[I", .fieldLink RX8 19 "DebtLampsModel" "kind" "[I", .methodLink RX8 110 yX8_spot, .static yX8_spot, .code yX8_spot cX8_spot 2 (some .int)] ++ wsX80)
def wsX8_walk_r1 : List Cond := [Cond.fieldLink RX8 50 "DebtLampsModel" "fault" "I", Cond.fieldLink RX8 16 "DebtLampsModel" "cells" "[I", Cond.methodLink RX8 63 yX8_isPerson, Cond.instanceMethod yX8_isPerson, Cond.selects RX8 yX8_isPerson yX8_isPerson, Cond.initialized RX8, Cond.code yX8_isPerson cX8_isPerson 2 (some .boolean), Cond.fieldLink RX8 60 "DebtLampsModel" "people" "I", Cond.methodLink RX8 70 yX8_isSheet, Cond.static yX8_isSheet, Cond.code yX8_isSheet cX8_isSheet 1 (some .boolean), Cond.methodLink RX8 56 yX8_within, Cond.static yX8_within, Cond.code yX8_within cX8_within 3 (some .boolean), Cond.methodLink RX8 73 yX8_isSort, Cond.static yX8_isSort, Cond.code yX8_isSort cX8_isSort 1 (some .boolean), Cond.methodLink RX8 76 yX8_against, Cond.instanceMethod yX8_against, Cond.selects RX8 yX8_against yX8_against, Cond.code yX8_against cX8_against 5 (some .int), Cond.fieldLink RX8 9 "DebtLampsModel" "sorts" "[I", Cond.fieldLink RX8 13 "DebtLampsModel" "sheetLong" "[I", Cond.methodLink RX8 80 yX8_fails]
def wsX8_walk_r2 : List Cond := [Cond.instanceMethod yX8_fails, Cond.selects RX8 yX8_fails yX8_fails, Cond.code yX8_fails cX8_fails 2 (some .int), Cond.methodLink RX8 148 yX8_walkOf, Cond.instanceMethod yX8_walkOf, Cond.selects RX8 yX8_walkOf yX8_walkOf, Cond.code yX8_walkOf cX8_walkOf 11 (some .int), Cond.methodLink RX8 120 yX8_roundOf, Cond.instanceMethod yX8_roundOf, Cond.selects RX8 yX8_roundOf yX8_roundOf, Cond.code yX8_roundOf cX8_roundOf 4 (some .int), Cond.methodLink RX8 117 yX8_lighterOf, Cond.instanceMethod yX8_lighterOf, Cond.selects RX8 yX8_lighterOf yX8_lighterOf, Cond.code yX8_lighterOf cX8_lighterOf 4 (some .int), Cond.methodLink RX8 114 yX8_weightOf, Cond.instanceMethod yX8_weightOf, Cond.selects RX8 yX8_weightOf yX8_weightOf, Cond.code yX8_weightOf cX8_weightOf 4 (some .int), Cond.fieldLink RX8 22 "DebtLampsModel" "pence" "[I", Cond.fieldLink RX8 19 "DebtLampsModel" "kind" "[I", Cond.methodLink RX8 110 yX8_spot, Cond.static yX8_spot, Cond.code yX8_spot cX8_spot 2 (some .int)]
def wsX8_walk : List Cond := .code yX8_walk cX8_walk 10 (some .int) :: ((wsX8_walk_r1 ++ wsX8_walk_r2) ++ wsX80)
def wsX8_free : List Cond := .code yX8_free cX8_free 5 (some .int) :: ([.fieldLink RX8 60 "DebtLampsModel" "people" "I", .fieldLink RX8 22 "DebtLampsModel" "pence" "[I", .methodLink RX8 63 yX8_isPerson, .instanceMethod yX8_isPerson, .selects RX8 yX8_isPerson yX8_isPerson, .initialized RX8, .code yX8_isPerson cX8_isPerson 2 (some .boolean), .methodLink RX8 110 yX8_spot, .static yX8_spot, .code yX8_spot cX8_spot 2 (some .int), .methodLink RX8 117 yX8_lighterOf, .instanceMethod yX8_lighterOf, .selects RX8 yX8_lighterOf yX8_lighterOf, .code yX8_lighterOf cX8_lighterOf 4 (some .int), .methodLink RX8 114 yX8_weightOf, .instanceMethod yX8_weightOf, .selects RX8 yX8_weightOf yX8_weightOf, .code yX8_weightOf cX8_weightOf 4 (some .int), .fieldLink RX8 19 "DebtLampsModel" "kind" "[I"] ++ wsX80)
def wsX8_haste : List Cond := .code yX8_haste cX8_haste 4 (some .int) :: ([.fieldLink RX8 60 "DebtLampsModel" "people" "I", .methodLink RX8 120 yX8_roundOf, .instanceMethod yX8_roundOf, .selects RX8 yX8_roundOf yX8_roundOf, .initialized RX8, .code yX8_roundOf cX8_roundOf 4 (some .int), .methodLink RX8 117 yX8_lighterOf, .instanceMethod yX8_lighterOf, .selects RX8 yX8_lighterOf yX8_lighterOf, .code yX8_lighterOf cX8_lighterOf 4 (some .int), .methodLink RX8 114 yX8_weightOf, .instanceMethod yX8_weightOf, .selects RX8 yX8_weightOf yX8_weightOf, .code yX8_weightOf cX8_weightOf 4 (some .int), .fieldLink RX8 22 "DebtLampsModel" "pence" "[I", .fieldLink RX8 19 "DebtLampsModel" "kind" "[I", .methodLink RX8 110 yX8_spot, .static yX8_spot, .code yX8_spot cX8_spot 2 (some .int), .methodLink RX8 123 yX8_steps, .instanceMethod yX8_steps, .selects RX8 yX8_steps yX8_steps, .code yX8_steps cX8_steps 6 (some .int)] ++ wsX80)
def wsX8_reading : List Cond := .code yX8_reading cX8_reading 4 (some .int) :: ([.fieldLink RX8 96 "DebtLampsModel" "readings" "I", .fieldLink RX8 41 "DebtLampsModel" "readDusk" "[I", .fieldLink RX8 44 "DebtLampsModel" "readLamp" "[I", .fieldLink RX8 47 "DebtLampsModel" "readLighter" "[I", .methodLink RX8 63 yX8_isPerson, .instanceMethod yX8_isPerson, .selects RX8 yX8_isPerson yX8_isPerson, .initialized RX8, .code yX8_isPerson cX8_isPerson 2 (some .boolean), .fieldLink RX8 60 "DebtLampsModel" "people" "I", .methodLink RX8 56 yX8_within, .static yX8_within, .code yX8_within cX8_within 3 (some .boolean)] ++ wsX80)
def wsX8_back : List Cond := .code yX8_back cX8_back 2 (some .int) :: ([.fieldLink RX8 96 "DebtLampsModel" "readings" "I", .methodLink RX8 56 yX8_within, .static yX8_within, .initialized RX8, .code yX8_within cX8_within 3 (some .boolean)] ++ wsX80)
def wsX8_areSo_r1 : List Cond := [Cond.fieldLink RX8 96 "DebtLampsModel" "readings" "I", Cond.fieldLink RX8 41 "DebtLampsModel" "readDusk" "[I", Cond.fieldLink RX8 44 "DebtLampsModel" "readLamp" "[I", Cond.fieldLink RX8 47 "DebtLampsModel" "readLighter" "[I", Cond.methodLink RX8 142 yX8_keep, Cond.instanceMethod yX8_keep, Cond.selects RX8 yX8_keep yX8_keep, Cond.initialized RX8, Cond.code yX8_keep cX8_keep 2 none, Cond.fieldLink RX8 38 "DebtLampsModel" "kept" "[I", Cond.fieldLink RX8 22 "DebtLampsModel" "pence" "[I", Cond.methodLink RX8 117 yX8_lighterOf, Cond.instanceMethod yX8_lighterOf, Cond.selects RX8 yX8_lighterOf yX8_lighterOf, Cond.code yX8_lighterOf cX8_lighterOf 4 (some .int), Cond.fieldLink RX8 60 "DebtLampsModel" "people" "I", Cond.methodLink RX8 114 yX8_weightOf, Cond.instanceMethod yX8_weightOf, Cond.selects RX8 yX8_weightOf yX8_weightOf, Cond.code yX8_weightOf cX8_weightOf 4 (some .int), Cond.fieldLink RX8 19 "DebtLampsModel" "kind" "[I", Cond.methodLink RX8 110 yX8_spot, Cond.static yX8_spot, Cond.code yX8_spot cX8_spot 2 (some .int)]
def wsX8_areSo_r2 : List Cond := [Cond.methodLink RX8 135 yX8_goDusk, Cond.instanceMethod yX8_goDusk, Cond.selects RX8 yX8_goDusk yX8_goDusk, Cond.code yX8_goDusk cX8_goDusk 4 none, Cond.fieldLink RX8 31 "DebtLampsModel" "lighters" "[I", Cond.fieldLink RX8 34 "DebtLampsModel" "inTime" "[Z", Cond.methodLink RX8 129 yX8_isInTime, Cond.instanceMethod yX8_isInTime, Cond.selects RX8 yX8_isInTime yX8_isInTime, Cond.code yX8_isInTime cX8_isInTime 2 (some .boolean), Cond.fieldLink RX8 93 "DebtLampsModel" "bell" "I", Cond.methodLink RX8 120 yX8_roundOf, Cond.instanceMethod yX8_roundOf, Cond.selects RX8 yX8_roundOf yX8_roundOf, Cond.code yX8_roundOf cX8_roundOf 4 (some .int), Cond.methodLink RX8 123 yX8_steps, Cond.instanceMethod yX8_steps, Cond.selects RX8 yX8_steps yX8_steps, Cond.code yX8_steps cX8_steps 6 (some .int), Cond.methodLink RX8 145 yX8_restore, Cond.instanceMethod yX8_restore, Cond.selects RX8 yX8_restore yX8_restore, Cond.code yX8_restore cX8_restore 2 none]
def wsX8_areSo : List Cond := .code yX8_areSo cX8_areSo 4 (some .boolean) :: ((wsX8_areSo_r1 ++ wsX8_areSo_r2) ++ wsX80)
def wsX8_debts_r1 : List Cond := [Cond.fieldLink RX8 22 "DebtLampsModel" "pence" "[I", Cond.methodLink RX8 132 yX8_areTwo, Cond.instanceMethod yX8_areTwo, Cond.selects RX8 yX8_areTwo yX8_areTwo, Cond.initialized RX8, Cond.code yX8_areTwo cX8_areTwo 3 (some .boolean), Cond.methodLink RX8 63 yX8_isPerson, Cond.instanceMethod yX8_isPerson, Cond.selects RX8 yX8_isPerson yX8_isPerson, Cond.code yX8_isPerson cX8_isPerson 2 (some .boolean), Cond.fieldLink RX8 60 "DebtLampsModel" "people" "I", Cond.methodLink RX8 110 yX8_spot, Cond.static yX8_spot, Cond.code yX8_spot cX8_spot 2 (some .int), Cond.methodLink RX8 151 yX8_areSo, Cond.instanceMethod yX8_areSo, Cond.selects RX8 yX8_areSo yX8_areSo, Cond.code yX8_areSo cX8_areSo 4 (some .boolean), Cond.fieldLink RX8 96 "DebtLampsModel" "readings" "I", Cond.fieldLink RX8 41 "DebtLampsModel" "readDusk" "[I", Cond.fieldLink RX8 44 "DebtLampsModel" "readLamp" "[I", Cond.fieldLink RX8 47 "DebtLampsModel" "readLighter" "[I", Cond.methodLink RX8 142 yX8_keep, Cond.instanceMethod yX8_keep]
def wsX8_debts_r2 : List Cond := [Cond.selects RX8 yX8_keep yX8_keep, Cond.code yX8_keep cX8_keep 2 none, Cond.fieldLink RX8 38 "DebtLampsModel" "kept" "[I", Cond.methodLink RX8 117 yX8_lighterOf, Cond.instanceMethod yX8_lighterOf, Cond.selects RX8 yX8_lighterOf yX8_lighterOf, Cond.code yX8_lighterOf cX8_lighterOf 4 (some .int), Cond.methodLink RX8 114 yX8_weightOf, Cond.instanceMethod yX8_weightOf, Cond.selects RX8 yX8_weightOf yX8_weightOf, Cond.code yX8_weightOf cX8_weightOf 4 (some .int), Cond.fieldLink RX8 19 "DebtLampsModel" "kind" "[I", Cond.methodLink RX8 135 yX8_goDusk, Cond.instanceMethod yX8_goDusk, Cond.selects RX8 yX8_goDusk yX8_goDusk, Cond.code yX8_goDusk cX8_goDusk 4 none, Cond.fieldLink RX8 31 "DebtLampsModel" "lighters" "[I", Cond.fieldLink RX8 34 "DebtLampsModel" "inTime" "[Z", Cond.methodLink RX8 129 yX8_isInTime, Cond.instanceMethod yX8_isInTime, Cond.selects RX8 yX8_isInTime yX8_isInTime, Cond.code yX8_isInTime cX8_isInTime 2 (some .boolean), Cond.fieldLink RX8 93 "DebtLampsModel" "bell" "I", Cond.methodLink RX8 120 yX8_roundOf]
def wsX8_debts_r3 : List Cond := [Cond.instanceMethod yX8_roundOf, Cond.selects RX8 yX8_roundOf yX8_roundOf, Cond.code yX8_roundOf cX8_roundOf 4 (some .int), Cond.methodLink RX8 123 yX8_steps, Cond.instanceMethod yX8_steps, Cond.selects RX8 yX8_steps yX8_steps, Cond.code yX8_steps cX8_steps 6 (some .int), Cond.methodLink RX8 145 yX8_restore, Cond.instanceMethod yX8_restore, Cond.selects RX8 yX8_restore yX8_restore, Cond.code yX8_restore cX8_restore 2 none]
def wsX8_debts : List Cond := .code yX8_debts cX8_debts 6 (some .int) :: ((wsX8_debts_r1 ++ (wsX8_debts_r2 ++ wsX8_debts_r3)) ++ wsX80)
def wsX8_kinds_r1 : List Cond := [Cond.fieldLink RX8 19 "DebtLampsModel" "kind" "[I", Cond.methodLink RX8 63 yX8_isPerson, Cond.instanceMethod yX8_isPerson, Cond.selects RX8 yX8_isPerson yX8_isPerson, Cond.initialized RX8, Cond.code yX8_isPerson cX8_isPerson 2 (some .boolean), Cond.fieldLink RX8 60 "DebtLampsModel" "people" "I", Cond.methodLink RX8 151 yX8_areSo, Cond.instanceMethod yX8_areSo, Cond.selects RX8 yX8_areSo yX8_areSo, Cond.code yX8_areSo cX8_areSo 4 (some .boolean), Cond.fieldLink RX8 96 "DebtLampsModel" "readings" "I", Cond.fieldLink RX8 41 "DebtLampsModel" "readDusk" "[I", Cond.fieldLink RX8 44 "DebtLampsModel" "readLamp" "[I", Cond.fieldLink RX8 47 "DebtLampsModel" "readLighter" "[I", Cond.methodLink RX8 142 yX8_keep, Cond.instanceMethod yX8_keep, Cond.selects RX8 yX8_keep yX8_keep, Cond.code yX8_keep cX8_keep 2 none, Cond.fieldLink RX8 38 "DebtLampsModel" "kept" "[I", Cond.fieldLink RX8 22 "DebtLampsModel" "pence" "[I", Cond.methodLink RX8 117 yX8_lighterOf, Cond.instanceMethod yX8_lighterOf, Cond.selects RX8 yX8_lighterOf yX8_lighterOf]
def wsX8_kinds_r2 : List Cond := [Cond.code yX8_lighterOf cX8_lighterOf 4 (some .int), Cond.methodLink RX8 114 yX8_weightOf, Cond.instanceMethod yX8_weightOf, Cond.selects RX8 yX8_weightOf yX8_weightOf, Cond.code yX8_weightOf cX8_weightOf 4 (some .int), Cond.methodLink RX8 110 yX8_spot, Cond.static yX8_spot, Cond.code yX8_spot cX8_spot 2 (some .int), Cond.methodLink RX8 135 yX8_goDusk, Cond.instanceMethod yX8_goDusk, Cond.selects RX8 yX8_goDusk yX8_goDusk, Cond.code yX8_goDusk cX8_goDusk 4 none, Cond.fieldLink RX8 31 "DebtLampsModel" "lighters" "[I", Cond.fieldLink RX8 34 "DebtLampsModel" "inTime" "[Z", Cond.methodLink RX8 129 yX8_isInTime, Cond.instanceMethod yX8_isInTime, Cond.selects RX8 yX8_isInTime yX8_isInTime, Cond.code yX8_isInTime cX8_isInTime 2 (some .boolean), Cond.fieldLink RX8 93 "DebtLampsModel" "bell" "I", Cond.methodLink RX8 120 yX8_roundOf, Cond.instanceMethod yX8_roundOf, Cond.selects RX8 yX8_roundOf yX8_roundOf, Cond.code yX8_roundOf cX8_roundOf 4 (some .int), Cond.methodLink RX8 123 yX8_steps]
def wsX8_kinds_r3 : List Cond := [Cond.instanceMethod yX8_steps, Cond.selects RX8 yX8_steps yX8_steps, Cond.code yX8_steps cX8_steps 6 (some .int), Cond.methodLink RX8 145 yX8_restore, Cond.instanceMethod yX8_restore, Cond.selects RX8 yX8_restore yX8_restore, Cond.code yX8_restore cX8_restore 2 none]
def wsX8_kinds : List Cond := .code yX8_kinds cX8_kinds 5 (some .int) :: ((wsX8_kinds_r1 ++ (wsX8_kinds_r2 ++ wsX8_kinds_r3)) ++ wsX80)
def wsX8_bells_r1 : List Cond := [Cond.fieldLink RX8 60 "DebtLampsModel" "people" "I", Cond.fieldLink RX8 93 "DebtLampsModel" "bell" "I", Cond.methodLink RX8 151 yX8_areSo, Cond.instanceMethod yX8_areSo, Cond.selects RX8 yX8_areSo yX8_areSo, Cond.initialized RX8, Cond.code yX8_areSo cX8_areSo 4 (some .boolean), Cond.fieldLink RX8 96 "DebtLampsModel" "readings" "I", Cond.fieldLink RX8 41 "DebtLampsModel" "readDusk" "[I", Cond.fieldLink RX8 44 "DebtLampsModel" "readLamp" "[I", Cond.fieldLink RX8 47 "DebtLampsModel" "readLighter" "[I", Cond.methodLink RX8 142 yX8_keep, Cond.instanceMethod yX8_keep, Cond.selects RX8 yX8_keep yX8_keep, Cond.code yX8_keep cX8_keep 2 none, Cond.fieldLink RX8 38 "DebtLampsModel" "kept" "[I", Cond.fieldLink RX8 22 "DebtLampsModel" "pence" "[I", Cond.methodLink RX8 117 yX8_lighterOf, Cond.instanceMethod yX8_lighterOf, Cond.selects RX8 yX8_lighterOf yX8_lighterOf, Cond.code yX8_lighterOf cX8_lighterOf 4 (some .int), Cond.methodLink RX8 114 yX8_weightOf, Cond.instanceMethod yX8_weightOf, Cond.selects RX8 yX8_weightOf yX8_weightOf]
def wsX8_bells_r2 : List Cond := [Cond.code yX8_weightOf cX8_weightOf 4 (some .int), Cond.fieldLink RX8 19 "DebtLampsModel" "kind" "[I", Cond.methodLink RX8 110 yX8_spot, Cond.static yX8_spot, Cond.code yX8_spot cX8_spot 2 (some .int), Cond.methodLink RX8 135 yX8_goDusk, Cond.instanceMethod yX8_goDusk, Cond.selects RX8 yX8_goDusk yX8_goDusk, Cond.code yX8_goDusk cX8_goDusk 4 none, Cond.fieldLink RX8 31 "DebtLampsModel" "lighters" "[I", Cond.fieldLink RX8 34 "DebtLampsModel" "inTime" "[Z", Cond.methodLink RX8 129 yX8_isInTime, Cond.instanceMethod yX8_isInTime, Cond.selects RX8 yX8_isInTime yX8_isInTime, Cond.code yX8_isInTime cX8_isInTime 2 (some .boolean), Cond.methodLink RX8 120 yX8_roundOf, Cond.instanceMethod yX8_roundOf, Cond.selects RX8 yX8_roundOf yX8_roundOf, Cond.code yX8_roundOf cX8_roundOf 4 (some .int), Cond.methodLink RX8 123 yX8_steps, Cond.instanceMethod yX8_steps, Cond.selects RX8 yX8_steps yX8_steps, Cond.code yX8_steps cX8_steps 6 (some .int), Cond.methodLink RX8 145 yX8_restore]
def wsX8_bells_r3 : List Cond := [Cond.instanceMethod yX8_restore, Cond.selects RX8 yX8_restore yX8_restore, Cond.code yX8_restore cX8_restore 2 none]
def wsX8_bells : List Cond := .code yX8_bells cX8_bells 4 (some .int) :: ((wsX8_bells_r1 ++ (wsX8_bells_r2 ++ wsX8_bells_r3)) ++ wsX80)
def wsX8_inLeastTerms : List Cond := .code yX8_inLeastTerms cX8_inLeastTerms 11 (some .long) :: ([])
def wsX8_odds_r1 : List Cond := [Cond.constantLong RX8 54 (-9223372036854775808), Cond.fieldLink RX8 60 "DebtLampsModel" "people" "I", Cond.fieldLink RX8 22 "DebtLampsModel" "pence" "[I", Cond.fieldLink RX8 38 "DebtLampsModel" "kept" "[I", Cond.methodLink RX8 63 yX8_isPerson, Cond.instanceMethod yX8_isPerson, Cond.selects RX8 yX8_isPerson yX8_isPerson, Cond.initialized RX8, Cond.code yX8_isPerson cX8_isPerson 2 (some .boolean), Cond.methodLink RX8 56 yX8_within, Cond.static yX8_within, Cond.code yX8_within cX8_within 3 (some .boolean), Cond.methodLink RX8 110 yX8_spot, Cond.static yX8_spot, Cond.code yX8_spot cX8_spot 2 (some .int), Cond.methodLink RX8 142 yX8_keep, Cond.instanceMethod yX8_keep, Cond.selects RX8 yX8_keep yX8_keep, Cond.code yX8_keep cX8_keep 2 none, Cond.methodLink RX8 117 yX8_lighterOf, Cond.instanceMethod yX8_lighterOf, Cond.selects RX8 yX8_lighterOf yX8_lighterOf, Cond.code yX8_lighterOf cX8_lighterOf 4 (some .int), Cond.methodLink RX8 114 yX8_weightOf]
def wsX8_odds_r2 : List Cond := [Cond.instanceMethod yX8_weightOf, Cond.selects RX8 yX8_weightOf yX8_weightOf, Cond.code yX8_weightOf cX8_weightOf 4 (some .int), Cond.fieldLink RX8 19 "DebtLampsModel" "kind" "[I", Cond.methodLink RX8 145 yX8_restore, Cond.instanceMethod yX8_restore, Cond.selects RX8 yX8_restore yX8_restore, Cond.code yX8_restore cX8_restore 2 none, Cond.methodLink RX8 155 yX8_inLeastTerms, Cond.static yX8_inLeastTerms, Cond.code yX8_inLeastTerms cX8_inLeastTerms 11 (some .long)]
def wsX8_odds : List Cond := .code yX8_odds cX8_odds 9 (some .long) :: ((wsX8_odds_r1 ++ wsX8_odds_r2) ++ wsX80)
def wsX8_sheet : List Cond := .code yX8_sheet cX8_sheet 5 (some .int) :: ([.fieldLink RX8 50 "DebtLampsModel" "fault" "I", .fieldLink RX8 9 "DebtLampsModel" "sorts" "[I", .fieldLink RX8 13 "DebtLampsModel" "sheetLong" "[I", .fieldLink RX8 16 "DebtLampsModel" "cells" "[I", .methodLink RX8 70 yX8_isSheet, .static yX8_isSheet, .initialized RX8, .code yX8_isSheet cX8_isSheet 1 (some .boolean), .methodLink RX8 56 yX8_within, .static yX8_within, .code yX8_within cX8_within 3 (some .boolean), .methodLink RX8 73 yX8_isSort, .static yX8_isSort, .code yX8_isSort cX8_isSort 1 (some .boolean), .methodLink RX8 80 yX8_fails, .instanceMethod yX8_fails, .selects RX8 yX8_fails yX8_fails, .code yX8_fails cX8_fails 2 (some .int)] ++ wsX80)
def wsX8_lose : List Cond := .code yX8_lose cX8_lose 3 (some .int) :: ([.fieldLink RX8 9 "DebtLampsModel" "sorts" "[I", .methodLink RX8 70 yX8_isSheet, .static yX8_isSheet, .initialized RX8, .code yX8_isSheet cX8_isSheet 1 (some .boolean), .methodLink RX8 56 yX8_within, .static yX8_within, .code yX8_within cX8_within 3 (some .boolean)] ++ wsX80)
def wsX8_put : List Cond := .code yX8_put cX8_put 4 (some .int) :: ([.fieldLink RX8 50 "DebtLampsModel" "fault" "I", .fieldLink RX8 9 "DebtLampsModel" "sorts" "[I", .fieldLink RX8 13 "DebtLampsModel" "sheetLong" "[I", .fieldLink RX8 16 "DebtLampsModel" "cells" "[I", .methodLink RX8 70 yX8_isSheet, .static yX8_isSheet, .initialized RX8, .code yX8_isSheet cX8_isSheet 1 (some .boolean), .methodLink RX8 56 yX8_within, .static yX8_within, .code yX8_within cX8_within 3 (some .boolean), .methodLink RX8 80 yX8_fails, .instanceMethod yX8_fails, .selects RX8 yX8_fails yX8_fails, .code yX8_fails cX8_fails 2 (some .int)] ++ wsX80)
def wsX8_cell : List Cond := .code yX8_cell cX8_cell 4 (some .long) :: ([.fieldLink RX8 50 "DebtLampsModel" "fault" "I", .constantLong RX8 54 (-9223372036854775808), .fieldLink RX8 9 "DebtLampsModel" "sorts" "[I", .fieldLink RX8 13 "DebtLampsModel" "sheetLong" "[I", .fieldLink RX8 16 "DebtLampsModel" "cells" "[I", .methodLink RX8 70 yX8_isSheet, .static yX8_isSheet, .initialized RX8, .code yX8_isSheet cX8_isSheet 1 (some .boolean), .methodLink RX8 56 yX8_within, .static yX8_within, .code yX8_within cX8_within 3 (some .boolean), .methodLink RX8 73 yX8_isSort, .static yX8_isSort, .code yX8_isSort cX8_isSort 1 (some .boolean), .methodLink RX8 159 yX8_lost, .instanceMethod yX8_lost, .selects RX8 yX8_lost yX8_lost, .code yX8_lost cX8_lost 2 (some .long)] ++ wsX80)
def wsX8_copy : List Cond := .code yX8_copy cX8_copy 10 (some .int) :: ([.fieldLink RX8 50 "DebtLampsModel" "fault" "I", .fieldLink RX8 9 "DebtLampsModel" "sorts" "[I", .fieldLink RX8 13 "DebtLampsModel" "sheetLong" "[I", .fieldLink RX8 16 "DebtLampsModel" "cells" "[I", .methodLink RX8 70 yX8_isSheet, .static yX8_isSheet, .initialized RX8, .code yX8_isSheet cX8_isSheet 1 (some .boolean), .methodLink RX8 56 yX8_within, .static yX8_within, .code yX8_within cX8_within 3 (some .boolean), .methodLink RX8 80 yX8_fails, .instanceMethod yX8_fails, .selects RX8 yX8_fails yX8_fails, .code yX8_fails cX8_fails 2 (some .int)] ++ wsX80)
def wsX8_begins : List Cond := .code yX8_begins cX8_begins 2 none :: ([.fieldLink RX8 163 "DebtLampsModel" "trace" "I"] ++ wsX80)
def wsX8_tell : List Cond := .code yX8_tell cX8_tell 3 (some .int) :: ([.fieldLink RX8 19 "DebtLampsModel" "kind" "[I", .methodLink RX8 63 yX8_isPerson, .instanceMethod yX8_isPerson, .selects RX8 yX8_isPerson yX8_isPerson, .initialized RX8, .code yX8_isPerson cX8_isPerson 2 (some .boolean), .fieldLink RX8 60 "DebtLampsModel" "people" "I", .methodLink RX8 126 yX8_owesAll, .instanceMethod yX8_owesAll, .selects RX8 yX8_owesAll yX8_owesAll, .code yX8_owesAll cX8_owesAll 4 (some .int), .fieldLink RX8 22 "DebtLampsModel" "pence" "[I", .methodLink RX8 110 yX8_spot, .static yX8_spot, .code yX8_spot cX8_spot 2 (some .int), .methodLink RX8 166 yX8_begins, .instanceMethod yX8_begins, .selects RX8 yX8_begins yX8_begins, .code yX8_begins cX8_begins 2 none, .fieldLink RX8 163 "DebtLampsModel" "trace" "I"] ++ wsX80)
def wsX8_hail : List Cond := .code yX8_hail cX8_hail 2 (some .int) :: ([.fieldLink RX8 19 "DebtLampsModel" "kind" "[I", .methodLink RX8 63 yX8_isPerson, .instanceMethod yX8_isPerson, .selects RX8 yX8_isPerson yX8_isPerson, .initialized RX8, .code yX8_isPerson cX8_isPerson 2 (some .boolean), .fieldLink RX8 60 "DebtLampsModel" "people" "I", .methodLink RX8 166 yX8_begins, .instanceMethod yX8_begins, .selects RX8 yX8_begins yX8_begins, .code yX8_begins cX8_begins 2 none, .fieldLink RX8 163 "DebtLampsModel" "trace" "I"] ++ wsX80)
def wsX8_as : List Cond := .code yX8_as cX8_as 3 (some .int) :: ([.fieldLink RX8 50 "DebtLampsModel" "fault" "I", .fieldLink RX8 19 "DebtLampsModel" "kind" "[I", .methodLink RX8 63 yX8_isPerson, .instanceMethod yX8_isPerson, .selects RX8 yX8_isPerson yX8_isPerson, .initialized RX8, .code yX8_isPerson cX8_isPerson 2 (some .boolean), .fieldLink RX8 60 "DebtLampsModel" "people" "I", .methodLink RX8 56 yX8_within, .static yX8_within, .code yX8_within cX8_within 3 (some .boolean), .methodLink RX8 80 yX8_fails, .instanceMethod yX8_fails, .selects RX8 yX8_fails yX8_fails, .code yX8_fails cX8_fails 2 (some .int)] ++ wsX80)
def wsX8_trace : List Cond := .code yX8_trace cX8_trace 1 (some .int) :: ([.fieldLink RX8 163 "DebtLampsModel" "trace" "I"] ++ wsX80)
def wsX8_fault : List Cond := .code yX8_fault cX8_fault 1 (some .int) :: ([.fieldLink RX8 50 "DebtLampsModel" "fault" "I"] ++ wsX80)
def wsX8_litNow : List Cond := .code yX8_litNow cX8_litNow 3 (some .int) :: ([.fieldLink RX8 60 "DebtLampsModel" "people" "I", .methodLink RX8 117 yX8_lighterOf, .instanceMethod yX8_lighterOf, .selects RX8 yX8_lighterOf yX8_lighterOf, .initialized RX8, .code yX8_lighterOf cX8_lighterOf 4 (some .int), .methodLink RX8 114 yX8_weightOf, .instanceMethod yX8_weightOf, .selects RX8 yX8_weightOf yX8_weightOf, .code yX8_weightOf cX8_weightOf 4 (some .int), .fieldLink RX8 22 "DebtLampsModel" "pence" "[I", .fieldLink RX8 19 "DebtLampsModel" "kind" "[I", .methodLink RX8 110 yX8_spot, .static yX8_spot, .code yX8_spot cX8_spot 2 (some .int)] ++ wsX80)
def wsX8_many : List Cond := .code yX8_many cX8_many 2 (some .int) :: ([.fieldLink RX8 60 "DebtLampsModel" "people" "I", .fieldLink RX8 93 "DebtLampsModel" "bell" "I", .fieldLink RX8 96 "DebtLampsModel" "readings" "I", .methodLink RX8 170 yX8_litNow, .instanceMethod yX8_litNow, .selects RX8 yX8_litNow yX8_litNow, .initialized RX8, .code yX8_litNow cX8_litNow 3 (some .int), .methodLink RX8 117 yX8_lighterOf, .instanceMethod yX8_lighterOf, .selects RX8 yX8_lighterOf yX8_lighterOf, .code yX8_lighterOf cX8_lighterOf 4 (some .int), .methodLink RX8 114 yX8_weightOf, .instanceMethod yX8_weightOf, .selects RX8 yX8_weightOf yX8_weightOf, .code yX8_weightOf cX8_weightOf 4 (some .int), .fieldLink RX8 22 "DebtLampsModel" "pence" "[I", .fieldLink RX8 19 "DebtLampsModel" "kind" "[I", .methodLink RX8 110 yX8_spot, .static yX8_spot, .code yX8_spot cX8_spot 2 (some .int)] ++ wsX80)
def wsJ9_abs_0f7a4 : List Cond := .code yJ9_abs_0f7a4 cJ9_abs_0f7a4 1 (some .int) :: ([])
def wsJ9_max_7cf53 : List Cond := .code yJ9_max_7cf53 cJ9_max_7cf53 2 (some .int) :: ([])
def wsJ9_min_7cf53 : List Cond := .code yJ9_min_7cf53 cJ9_min_7cf53 2 (some .int) :: ([])
abbrev vwCl : List vw_C := [(RX0, TX0, 0), (RX1, TX1, 0), (RX2, TX2, 4), (RX3, TX3, 0), (RX4, TX4, 3), (RX5, TX5, 7), (RX6, TX6, 1), (RX7, TX7, 7), (RX8, TX8, 21)]
end
section
set_option maxRecDepth 20000 in
theorem ggX0_init_X3_init : GoodIn wsX0_init wsX3_init := goodIn_r _ [3, 4, 5, 6, 7, 8, 9] (by decide +kernel) (by decide +kernel)
set_option maxRecDepth 20000 in
theorem gX0_init_X3_init_n1 : GoodIn wsX0_init (wsX3_init) := ggX0_init_X3_init
theorem dX0_init_0 : decode cX0_init 0 = .ok (.aload_n 0, 1) := by decide +kernel
theorem dX0_init_1 : decode cX0_init 1 = .ok (.invokespecial 1, 3) := by decide +kernel
theorem dX0_init_4 : decode cX0_init 4 = .ok (.return_, 1) := by decide +kernel
theorem dX0_weigh_0 : decode cX0_weigh 0 = .ok (.iconst 2, 1) := by decide +kernel
theorem dX0_weigh_1 : decode cX0_weigh 1 = .ok (.iload_n 1, 1) := by decide +kernel
theorem dX0_weigh_2 : decode cX0_weigh 2 = .ok (.imul, 1) := by decide +kernel
theorem dX0_weigh_3 : decode cX0_weigh 3 = .ok (.ireturn, 1) := by decide +kernel
set_option maxRecDepth 20000 in
theorem ggX0_telling_X6_leave : GoodIn wsX0_telling wsX6_leave := goodIn_r _ [5, 6, 25] (by decide +kernel) (by decide +kernel)
set_option maxRecDepth 20000 in
theorem gX0_telling_X6_leave : GoodIn wsX0_telling (wsV RX0 7 RX6 yX6_leave wsX6_leave) := goodIn_app (goodIn_of _ (by decide +kernel)) ggX0_telling_X6_leave
set_option maxRecDepth 20000 in
theorem ggX0_telling_X3_telling : GoodIn wsX0_telling wsX3_telling := goodIn_r _ [12, 13, 2, 3, 4, 5, 6, 14, 15, 16, 17, 18, 19, 20, 21, 25] (by decide +kernel) (by decide +kernel)
set_option maxRecDepth 20000 in
theorem gX0_telling_X3_telling_s13 : GoodIn wsX0_telling (va_wsSU RX0 13 yX3_telling wsX3_telling) := goodIn_app (goodIn_of _ (by decide +kernel)) ggX0_telling_X3_telling
set_option maxRecDepth 20000 in
theorem ggX0_telling_X1_plainTelling : GoodIn wsX0_telling wsX1_plainTelling := goodIn_r _ [19, 20, 2, 3, 4, 5, 6, 25] (by decide +kernel) (by decide +kernel)
set_option maxRecDepth 20000 in
theorem gX0_telling_X1_plainTelling_u17X0 : GoodIn wsX0_telling (va_wsU RX0 17 RX0 "DebtLamps$Person" ⟨"DebtLamps$Bankrupt", "plainTelling", "(ILDebtLamps$Trail;)I"⟩ yX1_plainTelling wsX1_plainTelling) := goodIn_app (goodIn_of _ (by decide +kernel)) ggX0_telling_X1_plainTelling
theorem dX0_telling_0 : decode cX0_telling 0 = .ok (.aload_n 2, 1) := by decide +kernel
theorem dX0_telling_1 : decode cX0_telling 1 = .ok (.iconst 3, 1) := by decide +kernel
theorem dX0_telling_2 : decode cX0_telling 2 = .ok (.invokevirtual 7, 3) := by decide +kernel
theorem dX0_telling_5 : decode cX0_telling 5 = .ok (.aload_n 0, 1) := by decide +kernel
theorem dX0_telling_6 : decode cX0_telling 6 = .ok (.iload_n 1, 1) := by decide +kernel
theorem dX0_telling_7 : decode cX0_telling 7 = .ok (.aload_n 2, 1) := by decide +kernel
theorem dX0_telling_8 : decode cX0_telling 8 = .ok (.invokespecial 13, 3) := by decide +kernel
theorem dX0_telling_11 : decode cX0_telling 11 = .ok (.istore_n 3, 1) := by decide +kernel
theorem dX0_telling_12 : decode cX0_telling 12 = .ok (.iload_n 3, 1) := by decide +kernel
theorem dX0_telling_13 : decode cX0_telling 13 = .ok (.aload_n 0, 1) := by decide +kernel
theorem dX0_telling_14 : decode cX0_telling 14 = .ok (.iload_n 1, 1) := by decide +kernel
theorem dX0_telling_15 : decode cX0_telling 15 = .ok (.aload_n 2, 1) := by decide +kernel
theorem dX0_telling_16 : decode cX0_telling 16 = .ok (.invokevirtual 17, 3) := by decide +kernel
theorem dX0_telling_19 : decode cX0_telling 19 = .ok (.iadd, 1) := by decide +kernel
theorem dX0_telling_20 : decode cX0_telling 20 = .ok (.ireturn, 1) := by decide +kernel
set_option maxRecDepth 20000 in
theorem ggX0_hailing_X6_leave : GoodIn wsX0_hailing wsX6_leave := goodIn_r _ [5, 6, 7] (by decide +kernel) (by decide +kernel)
set_option maxRecDepth 20000 in
theorem gX0_hailing_X6_leave : GoodIn wsX0_hailing (wsV RX0 7 RX6 yX6_leave wsX6_leave) := goodIn_app (goodIn_of _ (by decide +kernel)) ggX0_hailing_X6_leave
theorem dX0_hailing_0 : decode cX0_hailing 0 = .ok (.aload_n 2, 1) := by decide +kernel
theorem dX0_hailing_1 : decode cX0_hailing 1 = .ok (.iconst 5, 1) := by decide +kernel
theorem dX0_hailing_2 : decode cX0_hailing 2 = .ok (.invokevirtual 7, 3) := by decide +kernel
theorem dX0_hailing_5 : decode cX0_hailing 5 = .ok (.bipush 50, 2) := by decide +kernel
theorem dX0_hailing_7 : decode cX0_hailing 7 = .ok (.ireturn, 1) := by decide +kernel
theorem dX1_init_0 : decode cX1_init 0 = .ok (.aload_n 0, 1) := by decide +kernel
theorem dX1_init_1 : decode cX1_init 1 = .ok (.invokespecial 1, 3) := by decide +kernel
theorem dX1_init_4 : decode cX1_init 4 = .ok (.return_, 1) := by decide +kernel
theorem dX1_weigh_0 : decode cX1_weigh 0 = .ok (.iload_n 1, 1) := by decide +kernel
theorem dX1_weigh_1 : decode cX1_weigh 1 = .ok (.ireturn, 1) := by decide +kernel
set_option maxRecDepth 20000 in
theorem ggX1_telling_X1_plainTelling : GoodIn wsX1_telling wsX1_plainTelling := goodIn_r _ [6, 7, 8, 9, 10, 11, 12, 16] (by decide +kernel) (by decide +kernel)
set_option maxRecDepth 20000 in
theorem gX1_telling_X1_plainTelling_u7X0 : GoodIn wsX1_telling (va_wsU RX1 7 RX0 "DebtLamps$Person" ⟨"DebtLamps$Person", "plainTelling", "(ILDebtLamps$Trail;)I"⟩ yX1_plainTelling wsX1_plainTelling) := goodIn_app (goodIn_of _ (by decide +kernel)) ggX1_telling_X1_plainTelling
set_option maxRecDepth 20000 in
theorem gX1_telling_X1_plainTelling : GoodIn wsX1_telling (wsV RX1 7 RX1 yX1_plainTelling wsX1_plainTelling) := goodIn_app (goodIn_of _ (by decide +kernel)) ggX1_telling_X1_plainTelling
set_option maxRecDepth 20000 in
theorem gX1_telling_X1_plainTelling_u7X3 : GoodIn wsX1_telling (va_wsU RX1 7 RX3 "DebtLamps$Person" ⟨"DebtLamps$Person", "plainTelling", "(ILDebtLamps$Trail;)I"⟩ yX1_plainTelling wsX1_plainTelling) := goodIn_app (goodIn_of _ (by decide +kernel)) ggX1_telling_X1_plainTelling
theorem dX1_telling_0 : decode cX1_telling 0 = .ok (.aload_n 0, 1) := by decide +kernel
theorem dX1_telling_1 : decode cX1_telling 1 = .ok (.iload_n 1, 1) := by decide +kernel
theorem dX1_telling_2 : decode cX1_telling 2 = .ok (.aload_n 2, 1) := by decide +kernel
theorem dX1_telling_3 : decode cX1_telling 3 = .ok (.invokevirtual 7, 3) := by decide +kernel
theorem dX1_telling_6 : decode cX1_telling 6 = .ok (.ireturn, 1) := by decide +kernel
set_option maxRecDepth 20000 in
theorem ggX1_plainTelling_X6_leave : GoodIn wsX1_plainTelling wsX6_leave := goodIn_r _ [5, 6, 7] (by decide +kernel) (by decide +kernel)
set_option maxRecDepth 20000 in
theorem gX1_plainTelling_X6_leave : GoodIn wsX1_plainTelling (wsV RX1 13 RX6 yX6_leave wsX6_leave) := goodIn_app (goodIn_of _ (by decide +kernel)) ggX1_plainTelling_X6_leave
theorem dX1_plainTelling_0 : decode cX1_plainTelling 0 = .ok (.aload_n 2, 1) := by decide +kernel
theorem dX1_plainTelling_1 : decode cX1_plainTelling 1 = .ok (.iconst 1, 1) := by decide +kernel
theorem dX1_plainTelling_2 : decode cX1_plainTelling 2 = .ok (.invokevirtual 13, 3) := by decide +kernel
theorem dX1_plainTelling_5 : decode cX1_plainTelling 5 = .ok (.iload_n 1, 1) := by decide +kernel
theorem dX1_plainTelling_6 : decode cX1_plainTelling 6 = .ok (.ireturn, 1) := by decide +kernel
set_option maxRecDepth 20000 in
theorem ggX1_hailing_X6_leave : GoodIn wsX1_hailing wsX6_leave := goodIn_r _ [5, 6, 7] (by decide +kernel) (by decide +kernel)
set_option maxRecDepth 20000 in
theorem gX1_hailing_X6_leave : GoodIn wsX1_hailing (wsV RX1 13 RX6 yX6_leave wsX6_leave) := goodIn_app (goodIn_of _ (by decide +kernel)) ggX1_hailing_X6_leave
theorem dX1_hailing_0 : decode cX1_hailing 0 = .ok (.aload_n 2, 1) := by decide +kernel
theorem dX1_hailing_1 : decode cX1_hailing 1 = .ok (.iconst 4, 1) := by decide +kernel
theorem dX1_hailing_2 : decode cX1_hailing 2 = .ok (.invokevirtual 13, 3) := by decide +kernel
theorem dX1_hailing_5 : decode cX1_hailing 5 = .ok (.iload_n 1, 1) := by decide +kernel
theorem dX1_hailing_6 : decode cX1_hailing 6 = .ok (.ireturn, 1) := by decide +kernel
theorem dX2_init_0 : decode cX2_init 0 = .ok (.aload_n 0, 1) := by decide +kernel
theorem dX2_init_1 : decode cX2_init 1 = .ok (.invokespecial 3, 3) := by decide +kernel
theorem dX2_init_4 : decode cX2_init 4 = .ok (.aload_n 0, 1) := by decide +kernel
theorem dX2_init_5 : decode cX2_init 5 = .ok (.bipush 8, 2) := by decide +kernel
theorem dX2_init_7 : decode cX2_init 7 = .ok (.newarray .int, 2) := by decide +kernel
theorem dX2_init_9 : decode cX2_init 9 = .ok (.putfield 9, 3) := by decide +kernel
theorem dX2_init_12 : decode cX2_init 12 = .ok (.aload_n 0, 1) := by decide +kernel
theorem dX2_init_13 : decode cX2_init 13 = .ok (.bipush 8, 2) := by decide +kernel
theorem dX2_init_15 : decode cX2_init 15 = .ok (.newarray .int, 2) := by decide +kernel
theorem dX2_init_17 : decode cX2_init 17 = .ok (.putfield 15, 3) := by decide +kernel
theorem dX2_init_20 : decode cX2_init 20 = .ok (.aload_n 0, 1) := by decide +kernel
theorem dX2_init_21 : decode cX2_init 21 = .ok (.bipush 8, 2) := by decide +kernel
theorem dX2_init_23 : decode cX2_init 23 = .ok (.newarray .int, 2) := by decide +kernel
theorem dX2_init_25 : decode cX2_init 25 = .ok (.putfield 18, 3) := by decide +kernel
theorem dX2_init_28 : decode cX2_init 28 = .ok (.return_, 1) := by decide +kernel
theorem dX2_add_0 : decode cX2_add 0 = .ok (.aload_n 0, 1) := by decide +kernel
theorem dX2_add_1 : decode cX2_add 1 = .ok (.getfield 21, 3) := by decide +kernel
theorem dX2_add_4 : decode cX2_add 4 = .ok (.bipush 8, 2) := by decide +kernel
theorem dX2_add_6 : decode cX2_add 6 = .ok (.if_icmp .lt 6, 3) := by decide +kernel
theorem dX2_add_9 : decode cX2_add 9 = .ok (.bipush (-4), 2) := by decide +kernel
theorem dX2_add_11 : decode cX2_add 11 = .ok (.ireturn, 1) := by decide +kernel
theorem dX2_add_12 : decode cX2_add 12 = .ok (.aload_n 0, 1) := by decide +kernel
theorem dX2_add_13 : decode cX2_add 13 = .ok (.getfield 9, 3) := by decide +kernel
theorem dX2_add_16 : decode cX2_add 16 = .ok (.aload_n 0, 1) := by decide +kernel
theorem dX2_add_17 : decode cX2_add 17 = .ok (.getfield 21, 3) := by decide +kernel
theorem dX2_add_20 : decode cX2_add 20 = .ok (.iload_n 1, 1) := by decide +kernel
theorem dX2_add_21 : decode cX2_add 21 = .ok (.iastore, 1) := by decide +kernel
theorem dX2_add_22 : decode cX2_add 22 = .ok (.aload_n 0, 1) := by decide +kernel
theorem dX2_add_23 : decode cX2_add 23 = .ok (.getfield 15, 3) := by decide +kernel
theorem dX2_add_26 : decode cX2_add 26 = .ok (.aload_n 0, 1) := by decide +kernel
theorem dX2_add_27 : decode cX2_add 27 = .ok (.getfield 21, 3) := by decide +kernel
theorem dX2_add_30 : decode cX2_add 30 = .ok (.iload_n 2, 1) := by decide +kernel
theorem dX2_add_31 : decode cX2_add 31 = .ok (.iastore, 1) := by decide +kernel
theorem dX2_add_32 : decode cX2_add 32 = .ok (.aload_n 0, 1) := by decide +kernel
theorem dX2_add_33 : decode cX2_add 33 = .ok (.getfield 18, 3) := by decide +kernel
theorem dX2_add_36 : decode cX2_add 36 = .ok (.aload_n 0, 1) := by decide +kernel
theorem dX2_add_37 : decode cX2_add 37 = .ok (.getfield 21, 3) := by decide +kernel
theorem dX2_add_40 : decode cX2_add 40 = .ok (.iload_n 3, 1) := by decide +kernel
theorem dX2_add_41 : decode cX2_add 41 = .ok (.iastore, 1) := by decide +kernel
theorem dX2_add_42 : decode cX2_add 42 = .ok (.aload_n 0, 1) := by decide +kernel
theorem dX2_add_43 : decode cX2_add 43 = .ok (.dup, 1) := by decide +kernel
theorem dX2_add_44 : decode cX2_add 44 = .ok (.getfield 21, 3) := by decide +kernel
theorem dX2_add_47 : decode cX2_add 47 = .ok (.iconst 1, 1) := by decide +kernel
theorem dX2_add_48 : decode cX2_add 48 = .ok (.iadd, 1) := by decide +kernel
theorem dX2_add_49 : decode cX2_add 49 = .ok (.putfield 21, 3) := by decide +kernel
theorem dX2_add_52 : decode cX2_add 52 = .ok (.aload_n 0, 1) := by decide +kernel
theorem dX2_add_53 : decode cX2_add 53 = .ok (.getfield 21, 3) := by decide +kernel
theorem dX2_add_56 : decode cX2_add 56 = .ok (.iconst 1, 1) := by decide +kernel
theorem dX2_add_57 : decode cX2_add 57 = .ok (.isub, 1) := by decide +kernel
theorem dX2_add_58 : decode cX2_add 58 = .ok (.ireturn, 1) := by decide +kernel
theorem dX2_keepFirst_0 : decode cX2_keepFirst 0 = .ok (.iload_n 1, 1) := by decide +kernel
theorem dX2_keepFirst_1 : decode cX2_keepFirst 1 = .ok (.ifCond .lt 16, 3) := by decide +kernel
theorem dX2_keepFirst_4 : decode cX2_keepFirst 4 = .ok (.iload_n 1, 1) := by decide +kernel
theorem dX2_keepFirst_5 : decode cX2_keepFirst 5 = .ok (.aload_n 0, 1) := by decide +kernel
theorem dX2_keepFirst_6 : decode cX2_keepFirst 6 = .ok (.getfield 21, 3) := by decide +kernel
theorem dX2_keepFirst_9 : decode cX2_keepFirst 9 = .ok (.if_icmp .ge 8, 3) := by decide +kernel
theorem dX2_keepFirst_12 : decode cX2_keepFirst 12 = .ok (.aload_n 0, 1) := by decide +kernel
theorem dX2_keepFirst_13 : decode cX2_keepFirst 13 = .ok (.iload_n 1, 1) := by decide +kernel
theorem dX2_keepFirst_14 : decode cX2_keepFirst 14 = .ok (.putfield 21, 3) := by decide +kernel
theorem dX2_keepFirst_17 : decode cX2_keepFirst 17 = .ok (.return_, 1) := by decide +kernel
set_option maxRecDepth 20000 in
theorem ggX2_areSo_X2_latestDusk : GoodIn wsX2_areSo wsX2_latestDusk := goodIn_r _ [5, 6, 7, 8, 9, 10, 11, 70, 71, 72, 73] (by decide +kernel) (by decide +kernel)
set_option maxRecDepth 20000 in
theorem gX2_areSo_X2_latestDusk : GoodIn wsX2_areSo (wsV RX2 25 RX2 yX2_latestDusk wsX2_latestDusk) := goodIn_app (goodIn_of _ (by decide +kernel)) ggX2_areSo_X2_latestDusk
set_option maxRecDepth 20000 in
theorem ggX2_areSo_X5_passDusk : GoodIn wsX2_areSo wsX5_passDusk := goodIn_r _ [16, 17, 18, 19, 20, 21, 22, 9, 10, 11, 23, 24, 25, 26, 27, 28, 15, 29, 30, 31, 32, 33, 34, 35, 36, 37, 38, 39, 40, 41, 42, 43, 44, 45, 46, 47, 48, 49, 50, 51, 52, 53, 54, 55, 56, 57, 58, 59, 60, 61, 62, 74, 75, 76, 77, 78, 79, 80] (by decide +kernel) (by decide +kernel)
set_option maxRecDepth 20000 in
theorem gX2_areSo_X5_passDusk : GoodIn wsX2_areSo (wsV RX2 29 RX5 yX5_passDusk wsX5_passDusk) := goodIn_app (goodIn_of _ (by decide +kernel)) ggX2_areSo_X5_passDusk
set_option maxRecDepth 20000 in
theorem ggX2_areSo_X2_areSoBehind : GoodIn wsX2_areSo wsX2_areSoBehind := goodIn_r _ [66, 6, 7, 67, 68, 69, 31, 32, 15, 33, 17, 34, 35, 36, 37, 38, 39, 21, 40, 41, 42, 43, 44, 45, 46, 47, 48, 49, 50, 51, 52, 53, 54, 55, 70, 71, 72, 73, 74, 75, 76, 77, 78, 79, 80] (by decide +kernel) (by decide +kernel)
set_option maxRecDepth 20000 in
theorem gX2_areSo_X2_areSoBehind : GoodIn wsX2_areSo (wsV RX2 34 RX2 yX2_areSoBehind wsX2_areSoBehind) := goodIn_app (goodIn_of _ (by decide +kernel)) ggX2_areSo_X2_areSoBehind
theorem dX2_areSo_0 : decode cX2_areSo 0 = .ok (.aload_n 0, 1) := by decide +kernel
theorem dX2_areSo_1 : decode cX2_areSo 1 = .ok (.invokevirtual 25, 3) := by decide +kernel
theorem dX2_areSo_4 : decode cX2_areSo 4 = .ok (.istore_n 2, 1) := by decide +kernel
theorem dX2_areSo_5 : decode cX2_areSo 5 = .ok (.iconst 0, 1) := by decide +kernel
theorem dX2_areSo_6 : decode cX2_areSo 6 = .ok (.istore_n 3, 1) := by decide +kernel
theorem dX2_areSo_7 : decode cX2_areSo 7 = .ok (.iload_n 3, 1) := by decide +kernel
theorem dX2_areSo_8 : decode cX2_areSo 8 = .ok (.iload_n 2, 1) := by decide +kernel
theorem dX2_areSo_9 : decode cX2_areSo 9 = .ok (.if_icmp .gt 28, 3) := by decide +kernel
theorem dX2_areSo_12 : decode cX2_areSo 12 = .ok (.iload_n 3, 1) := by decide +kernel
theorem dX2_areSo_13 : decode cX2_areSo 13 = .ok (.ifCond .le 7, 3) := by decide +kernel
theorem dX2_areSo_16 : decode cX2_areSo 16 = .ok (.aload_n 1, 1) := by decide +kernel
theorem dX2_areSo_17 : decode cX2_areSo 17 = .ok (.invokevirtual 29, 3) := by decide +kernel
theorem dX2_areSo_20 : decode cX2_areSo 20 = .ok (.aload_n 0, 1) := by decide +kernel
theorem dX2_areSo_21 : decode cX2_areSo 21 = .ok (.iload_n 3, 1) := by decide +kernel
theorem dX2_areSo_22 : decode cX2_areSo 22 = .ok (.aload_n 1, 1) := by decide +kernel
theorem dX2_areSo_23 : decode cX2_areSo 23 = .ok (.invokevirtual 34, 3) := by decide +kernel
theorem dX2_areSo_26 : decode cX2_areSo 26 = .ok (.ifCond .ne 5, 3) := by decide +kernel
theorem dX2_areSo_29 : decode cX2_areSo 29 = .ok (.iconst 0, 1) := by decide +kernel
theorem dX2_areSo_30 : decode cX2_areSo 30 = .ok (.ireturn, 1) := by decide +kernel
theorem dX2_areSo_31 : decode cX2_areSo 31 = .ok (.iinc 3 1, 3) := by decide +kernel
theorem dX2_areSo_34 : decode cX2_areSo 34 = .ok (.goto (-27), 3) := by decide +kernel
theorem dX2_areSo_37 : decode cX2_areSo 37 = .ok (.iconst 1, 1) := by decide +kernel
theorem dX2_areSo_38 : decode cX2_areSo 38 = .ok (.ireturn, 1) := by decide +kernel
set_option maxRecDepth 20000 in
theorem ggX2_areSoBehind_X5_lighterAmong : GoodIn wsX2_areSoBehind wsX5_lighterAmong := goodIn_r _ [9, 10, 11, 12, 13, 8, 14, 15, 16, 17, 18, 19, 20, 21, 22, 23, 24, 25, 26, 27, 28, 29, 30, 31, 32, 33, 38, 39, 40, 41, 42, 43, 44] (by decide +kernel) (by decide +kernel)
set_option maxRecDepth 20000 in
theorem gX2_areSoBehind_X5_lighterAmong : GoodIn wsX2_areSoBehind (wsV RX2 38 RX5 yX5_lighterAmong wsX5_lighterAmong) := goodIn_app (goodIn_of _ (by decide +kernel)) ggX2_areSoBehind_X5_lighterAmong
theorem dX2_areSoBehind_0 : decode cX2_areSoBehind 0 = .ok (.iconst 0, 1) := by decide +kernel
theorem dX2_areSoBehind_1 : decode cX2_areSoBehind 1 = .ok (.istore_n 3, 1) := by decide +kernel
theorem dX2_areSoBehind_2 : decode cX2_areSoBehind 2 = .ok (.iload_n 3, 1) := by decide +kernel
theorem dX2_areSoBehind_3 : decode cX2_areSoBehind 3 = .ok (.aload_n 0, 1) := by decide +kernel
theorem dX2_areSoBehind_4 : decode cX2_areSoBehind 4 = .ok (.getfield 21, 3) := by decide +kernel
theorem dX2_areSoBehind_7 : decode cX2_areSoBehind 7 = .ok (.if_icmp .ge 41, 3) := by decide +kernel
theorem dX2_areSoBehind_10 : decode cX2_areSoBehind 10 = .ok (.aload_n 0, 1) := by decide +kernel
theorem dX2_areSoBehind_11 : decode cX2_areSoBehind 11 = .ok (.getfield 9, 3) := by decide +kernel
theorem dX2_areSoBehind_14 : decode cX2_areSoBehind 14 = .ok (.iload_n 3, 1) := by decide +kernel
theorem dX2_areSoBehind_15 : decode cX2_areSoBehind 15 = .ok (.iaload, 1) := by decide +kernel
theorem dX2_areSoBehind_16 : decode cX2_areSoBehind 16 = .ok (.iload_n 1, 1) := by decide +kernel
theorem dX2_areSoBehind_17 : decode cX2_areSoBehind 17 = .ok (.if_icmp .ne 25, 3) := by decide +kernel
theorem dX2_areSoBehind_20 : decode cX2_areSoBehind 20 = .ok (.aload_n 2, 1) := by decide +kernel
theorem dX2_areSoBehind_21 : decode cX2_areSoBehind 21 = .ok (.aload_n 0, 1) := by decide +kernel
theorem dX2_areSoBehind_22 : decode cX2_areSoBehind 22 = .ok (.getfield 15, 3) := by decide +kernel
theorem dX2_areSoBehind_25 : decode cX2_areSoBehind 25 = .ok (.iload_n 3, 1) := by decide +kernel
theorem dX2_areSoBehind_26 : decode cX2_areSoBehind 26 = .ok (.iaload, 1) := by decide +kernel
theorem dX2_areSoBehind_27 : decode cX2_areSoBehind 27 = .ok (.iconst 0, 1) := by decide +kernel
theorem dX2_areSoBehind_28 : decode cX2_areSoBehind 28 = .ok (.invokevirtual 38, 3) := by decide +kernel
theorem dX2_areSoBehind_31 : decode cX2_areSoBehind 31 = .ok (.aload_n 0, 1) := by decide +kernel
theorem dX2_areSoBehind_32 : decode cX2_areSoBehind 32 = .ok (.getfield 18, 3) := by decide +kernel
theorem dX2_areSoBehind_35 : decode cX2_areSoBehind 35 = .ok (.iload_n 3, 1) := by decide +kernel
theorem dX2_areSoBehind_36 : decode cX2_areSoBehind 36 = .ok (.iaload, 1) := by decide +kernel
theorem dX2_areSoBehind_37 : decode cX2_areSoBehind 37 = .ok (.if_icmp .eq 5, 3) := by decide +kernel
theorem dX2_areSoBehind_40 : decode cX2_areSoBehind 40 = .ok (.iconst 0, 1) := by decide +kernel
theorem dX2_areSoBehind_41 : decode cX2_areSoBehind 41 = .ok (.ireturn, 1) := by decide +kernel
theorem dX2_areSoBehind_42 : decode cX2_areSoBehind 42 = .ok (.iinc 3 1, 3) := by decide +kernel
theorem dX2_areSoBehind_45 : decode cX2_areSoBehind 45 = .ok (.goto (-43), 3) := by decide +kernel
theorem dX2_areSoBehind_48 : decode cX2_areSoBehind 48 = .ok (.iconst 1, 1) := by decide +kernel
theorem dX2_areSoBehind_49 : decode cX2_areSoBehind 49 = .ok (.ireturn, 1) := by decide +kernel
theorem dX2_latestDusk_0 : decode cX2_latestDusk 0 = .ok (.iconst (-1), 1) := by decide +kernel
theorem dX2_latestDusk_1 : decode cX2_latestDusk 1 = .ok (.istore_n 1, 1) := by decide +kernel
theorem dX2_latestDusk_2 : decode cX2_latestDusk 2 = .ok (.iconst 0, 1) := by decide +kernel
theorem dX2_latestDusk_3 : decode cX2_latestDusk 3 = .ok (.istore_n 2, 1) := by decide +kernel
theorem dX2_latestDusk_4 : decode cX2_latestDusk 4 = .ok (.iload_n 2, 1) := by decide +kernel
theorem dX2_latestDusk_5 : decode cX2_latestDusk 5 = .ok (.aload_n 0, 1) := by decide +kernel
theorem dX2_latestDusk_6 : decode cX2_latestDusk 6 = .ok (.getfield 21, 3) := by decide +kernel
theorem dX2_latestDusk_9 : decode cX2_latestDusk 9 = .ok (.if_icmp .ge 20, 3) := by decide +kernel
theorem dX2_latestDusk_12 : decode cX2_latestDusk 12 = .ok (.iload_n 1, 1) := by decide +kernel
theorem dX2_latestDusk_13 : decode cX2_latestDusk 13 = .ok (.aload_n 0, 1) := by decide +kernel
theorem dX2_latestDusk_14 : decode cX2_latestDusk 14 = .ok (.getfield 9, 3) := by decide +kernel
theorem dX2_latestDusk_17 : decode cX2_latestDusk 17 = .ok (.iload_n 2, 1) := by decide +kernel
theorem dX2_latestDusk_18 : decode cX2_latestDusk 18 = .ok (.iaload, 1) := by decide +kernel
theorem dX2_latestDusk_19 : decode cX2_latestDusk 19 = .ok (.invokestatic 42, 3) := by decide +kernel
theorem dX2_latestDusk_22 : decode cX2_latestDusk 22 = .ok (.istore_n 1, 1) := by decide +kernel
theorem dX2_latestDusk_23 : decode cX2_latestDusk 23 = .ok (.iinc 2 1, 3) := by decide +kernel
theorem dX2_latestDusk_26 : decode cX2_latestDusk 26 = .ok (.goto (-22), 3) := by decide +kernel
theorem dX2_latestDusk_29 : decode cX2_latestDusk 29 = .ok (.iload_n 1, 1) := by decide +kernel
theorem dX2_latestDusk_30 : decode cX2_latestDusk 30 = .ok (.ireturn, 1) := by decide +kernel
set_option maxRecDepth 20000 in
theorem ggX3_init_X1_init : GoodIn wsX3_init wsX1_init := goodIn_r _ [3, 4, 5, 6] (by decide +kernel) (by decide +kernel)
set_option maxRecDepth 20000 in
theorem gX3_init_X1_init_n1 : GoodIn wsX3_init (wsX1_init) := ggX3_init_X1_init
theorem dX3_init_0 : decode cX3_init 0 = .ok (.aload_n 0, 1) := by decide +kernel
theorem dX3_init_1 : decode cX3_init 1 = .ok (.invokespecial 1, 3) := by decide +kernel
theorem dX3_init_4 : decode cX3_init 4 = .ok (.return_, 1) := by decide +kernel
theorem dX3_weigh_0 : decode cX3_weigh 0 = .ok (.iload_n 1, 1) := by decide +kernel
theorem dX3_weigh_1 : decode cX3_weigh 1 = .ok (.ifCond .le 9, 3) := by decide +kernel
theorem dX3_weigh_4 : decode cX3_weigh 4 = .ok (.iload_n 1, 1) := by decide +kernel
theorem dX3_weigh_5 : decode cX3_weigh 5 = .ok (.iconst 1, 1) := by decide +kernel
theorem dX3_weigh_6 : decode cX3_weigh 6 = .ok (.iadd, 1) := by decide +kernel
theorem dX3_weigh_7 : decode cX3_weigh 7 = .ok (.goto 4, 3) := by decide +kernel
theorem dX3_weigh_10 : decode cX3_weigh 10 = .ok (.iconst 0, 1) := by decide +kernel
theorem dX3_weigh_11 : decode cX3_weigh 11 = .ok (.ireturn, 1) := by decide +kernel
set_option maxRecDepth 20000 in
theorem ggX3_telling_X6_leave : GoodIn wsX3_telling wsX6_leave := goodIn_r _ [5, 6, 15] (by decide +kernel) (by decide +kernel)
set_option maxRecDepth 20000 in
theorem gX3_telling_X6_leave : GoodIn wsX3_telling (wsV RX3 7 RX6 yX6_leave wsX6_leave) := goodIn_app (goodIn_of _ (by decide +kernel)) ggX3_telling_X6_leave
set_option maxRecDepth 20000 in
theorem ggX3_telling_X1_plainTelling : GoodIn wsX3_telling wsX1_plainTelling := goodIn_r _ [12, 13, 2, 3, 4, 5, 6, 15] (by decide +kernel) (by decide +kernel)
set_option maxRecDepth 20000 in
theorem gX3_telling_X1_plainTelling_u13X0 : GoodIn wsX3_telling (va_wsU RX3 13 RX0 "DebtLamps$Person" ⟨"DebtLamps$Rich", "plainTelling", "(ILDebtLamps$Trail;)I"⟩ yX1_plainTelling wsX1_plainTelling) := goodIn_app (goodIn_of _ (by decide +kernel)) ggX3_telling_X1_plainTelling
set_option maxRecDepth 20000 in
theorem gX3_telling_X1_plainTelling_u13X3 : GoodIn wsX3_telling (va_wsU RX3 13 RX3 "DebtLamps$Person" ⟨"DebtLamps$Rich", "plainTelling", "(ILDebtLamps$Trail;)I"⟩ yX1_plainTelling wsX1_plainTelling) := goodIn_app (goodIn_of _ (by decide +kernel)) ggX3_telling_X1_plainTelling
theorem dX3_telling_0 : decode cX3_telling 0 = .ok (.aload_n 2, 1) := by decide +kernel
theorem dX3_telling_1 : decode cX3_telling 1 = .ok (.iconst 2, 1) := by decide +kernel
theorem dX3_telling_2 : decode cX3_telling 2 = .ok (.invokevirtual 7, 3) := by decide +kernel
theorem dX3_telling_5 : decode cX3_telling 5 = .ok (.aload_n 0, 1) := by decide +kernel
theorem dX3_telling_6 : decode cX3_telling 6 = .ok (.iload_n 1, 1) := by decide +kernel
theorem dX3_telling_7 : decode cX3_telling 7 = .ok (.aload_n 2, 1) := by decide +kernel
theorem dX3_telling_8 : decode cX3_telling 8 = .ok (.invokevirtual 13, 3) := by decide +kernel
theorem dX3_telling_11 : decode cX3_telling 11 = .ok (.bipush 100, 2) := by decide +kernel
theorem dX3_telling_13 : decode cX3_telling 13 = .ok (.iadd, 1) := by decide +kernel
theorem dX3_telling_14 : decode cX3_telling 14 = .ok (.ireturn, 1) := by decide +kernel
theorem dX4_init_0 : decode cX4_init 0 = .ok (.aload_n 0, 1) := by decide +kernel
theorem dX4_init_1 : decode cX4_init 1 = .ok (.invokespecial 3, 3) := by decide +kernel
theorem dX4_init_4 : decode cX4_init 4 = .ok (.aload_n 0, 1) := by decide +kernel
theorem dX4_init_5 : decode cX4_init 5 = .ok (.bipush 60, 2) := by decide +kernel
theorem dX4_init_7 : decode cX4_init 7 = .ok (.newarray .int, 2) := by decide +kernel
theorem dX4_init_9 : decode cX4_init 9 = .ok (.putfield 9, 3) := by decide +kernel
theorem dX4_init_12 : decode cX4_init 12 = .ok (.aload_n 0, 1) := by decide +kernel
theorem dX4_init_13 : decode cX4_init 13 = .ok (.iconst (-1), 1) := by decide +kernel
theorem dX4_init_14 : decode cX4_init 14 = .ok (.putfield 15, 3) := by decide +kernel
theorem dX4_init_17 : decode cX4_init 17 = .ok (.return_, 1) := by decide +kernel
theorem dX4_hasNothing_0 : decode cX4_hasNothing 0 = .ok (.aload_n 0, 1) := by decide +kernel
theorem dX4_hasNothing_1 : decode cX4_hasNothing 1 = .ok (.getfield 15, 3) := by decide +kernel
theorem dX4_hasNothing_4 : decode cX4_hasNothing 4 = .ok (.iconst (-1), 1) := by decide +kernel
theorem dX4_hasNothing_5 : decode cX4_hasNothing 5 = .ok (.if_icmp .ne 7, 3) := by decide +kernel
theorem dX4_hasNothing_8 : decode cX4_hasNothing 8 = .ok (.iconst 1, 1) := by decide +kernel
theorem dX4_hasNothing_9 : decode cX4_hasNothing 9 = .ok (.goto 4, 3) := by decide +kernel
theorem dX4_hasNothing_12 : decode cX4_hasNothing 12 = .ok (.iconst 0, 1) := by decide +kernel
theorem dX4_hasNothing_13 : decode cX4_hasNothing 13 = .ok (.ireturn, 1) := by decide +kernel
theorem dX4_renew_0 : decode cX4_renew 0 = .ok (.aload_n 0, 1) := by decide +kernel
theorem dX4_renew_1 : decode cX4_renew 1 = .ok (.iload_n 1, 1) := by decide +kernel
theorem dX4_renew_2 : decode cX4_renew 2 = .ok (.putfield 19, 3) := by decide +kernel
theorem dX4_renew_5 : decode cX4_renew 5 = .ok (.aload_n 0, 1) := by decide +kernel
theorem dX4_renew_6 : decode cX4_renew 6 = .ok (.iconst 0, 1) := by decide +kernel
theorem dX4_renew_7 : decode cX4_renew 7 = .ok (.iload_n 2, 1) := by decide +kernel
theorem dX4_renew_8 : decode cX4_renew 8 = .ok (.bipush 60, 2) := by decide +kernel
theorem dX4_renew_10 : decode cX4_renew 10 = .ok (.invokestatic 22, 3) := by decide +kernel
theorem dX4_renew_13 : decode cX4_renew 13 = .ok (.invokestatic 28, 3) := by decide +kernel
theorem dX4_renew_16 : decode cX4_renew 16 = .ok (.putfield 15, 3) := by decide +kernel
theorem dX4_renew_19 : decode cX4_renew 19 = .ok (.iconst 0, 1) := by decide +kernel
theorem dX4_renew_20 : decode cX4_renew 20 = .ok (.istore_n 3, 1) := by decide +kernel
theorem dX4_renew_21 : decode cX4_renew 21 = .ok (.iload_n 3, 1) := by decide +kernel
theorem dX4_renew_22 : decode cX4_renew 22 = .ok (.bipush 60, 2) := by decide +kernel
theorem dX4_renew_24 : decode cX4_renew 24 = .ok (.if_icmp .ge 16, 3) := by decide +kernel
theorem dX4_renew_27 : decode cX4_renew 27 = .ok (.aload_n 0, 1) := by decide +kernel
theorem dX4_renew_28 : decode cX4_renew 28 = .ok (.getfield 9, 3) := by decide +kernel
theorem dX4_renew_31 : decode cX4_renew 31 = .ok (.iload_n 3, 1) := by decide +kernel
theorem dX4_renew_32 : decode cX4_renew 32 = .ok (.iconst 0, 1) := by decide +kernel
theorem dX4_renew_33 : decode cX4_renew 33 = .ok (.iastore, 1) := by decide +kernel
theorem dX4_renew_34 : decode cX4_renew 34 = .ok (.iinc 3 1, 3) := by decide +kernel
theorem dX4_renew_37 : decode cX4_renew 37 = .ok (.goto (-16), 3) := by decide +kernel
theorem dX4_renew_40 : decode cX4_renew 40 = .ok (.return_, 1) := by decide +kernel
theorem dX4_loseRow_0 : decode cX4_loseRow 0 = .ok (.aload_n 0, 1) := by decide +kernel
theorem dX4_loseRow_1 : decode cX4_loseRow 1 = .ok (.iconst (-1), 1) := by decide +kernel
theorem dX4_loseRow_2 : decode cX4_loseRow 2 = .ok (.putfield 15, 3) := by decide +kernel
theorem dX4_loseRow_5 : decode cX4_loseRow 5 = .ok (.return_, 1) := by decide +kernel
set_option maxRecDepth 20000 in
theorem ggX4_isOfLane_X4_hasNothing : GoodIn wsX4_isOfLane wsX4_hasNothing := goodIn_r _ [6, 7, 8, 9, 10] (by decide +kernel) (by decide +kernel)
set_option maxRecDepth 20000 in
theorem gX4_isOfLane_X4_hasNothing : GoodIn wsX4_isOfLane (wsV RX4 31 RX4 yX4_hasNothing wsX4_hasNothing) := goodIn_app (goodIn_of _ (by decide +kernel)) ggX4_isOfLane_X4_hasNothing
theorem dX4_isOfLane_0 : decode cX4_isOfLane 0 = .ok (.aload_n 0, 1) := by decide +kernel
theorem dX4_isOfLane_1 : decode cX4_isOfLane 1 = .ok (.invokevirtual 31, 3) := by decide +kernel
theorem dX4_isOfLane_4 : decode cX4_isOfLane 4 = .ok (.ifCond .ne 11, 3) := by decide +kernel
theorem dX4_isOfLane_7 : decode cX4_isOfLane 7 = .ok (.aload_n 0, 1) := by decide +kernel
theorem dX4_isOfLane_8 : decode cX4_isOfLane 8 = .ok (.getfield 19, 3) := by decide +kernel
theorem dX4_isOfLane_11 : decode cX4_isOfLane 11 = .ok (.iload_n 1, 1) := by decide +kernel
theorem dX4_isOfLane_12 : decode cX4_isOfLane 12 = .ok (.if_icmp .ne 7, 3) := by decide +kernel
theorem dX4_isOfLane_15 : decode cX4_isOfLane 15 = .ok (.iconst 1, 1) := by decide +kernel
theorem dX4_isOfLane_16 : decode cX4_isOfLane 16 = .ok (.goto 4, 3) := by decide +kernel
theorem dX4_isOfLane_19 : decode cX4_isOfLane 19 = .ok (.iconst 0, 1) := by decide +kernel
theorem dX4_isOfLane_20 : decode cX4_isOfLane 20 = .ok (.ireturn, 1) := by decide +kernel
theorem dX4_hasCell_0 : decode cX4_hasCell 0 = .ok (.iload_n 1, 1) := by decide +kernel
theorem dX4_hasCell_1 : decode cX4_hasCell 1 = .ok (.ifCond .lt 15, 3) := by decide +kernel
theorem dX4_hasCell_4 : decode cX4_hasCell 4 = .ok (.iload_n 1, 1) := by decide +kernel
theorem dX4_hasCell_5 : decode cX4_hasCell 5 = .ok (.aload_n 0, 1) := by decide +kernel
theorem dX4_hasCell_6 : decode cX4_hasCell 6 = .ok (.getfield 15, 3) := by decide +kernel
theorem dX4_hasCell_9 : decode cX4_hasCell 9 = .ok (.if_icmp .ge 7, 3) := by decide +kernel
theorem dX4_hasCell_12 : decode cX4_hasCell 12 = .ok (.iconst 1, 1) := by decide +kernel
theorem dX4_hasCell_13 : decode cX4_hasCell 13 = .ok (.goto 4, 3) := by decide +kernel
theorem dX4_hasCell_16 : decode cX4_hasCell 16 = .ok (.iconst 0, 1) := by decide +kernel
theorem dX4_hasCell_17 : decode cX4_hasCell 17 = .ok (.ireturn, 1) := by decide +kernel
theorem dX4_hasCells_0 : decode cX4_hasCells 0 = .ok (.iload_n 1, 1) := by decide +kernel
theorem dX4_hasCells_1 : decode cX4_hasCells 1 = .ok (.ifCond .lt 29, 3) := by decide +kernel
theorem dX4_hasCells_4 : decode cX4_hasCells 4 = .ok (.iload_n 1, 1) := by decide +kernel
theorem dX4_hasCells_5 : decode cX4_hasCells 5 = .ok (.aload_n 0, 1) := by decide +kernel
theorem dX4_hasCells_6 : decode cX4_hasCells 6 = .ok (.getfield 15, 3) := by decide +kernel
theorem dX4_hasCells_9 : decode cX4_hasCells 9 = .ok (.if_icmp .gt 21, 3) := by decide +kernel
theorem dX4_hasCells_12 : decode cX4_hasCells 12 = .ok (.iload_n 2, 1) := by decide +kernel
theorem dX4_hasCells_13 : decode cX4_hasCells 13 = .ok (.ifCond .lt 17, 3) := by decide +kernel
theorem dX4_hasCells_16 : decode cX4_hasCells 16 = .ok (.iload_n 2, 1) := by decide +kernel
theorem dX4_hasCells_17 : decode cX4_hasCells 17 = .ok (.aload_n 0, 1) := by decide +kernel
theorem dX4_hasCells_18 : decode cX4_hasCells 18 = .ok (.getfield 15, 3) := by decide +kernel
theorem dX4_hasCells_21 : decode cX4_hasCells 21 = .ok (.iload_n 1, 1) := by decide +kernel
theorem dX4_hasCells_22 : decode cX4_hasCells 22 = .ok (.isub, 1) := by decide +kernel
theorem dX4_hasCells_23 : decode cX4_hasCells 23 = .ok (.if_icmp .gt 7, 3) := by decide +kernel
theorem dX4_hasCells_26 : decode cX4_hasCells 26 = .ok (.iconst 1, 1) := by decide +kernel
theorem dX4_hasCells_27 : decode cX4_hasCells 27 = .ok (.goto 4, 3) := by decide +kernel
theorem dX4_hasCells_30 : decode cX4_hasCells 30 = .ok (.iconst 0, 1) := by decide +kernel
theorem dX4_hasCells_31 : decode cX4_hasCells 31 = .ok (.ireturn, 1) := by decide +kernel
set_option maxRecDepth 20000 in
theorem ggX4_setCut_X4_hasCell : GoodIn wsX4_setCut wsX4_hasCell := goodIn_r _ [7, 8, 9, 10, 11] (by decide +kernel) (by decide +kernel)
set_option maxRecDepth 20000 in
theorem gX4_setCut_X4_hasCell : GoodIn wsX4_setCut (wsV RX4 35 RX4 yX4_hasCell wsX4_hasCell) := goodIn_app (goodIn_of _ (by decide +kernel)) ggX4_setCut_X4_hasCell
theorem dX4_setCut_0 : decode cX4_setCut 0 = .ok (.aload_n 0, 1) := by decide +kernel
theorem dX4_setCut_1 : decode cX4_setCut 1 = .ok (.iload_n 1, 1) := by decide +kernel
theorem dX4_setCut_2 : decode cX4_setCut 2 = .ok (.invokevirtual 35, 3) := by decide +kernel
theorem dX4_setCut_5 : decode cX4_setCut 5 = .ok (.ifCond .ne 4, 3) := by decide +kernel
theorem dX4_setCut_8 : decode cX4_setCut 8 = .ok (.return_, 1) := by decide +kernel
theorem dX4_setCut_9 : decode cX4_setCut 9 = .ok (.aload_n 0, 1) := by decide +kernel
theorem dX4_setCut_10 : decode cX4_setCut 10 = .ok (.getfield 9, 3) := by decide +kernel
theorem dX4_setCut_13 : decode cX4_setCut 13 = .ok (.iload_n 1, 1) := by decide +kernel
theorem dX4_setCut_14 : decode cX4_setCut 14 = .ok (.aload_n 0, 1) := by decide +kernel
theorem dX4_setCut_15 : decode cX4_setCut 15 = .ok (.getfield 19, 3) := by decide +kernel
theorem dX4_setCut_18 : decode cX4_setCut 18 = .ok (.ifCond .ne 8, 3) := by decide +kernel
theorem dX4_setCut_21 : decode cX4_setCut 21 = .ok (.iload_n 2, 1) := by decide +kernel
theorem dX4_setCut_22 : decode cX4_setCut 22 = .ok (.i2b, 1) := by decide +kernel
theorem dX4_setCut_23 : decode cX4_setCut 23 = .ok (.goto 17, 3) := by decide +kernel
theorem dX4_setCut_26 : decode cX4_setCut 26 = .ok (.aload_n 0, 1) := by decide +kernel
theorem dX4_setCut_27 : decode cX4_setCut 27 = .ok (.getfield 19, 3) := by decide +kernel
theorem dX4_setCut_30 : decode cX4_setCut 30 = .ok (.iconst 1, 1) := by decide +kernel
theorem dX4_setCut_31 : decode cX4_setCut 31 = .ok (.if_icmp .ne 8, 3) := by decide +kernel
theorem dX4_setCut_34 : decode cX4_setCut 34 = .ok (.iload_n 2, 1) := by decide +kernel
theorem dX4_setCut_35 : decode cX4_setCut 35 = .ok (.i2s, 1) := by decide +kernel
theorem dX4_setCut_36 : decode cX4_setCut 36 = .ok (.goto 4, 3) := by decide +kernel
theorem dX4_setCut_39 : decode cX4_setCut 39 = .ok (.iload_n 2, 1) := by decide +kernel
theorem dX4_setCut_40 : decode cX4_setCut 40 = .ok (.iastore, 1) := by decide +kernel
theorem dX4_setCut_41 : decode cX4_setCut 41 = .ok (.return_, 1) := by decide +kernel
set_option maxRecDepth 20000 in
theorem ggX4_valueAt_X4_hasCell : GoodIn wsX4_valueAt wsX4_hasCell := goodIn_r _ [6, 7, 8, 9, 10] (by decide +kernel) (by decide +kernel)
set_option maxRecDepth 20000 in
theorem gX4_valueAt_X4_hasCell : GoodIn wsX4_valueAt (wsV RX4 35 RX4 yX4_hasCell wsX4_hasCell) := goodIn_app (goodIn_of _ (by decide +kernel)) ggX4_valueAt_X4_hasCell
theorem dX4_valueAt_0 : decode cX4_valueAt 0 = .ok (.aload_n 0, 1) := by decide +kernel
theorem dX4_valueAt_1 : decode cX4_valueAt 1 = .ok (.iload_n 1, 1) := by decide +kernel
theorem dX4_valueAt_2 : decode cX4_valueAt 2 = .ok (.invokevirtual 35, 3) := by decide +kernel
theorem dX4_valueAt_5 : decode cX4_valueAt 5 = .ok (.ifCond .eq 12, 3) := by decide +kernel
theorem dX4_valueAt_8 : decode cX4_valueAt 8 = .ok (.aload_n 0, 1) := by decide +kernel
theorem dX4_valueAt_9 : decode cX4_valueAt 9 = .ok (.getfield 9, 3) := by decide +kernel
theorem dX4_valueAt_12 : decode cX4_valueAt 12 = .ok (.iload_n 1, 1) := by decide +kernel
theorem dX4_valueAt_13 : decode cX4_valueAt 13 = .ok (.iaload, 1) := by decide +kernel
theorem dX4_valueAt_14 : decode cX4_valueAt 14 = .ok (.goto 4, 3) := by decide +kernel
theorem dX4_valueAt_17 : decode cX4_valueAt 17 = .ok (.iconst 0, 1) := by decide +kernel
theorem dX4_valueAt_18 : decode cX4_valueAt 18 = .ok (.ireturn, 1) := by decide +kernel
set_option maxRecDepth 20000 in
theorem ggX5_init_X1_init : GoodIn wsX5_init wsX1_init := goodIn_r _ [22, 23, 2, 3] (by decide +kernel) (by decide +kernel)
set_option maxRecDepth 20000 in
theorem gX5_init_X1_init_n11 : GoodIn wsX5_init (wsX1_init) := ggX5_init_X1_init
set_option maxRecDepth 20000 in
theorem ggX5_init_X3_init : GoodIn wsX5_init wsX3_init := goodIn_r _ [25, 21, 6, 22, 23, 2, 3] (by decide +kernel) (by decide +kernel)
set_option maxRecDepth 20000 in
theorem gX5_init_X3_init_n14 : GoodIn wsX5_init (wsX3_init) := ggX5_init_X3_init
set_option maxRecDepth 20000 in
theorem ggX5_init_X0_init : GoodIn wsX5_init wsX0_init := goodIn_r _ [27, 24, 9, 25, 21, 6, 22, 23, 2, 3] (by decide +kernel) (by decide +kernel)
set_option maxRecDepth 20000 in
theorem gX5_init_X0_init_n17 : GoodIn wsX5_init (wsX0_init) := ggX5_init_X0_init
theorem dX5_init_0 : decode cX5_init 0 = .ok (.aload_n 0, 1) := by decide +kernel
theorem dX5_init_1 : decode cX5_init 1 = .ok (.invokespecial 3, 3) := by decide +kernel
theorem dX5_init_4 : decode cX5_init 4 = .ok (.aload_n 0, 1) := by decide +kernel
theorem dX5_init_5 : decode cX5_init 5 = .ok (.iconst 3, 1) := by decide +kernel
theorem dX5_init_6 : decode cX5_init 6 = .ok (.anewarray 9, 3) := by decide +kernel
theorem dX5_init_9 : decode cX5_init 9 = .ok (.dup, 1) := by decide +kernel
theorem dX5_init_10 : decode cX5_init 10 = .ok (.iconst 0, 1) := by decide +kernel
theorem dX5_init_11 : decode cX5_init 11 = .ok (.new 9, 3) := by decide +kernel
theorem dX5_init_14 : decode cX5_init 14 = .ok (.dup, 1) := by decide +kernel
theorem dX5_init_15 : decode cX5_init 15 = .ok (.invokespecial 11, 3) := by decide +kernel
theorem dX5_init_18 : decode cX5_init 18 = .ok (.aastore, 1) := by decide +kernel
theorem dX5_init_19 : decode cX5_init 19 = .ok (.dup, 1) := by decide +kernel
theorem dX5_init_20 : decode cX5_init 20 = .ok (.iconst 1, 1) := by decide +kernel
theorem dX5_init_21 : decode cX5_init 21 = .ok (.new 12, 3) := by decide +kernel
theorem dX5_init_24 : decode cX5_init 24 = .ok (.dup, 1) := by decide +kernel
theorem dX5_init_25 : decode cX5_init 25 = .ok (.invokespecial 14, 3) := by decide +kernel
theorem dX5_init_28 : decode cX5_init 28 = .ok (.aastore, 1) := by decide +kernel
theorem dX5_init_29 : decode cX5_init 29 = .ok (.dup, 1) := by decide +kernel
theorem dX5_init_30 : decode cX5_init 30 = .ok (.iconst 2, 1) := by decide +kernel
theorem dX5_init_31 : decode cX5_init 31 = .ok (.new 15, 3) := by decide +kernel
theorem dX5_init_34 : decode cX5_init 34 = .ok (.dup, 1) := by decide +kernel
theorem dX5_init_35 : decode cX5_init 35 = .ok (.invokespecial 17, 3) := by decide +kernel
theorem dX5_init_38 : decode cX5_init 38 = .ok (.aastore, 1) := by decide +kernel
theorem dX5_init_39 : decode cX5_init 39 = .ok (.putfield 18, 3) := by decide +kernel
theorem dX5_init_42 : decode cX5_init 42 = .ok (.aload_n 0, 1) := by decide +kernel
theorem dX5_init_43 : decode cX5_init 43 = .ok (.bipush 6, 2) := by decide +kernel
theorem dX5_init_45 : decode cX5_init 45 = .ok (.newarray .int, 2) := by decide +kernel
theorem dX5_init_47 : decode cX5_init 47 = .ok (.putfield 24, 3) := by decide +kernel
theorem dX5_init_50 : decode cX5_init 50 = .ok (.aload_n 0, 1) := by decide +kernel
theorem dX5_init_51 : decode cX5_init 51 = .ok (.bipush 6, 2) := by decide +kernel
theorem dX5_init_53 : decode cX5_init 53 = .ok (.bipush 6, 2) := by decide +kernel
theorem dX5_init_55 : decode cX5_init 55 = .ok (.multianewarray 28 2, 4) := by decide +kernel
theorem dX5_init_59 : decode cX5_init 59 = .ok (.putfield 30, 3) := by decide +kernel
theorem dX5_init_62 : decode cX5_init 62 = .ok (.aload_n 0, 1) := by decide +kernel
theorem dX5_init_63 : decode cX5_init 63 = .ok (.bipush 6, 2) := by decide +kernel
theorem dX5_init_65 : decode cX5_init 65 = .ok (.newarray .int, 2) := by decide +kernel
theorem dX5_init_67 : decode cX5_init 67 = .ok (.putfield 33, 3) := by decide +kernel
theorem dX5_init_70 : decode cX5_init 70 = .ok (.aload_n 0, 1) := by decide +kernel
theorem dX5_init_71 : decode cX5_init 71 = .ok (.bipush 6, 2) := by decide +kernel
theorem dX5_init_73 : decode cX5_init 73 = .ok (.newarray .boolean, 2) := by decide +kernel
theorem dX5_init_75 : decode cX5_init 75 = .ok (.putfield 36, 3) := by decide +kernel
theorem dX5_init_78 : decode cX5_init 78 = .ok (.return_, 1) := by decide +kernel
theorem dX5_becomeLike_0 : decode cX5_becomeLike 0 = .ok (.aload_n 0, 1) := by decide +kernel
theorem dX5_becomeLike_1 : decode cX5_becomeLike 1 = .ok (.aload_n 1, 1) := by decide +kernel
theorem dX5_becomeLike_2 : decode cX5_becomeLike 2 = .ok (.getfield 40, 3) := by decide +kernel
theorem dX5_becomeLike_5 : decode cX5_becomeLike 5 = .ok (.putfield 40, 3) := by decide +kernel
theorem dX5_becomeLike_8 : decode cX5_becomeLike 8 = .ok (.aload_n 0, 1) := by decide +kernel
theorem dX5_becomeLike_9 : decode cX5_becomeLike 9 = .ok (.aload_n 1, 1) := by decide +kernel
theorem dX5_becomeLike_10 : decode cX5_becomeLike 10 = .ok (.getfield 44, 3) := by decide +kernel
theorem dX5_becomeLike_13 : decode cX5_becomeLike 13 = .ok (.putfield 44, 3) := by decide +kernel
theorem dX5_becomeLike_16 : decode cX5_becomeLike 16 = .ok (.iconst 0, 1) := by decide +kernel
theorem dX5_becomeLike_17 : decode cX5_becomeLike 17 = .ok (.istore_n 2, 1) := by decide +kernel
theorem dX5_becomeLike_18 : decode cX5_becomeLike 18 = .ok (.iload_n 2, 1) := by decide +kernel
theorem dX5_becomeLike_19 : decode cX5_becomeLike 19 = .ok (.bipush 6, 2) := by decide +kernel
theorem dX5_becomeLike_21 : decode cX5_becomeLike 21 = .ok (.if_icmp .ge 51, 3) := by decide +kernel
theorem dX5_becomeLike_24 : decode cX5_becomeLike 24 = .ok (.aload_n 0, 1) := by decide +kernel
theorem dX5_becomeLike_25 : decode cX5_becomeLike 25 = .ok (.getfield 24, 3) := by decide +kernel
theorem dX5_becomeLike_28 : decode cX5_becomeLike 28 = .ok (.iload_n 2, 1) := by decide +kernel
theorem dX5_becomeLike_29 : decode cX5_becomeLike 29 = .ok (.aload_n 1, 1) := by decide +kernel
theorem dX5_becomeLike_30 : decode cX5_becomeLike 30 = .ok (.getfield 24, 3) := by decide +kernel
theorem dX5_becomeLike_33 : decode cX5_becomeLike 33 = .ok (.iload_n 2, 1) := by decide +kernel
theorem dX5_becomeLike_34 : decode cX5_becomeLike 34 = .ok (.iaload, 1) := by decide +kernel
theorem dX5_becomeLike_35 : decode cX5_becomeLike 35 = .ok (.iastore, 1) := by decide +kernel
theorem dX5_becomeLike_36 : decode cX5_becomeLike 36 = .ok (.iconst 0, 1) := by decide +kernel
theorem dX5_becomeLike_37 : decode cX5_becomeLike 37 = .ok (.istore_n 3, 1) := by decide +kernel
theorem dX5_becomeLike_38 : decode cX5_becomeLike 38 = .ok (.iload_n 3, 1) := by decide +kernel
theorem dX5_becomeLike_39 : decode cX5_becomeLike 39 = .ok (.bipush 6, 2) := by decide +kernel
theorem dX5_becomeLike_41 : decode cX5_becomeLike 41 = .ok (.if_icmp .ge 25, 3) := by decide +kernel
theorem dX5_becomeLike_44 : decode cX5_becomeLike 44 = .ok (.aload_n 0, 1) := by decide +kernel
theorem dX5_becomeLike_45 : decode cX5_becomeLike 45 = .ok (.getfield 30, 3) := by decide +kernel
theorem dX5_becomeLike_48 : decode cX5_becomeLike 48 = .ok (.iload_n 2, 1) := by decide +kernel
theorem dX5_becomeLike_49 : decode cX5_becomeLike 49 = .ok (.aaload, 1) := by decide +kernel
theorem dX5_becomeLike_50 : decode cX5_becomeLike 50 = .ok (.iload_n 3, 1) := by decide +kernel
theorem dX5_becomeLike_51 : decode cX5_becomeLike 51 = .ok (.aload_n 1, 1) := by decide +kernel
theorem dX5_becomeLike_52 : decode cX5_becomeLike 52 = .ok (.getfield 30, 3) := by decide +kernel
theorem dX5_becomeLike_55 : decode cX5_becomeLike 55 = .ok (.iload_n 2, 1) := by decide +kernel
theorem dX5_becomeLike_56 : decode cX5_becomeLike 56 = .ok (.aaload, 1) := by decide +kernel
theorem dX5_becomeLike_57 : decode cX5_becomeLike 57 = .ok (.iload_n 3, 1) := by decide +kernel
theorem dX5_becomeLike_58 : decode cX5_becomeLike 58 = .ok (.iaload, 1) := by decide +kernel
theorem dX5_becomeLike_59 : decode cX5_becomeLike 59 = .ok (.iastore, 1) := by decide +kernel
theorem dX5_becomeLike_60 : decode cX5_becomeLike 60 = .ok (.iinc 3 1, 3) := by decide +kernel
theorem dX5_becomeLike_63 : decode cX5_becomeLike 63 = .ok (.goto (-25), 3) := by decide +kernel
theorem dX5_becomeLike_66 : decode cX5_becomeLike 66 = .ok (.iinc 2 1, 3) := by decide +kernel
theorem dX5_becomeLike_69 : decode cX5_becomeLike 69 = .ok (.goto (-51), 3) := by decide +kernel
theorem dX5_becomeLike_72 : decode cX5_becomeLike 72 = .ok (.return_, 1) := by decide +kernel
set_option maxRecDepth 20000 in
theorem ggX5_readText_X4_valueAt : GoodIn wsX5_readText wsX4_valueAt := goodIn_r _ [6, 7, 8, 9, 10, 5, 11, 12, 48, 49, 50] (by decide +kernel) (by decide +kernel)
set_option maxRecDepth 20000 in
theorem gX5_readText_X4_valueAt : GoodIn wsX5_readText (wsV RX5 47 RX4 yX4_valueAt wsX4_valueAt) := goodIn_app (goodIn_of _ (by decide +kernel)) ggX5_readText_X4_valueAt
set_option maxRecDepth 20000 in
theorem ggX5_readText_X5_takesCode : GoodIn wsX5_readText wsX5_takesCode := goodIn_r _ [17, 1, 18, 19, 20, 16, 21, 22, 23, 24, 25, 26, 27, 28, 29, 30, 31, 32, 33, 34, 35, 36, 37, 38, 39, 40, 41, 42, 43, 44, 45, 46, 47] (by decide +kernel) (by decide +kernel)
set_option maxRecDepth 20000 in
theorem gX5_readText_X5_takesCode : GoodIn wsX5_readText (wsV RX5 53 RX5 yX5_takesCode wsX5_takesCode) := goodIn_app (goodIn_of _ (by decide +kernel)) ggX5_readText_X5_takesCode
set_option maxRecDepth 20000 in
theorem ggX5_readText_X5_textLength : GoodIn wsX5_readText wsX5_textLength := goodIn_r _ [30, 1, 41, 42, 43, 44, 45, 46, 47] (by decide +kernel) (by decide +kernel)
set_option maxRecDepth 20000 in
theorem gX5_readText_X5_textLength : GoodIn wsX5_readText (wsV RX5 57 RX5 yX5_textLength wsX5_textLength) := goodIn_app (goodIn_of _ (by decide +kernel)) ggX5_readText_X5_textLength
theorem dX5_readText_0 : decode cX5_readText 0 = .ok (.aload_n 0, 1) := by decide +kernel
theorem dX5_readText_1 : decode cX5_readText 1 = .ok (.iconst 0, 1) := by decide +kernel
theorem dX5_readText_2 : decode cX5_readText 2 = .ok (.putfield 40, 3) := by decide +kernel
theorem dX5_readText_5 : decode cX5_readText 5 = .ok (.iconst 0, 1) := by decide +kernel
theorem dX5_readText_6 : decode cX5_readText 6 = .ok (.istore 4, 2) := by decide +kernel
theorem dX5_readText_8 : decode cX5_readText 8 = .ok (.iload 4, 2) := by decide +kernel
theorem dX5_readText_10 : decode cX5_readText 10 = .ok (.iload_n 3, 1) := by decide +kernel
theorem dX5_readText_11 : decode cX5_readText 11 = .ok (.if_icmp .ge 29, 3) := by decide +kernel
theorem dX5_readText_14 : decode cX5_readText 14 = .ok (.aload_n 0, 1) := by decide +kernel
theorem dX5_readText_15 : decode cX5_readText 15 = .ok (.iload 4, 2) := by decide +kernel
theorem dX5_readText_17 : decode cX5_readText 17 = .ok (.aload_n 1, 1) := by decide +kernel
theorem dX5_readText_18 : decode cX5_readText 18 = .ok (.iload_n 2, 1) := by decide +kernel
theorem dX5_readText_19 : decode cX5_readText 19 = .ok (.iload 4, 2) := by decide +kernel
theorem dX5_readText_21 : decode cX5_readText 21 = .ok (.iadd, 1) := by decide +kernel
theorem dX5_readText_22 : decode cX5_readText 22 = .ok (.invokevirtual 47, 3) := by decide +kernel
theorem dX5_readText_25 : decode cX5_readText 25 = .ok (.invokevirtual 53, 3) := by decide +kernel
theorem dX5_readText_28 : decode cX5_readText 28 = .ok (.ifCond .ne 6, 3) := by decide +kernel
theorem dX5_readText_31 : decode cX5_readText 31 = .ok (.iload 4, 2) := by decide +kernel
theorem dX5_readText_33 : decode cX5_readText 33 = .ok (.ireturn, 1) := by decide +kernel
theorem dX5_readText_34 : decode cX5_readText 34 = .ok (.iinc 4 1, 3) := by decide +kernel
theorem dX5_readText_37 : decode cX5_readText 37 = .ok (.goto (-29), 3) := by decide +kernel
theorem dX5_readText_40 : decode cX5_readText 40 = .ok (.iload_n 3, 1) := by decide +kernel
theorem dX5_readText_41 : decode cX5_readText 41 = .ok (.aload_n 0, 1) := by decide +kernel
theorem dX5_readText_42 : decode cX5_readText 42 = .ok (.invokevirtual 57, 3) := by decide +kernel
theorem dX5_readText_45 : decode cX5_readText 45 = .ok (.if_icmp .ge 7, 3) := by decide +kernel
theorem dX5_readText_48 : decode cX5_readText 48 = .ok (.iload_n 3, 1) := by decide +kernel
theorem dX5_readText_49 : decode cX5_readText 49 = .ok (.goto 5, 3) := by decide +kernel
theorem dX5_readText_52 : decode cX5_readText 52 = .ok (.bipush (-9), 2) := by decide +kernel
theorem dX5_readText_54 : decode cX5_readText 54 = .ok (.ireturn, 1) := by decide +kernel
theorem dX5_textLength_0 : decode cX5_textLength 0 = .ok (.iconst 3, 1) := by decide +kernel
theorem dX5_textLength_1 : decode cX5_textLength 1 = .ok (.aload_n 0, 1) := by decide +kernel
theorem dX5_textLength_2 : decode cX5_textLength 2 = .ok (.getfield 40, 3) := by decide +kernel
theorem dX5_textLength_5 : decode cX5_textLength 5 = .ok (.aload_n 0, 1) := by decide +kernel
theorem dX5_textLength_6 : decode cX5_textLength 6 = .ok (.getfield 40, 3) := by decide +kernel
theorem dX5_textLength_9 : decode cX5_textLength 9 = .ok (.iconst 2, 1) := by decide +kernel
theorem dX5_textLength_10 : decode cX5_textLength 10 = .ok (.iadd, 1) := by decide +kernel
theorem dX5_textLength_11 : decode cX5_textLength 11 = .ok (.imul, 1) := by decide +kernel
theorem dX5_textLength_12 : decode cX5_textLength 12 = .ok (.iadd, 1) := by decide +kernel
theorem dX5_textLength_13 : decode cX5_textLength 13 = .ok (.ireturn, 1) := by decide +kernel
set_option maxRecDepth 20000 in
theorem ggX5_takesCode_X5_takesPeople : GoodIn wsX5_takesCode wsX5_takesPeople := goodIn_r _ [6, 1, 26, 27, 28, 29, 30, 31, 32] (by decide +kernel) (by decide +kernel)
set_option maxRecDepth 20000 in
theorem gX5_takesCode_X5_takesPeople : GoodIn wsX5_takesCode (wsV RX5 61 RX5 yX5_takesPeople wsX5_takesPeople) := goodIn_app (goodIn_of _ (by decide +kernel)) ggX5_takesCode_X5_takesPeople
set_option maxRecDepth 20000 in
theorem ggX5_takesCode_X5_takesBell : GoodIn wsX5_takesCode wsX5_takesBell := goodIn_r _ [10, 11, 26, 27, 28, 29, 30, 31, 32] (by decide +kernel) (by decide +kernel)
set_option maxRecDepth 20000 in
theorem gX5_takesCode_X5_takesBell : GoodIn wsX5_takesCode (wsV RX5 65 RX5 yX5_takesBell wsX5_takesBell) := goodIn_app (goodIn_of _ (by decide +kernel)) ggX5_takesCode_X5_takesBell
set_option maxRecDepth 20000 in
theorem ggX5_takesCode_X5_textLength : GoodIn wsX5_takesCode wsX5_textLength := goodIn_r _ [15, 1, 26, 27, 28, 29, 30, 31, 32] (by decide +kernel) (by decide +kernel)
set_option maxRecDepth 20000 in
theorem gX5_takesCode_X5_textLength : GoodIn wsX5_takesCode (wsV RX5 57 RX5 yX5_textLength wsX5_textLength) := goodIn_app (goodIn_of _ (by decide +kernel)) ggX5_takesCode_X5_textLength
set_option maxRecDepth 20000 in
theorem ggX5_takesCode_X5_takesKind : GoodIn wsX5_takesCode wsX5_takesKind := goodIn_r _ [19, 20, 26, 27, 28, 29, 30, 31, 32] (by decide +kernel) (by decide +kernel)
set_option maxRecDepth 20000 in
theorem gX5_takesCode_X5_takesKind : GoodIn wsX5_takesCode (wsV RX5 68 RX5 yX5_takesKind wsX5_takesKind) := goodIn_app (goodIn_of _ (by decide +kernel)) ggX5_takesCode_X5_takesKind
set_option maxRecDepth 20000 in
theorem ggX5_takesCode_X5_takesPence : GoodIn wsX5_takesCode wsX5_takesPence := goodIn_r _ [24, 25, 26, 27, 28, 29, 30, 31, 32] (by decide +kernel) (by decide +kernel)
set_option maxRecDepth 20000 in
theorem gX5_takesCode_X5_takesPence : GoodIn wsX5_takesCode (wsV RX5 71 RX5 yX5_takesPence wsX5_takesPence) := goodIn_app (goodIn_of _ (by decide +kernel)) ggX5_takesCode_X5_takesPence
theorem dX5_takesCode_0 : decode cX5_takesCode 0 = .ok (.iload_n 1, 1) := by decide +kernel
theorem dX5_takesCode_1 : decode cX5_takesCode 1 = .ok (.ifCond .ne 15, 3) := by decide +kernel
theorem dX5_takesCode_4 : decode cX5_takesCode 4 = .ok (.iload_n 2, 1) := by decide +kernel
theorem dX5_takesCode_5 : decode cX5_takesCode 5 = .ok (.bipush 108, 2) := by decide +kernel
theorem dX5_takesCode_7 : decode cX5_takesCode 7 = .ok (.if_icmp .ne 7, 3) := by decide +kernel
theorem dX5_takesCode_10 : decode cX5_takesCode 10 = .ok (.iconst 1, 1) := by decide +kernel
theorem dX5_takesCode_11 : decode cX5_takesCode 11 = .ok (.goto 4, 3) := by decide +kernel
theorem dX5_takesCode_14 : decode cX5_takesCode 14 = .ok (.iconst 0, 1) := by decide +kernel
theorem dX5_takesCode_15 : decode cX5_takesCode 15 = .ok (.ireturn, 1) := by decide +kernel
theorem dX5_takesCode_16 : decode cX5_takesCode 16 = .ok (.iload_n 1, 1) := by decide +kernel
theorem dX5_takesCode_17 : decode cX5_takesCode 17 = .ok (.iconst 1, 1) := by decide +kernel
theorem dX5_takesCode_18 : decode cX5_takesCode 18 = .ok (.if_icmp .ne 12, 3) := by decide +kernel
theorem dX5_takesCode_21 : decode cX5_takesCode 21 = .ok (.aload_n 0, 1) := by decide +kernel
theorem dX5_takesCode_22 : decode cX5_takesCode 22 = .ok (.iload_n 2, 1) := by decide +kernel
theorem dX5_takesCode_23 : decode cX5_takesCode 23 = .ok (.bipush 48, 2) := by decide +kernel
theorem dX5_takesCode_25 : decode cX5_takesCode 25 = .ok (.isub, 1) := by decide +kernel
theorem dX5_takesCode_26 : decode cX5_takesCode 26 = .ok (.invokevirtual 61, 3) := by decide +kernel
theorem dX5_takesCode_29 : decode cX5_takesCode 29 = .ok (.ireturn, 1) := by decide +kernel
theorem dX5_takesCode_30 : decode cX5_takesCode 30 = .ok (.iload_n 1, 1) := by decide +kernel
theorem dX5_takesCode_31 : decode cX5_takesCode 31 = .ok (.iconst 2, 1) := by decide +kernel
theorem dX5_takesCode_32 : decode cX5_takesCode 32 = .ok (.if_icmp .ne 12, 3) := by decide +kernel
theorem dX5_takesCode_35 : decode cX5_takesCode 35 = .ok (.aload_n 0, 1) := by decide +kernel
theorem dX5_takesCode_36 : decode cX5_takesCode 36 = .ok (.iload_n 2, 1) := by decide +kernel
theorem dX5_takesCode_37 : decode cX5_takesCode 37 = .ok (.bipush 48, 2) := by decide +kernel
theorem dX5_takesCode_39 : decode cX5_takesCode 39 = .ok (.isub, 1) := by decide +kernel
theorem dX5_takesCode_40 : decode cX5_takesCode 40 = .ok (.invokevirtual 65, 3) := by decide +kernel
theorem dX5_takesCode_43 : decode cX5_takesCode 43 = .ok (.ireturn, 1) := by decide +kernel
theorem dX5_takesCode_44 : decode cX5_takesCode 44 = .ok (.iload_n 1, 1) := by decide +kernel
theorem dX5_takesCode_45 : decode cX5_takesCode 45 = .ok (.aload_n 0, 1) := by decide +kernel
theorem dX5_takesCode_46 : decode cX5_takesCode 46 = .ok (.invokevirtual 57, 3) := by decide +kernel
theorem dX5_takesCode_49 : decode cX5_takesCode 49 = .ok (.if_icmp .lt 5, 3) := by decide +kernel
theorem dX5_takesCode_52 : decode cX5_takesCode 52 = .ok (.iconst 0, 1) := by decide +kernel
theorem dX5_takesCode_53 : decode cX5_takesCode 53 = .ok (.ireturn, 1) := by decide +kernel
theorem dX5_takesCode_54 : decode cX5_takesCode 54 = .ok (.aload_n 0, 1) := by decide +kernel
theorem dX5_takesCode_55 : decode cX5_takesCode 55 = .ok (.getfield 40, 3) := by decide +kernel
theorem dX5_takesCode_58 : decode cX5_takesCode 58 = .ok (.iconst 2, 1) := by decide +kernel
theorem dX5_takesCode_59 : decode cX5_takesCode 59 = .ok (.iadd, 1) := by decide +kernel
theorem dX5_takesCode_60 : decode cX5_takesCode 60 = .ok (.istore_n 3, 1) := by decide +kernel
theorem dX5_takesCode_61 : decode cX5_takesCode 61 = .ok (.iload_n 1, 1) := by decide +kernel
theorem dX5_takesCode_62 : decode cX5_takesCode 62 = .ok (.iconst 3, 1) := by decide +kernel
theorem dX5_takesCode_63 : decode cX5_takesCode 63 = .ok (.isub, 1) := by decide +kernel
theorem dX5_takesCode_64 : decode cX5_takesCode 64 = .ok (.iload_n 3, 1) := by decide +kernel
theorem dX5_takesCode_65 : decode cX5_takesCode 65 = .ok (.idiv, 1) := by decide +kernel
theorem dX5_takesCode_66 : decode cX5_takesCode 66 = .ok (.istore 4, 2) := by decide +kernel
theorem dX5_takesCode_68 : decode cX5_takesCode 68 = .ok (.iload_n 1, 1) := by decide +kernel
theorem dX5_takesCode_69 : decode cX5_takesCode 69 = .ok (.iconst 3, 1) := by decide +kernel
theorem dX5_takesCode_70 : decode cX5_takesCode 70 = .ok (.isub, 1) := by decide +kernel
theorem dX5_takesCode_71 : decode cX5_takesCode 71 = .ok (.iload_n 3, 1) := by decide +kernel
theorem dX5_takesCode_72 : decode cX5_takesCode 72 = .ok (.irem, 1) := by decide +kernel
theorem dX5_takesCode_73 : decode cX5_takesCode 73 = .ok (.istore 5, 2) := by decide +kernel
theorem dX5_takesCode_75 : decode cX5_takesCode 75 = .ok (.iload 5, 2) := by decide +kernel
theorem dX5_takesCode_77 : decode cX5_takesCode 77 = .ok (.ifCond .ne 15, 3) := by decide +kernel
theorem dX5_takesCode_80 : decode cX5_takesCode 80 = .ok (.iload_n 2, 1) := by decide +kernel
theorem dX5_takesCode_81 : decode cX5_takesCode 81 = .ok (.bipush 44, 2) := by decide +kernel
theorem dX5_takesCode_83 : decode cX5_takesCode 83 = .ok (.if_icmp .ne 7, 3) := by decide +kernel
theorem dX5_takesCode_86 : decode cX5_takesCode 86 = .ok (.iconst 1, 1) := by decide +kernel
theorem dX5_takesCode_87 : decode cX5_takesCode 87 = .ok (.goto 4, 3) := by decide +kernel
theorem dX5_takesCode_90 : decode cX5_takesCode 90 = .ok (.iconst 0, 1) := by decide +kernel
theorem dX5_takesCode_91 : decode cX5_takesCode 91 = .ok (.ireturn, 1) := by decide +kernel
theorem dX5_takesCode_92 : decode cX5_takesCode 92 = .ok (.iload 5, 2) := by decide +kernel
theorem dX5_takesCode_94 : decode cX5_takesCode 94 = .ok (.iconst 1, 1) := by decide +kernel
theorem dX5_takesCode_95 : decode cX5_takesCode 95 = .ok (.if_icmp .ne 11, 3) := by decide +kernel
theorem dX5_takesCode_98 : decode cX5_takesCode 98 = .ok (.aload_n 0, 1) := by decide +kernel
theorem dX5_takesCode_99 : decode cX5_takesCode 99 = .ok (.iload 4, 2) := by decide +kernel
theorem dX5_takesCode_101 : decode cX5_takesCode 101 = .ok (.iload_n 2, 1) := by decide +kernel
theorem dX5_takesCode_102 : decode cX5_takesCode 102 = .ok (.invokevirtual 68, 3) := by decide +kernel
theorem dX5_takesCode_105 : decode cX5_takesCode 105 = .ok (.ireturn, 1) := by decide +kernel
theorem dX5_takesCode_106 : decode cX5_takesCode 106 = .ok (.aload_n 0, 1) := by decide +kernel
theorem dX5_takesCode_107 : decode cX5_takesCode 107 = .ok (.iload 4, 2) := by decide +kernel
theorem dX5_takesCode_109 : decode cX5_takesCode 109 = .ok (.iload 5, 2) := by decide +kernel
theorem dX5_takesCode_111 : decode cX5_takesCode 111 = .ok (.iconst 2, 1) := by decide +kernel
theorem dX5_takesCode_112 : decode cX5_takesCode 112 = .ok (.isub, 1) := by decide +kernel
theorem dX5_takesCode_113 : decode cX5_takesCode 113 = .ok (.iload_n 2, 1) := by decide +kernel
theorem dX5_takesCode_114 : decode cX5_takesCode 114 = .ok (.bipush 48, 2) := by decide +kernel
theorem dX5_takesCode_116 : decode cX5_takesCode 116 = .ok (.isub, 1) := by decide +kernel
theorem dX5_takesCode_117 : decode cX5_takesCode 117 = .ok (.invokevirtual 71, 3) := by decide +kernel
theorem dX5_takesCode_120 : decode cX5_takesCode 120 = .ok (.ireturn, 1) := by decide +kernel
theorem dX5_takesPeople_0 : decode cX5_takesPeople 0 = .ok (.iload_n 1, 1) := by decide +kernel
theorem dX5_takesPeople_1 : decode cX5_takesPeople 1 = .ok (.iconst 2, 1) := by decide +kernel
theorem dX5_takesPeople_2 : decode cX5_takesPeople 2 = .ok (.if_icmp .lt 9, 3) := by decide +kernel
theorem dX5_takesPeople_5 : decode cX5_takesPeople 5 = .ok (.iload_n 1, 1) := by decide +kernel
theorem dX5_takesPeople_6 : decode cX5_takesPeople 6 = .ok (.bipush 6, 2) := by decide +kernel
theorem dX5_takesPeople_8 : decode cX5_takesPeople 8 = .ok (.if_icmp .le 5, 3) := by decide +kernel
theorem dX5_takesPeople_11 : decode cX5_takesPeople 11 = .ok (.iconst 0, 1) := by decide +kernel
theorem dX5_takesPeople_12 : decode cX5_takesPeople 12 = .ok (.ireturn, 1) := by decide +kernel
theorem dX5_takesPeople_13 : decode cX5_takesPeople 13 = .ok (.aload_n 0, 1) := by decide +kernel
theorem dX5_takesPeople_14 : decode cX5_takesPeople 14 = .ok (.iload_n 1, 1) := by decide +kernel
theorem dX5_takesPeople_15 : decode cX5_takesPeople 15 = .ok (.putfield 40, 3) := by decide +kernel
theorem dX5_takesPeople_18 : decode cX5_takesPeople 18 = .ok (.iconst 1, 1) := by decide +kernel
theorem dX5_takesPeople_19 : decode cX5_takesPeople 19 = .ok (.ireturn, 1) := by decide +kernel
theorem dX5_takesBell_0 : decode cX5_takesBell 0 = .ok (.iload_n 1, 1) := by decide +kernel
theorem dX5_takesBell_1 : decode cX5_takesBell 1 = .ok (.ifCond .lt 9, 3) := by decide +kernel
theorem dX5_takesBell_4 : decode cX5_takesBell 4 = .ok (.iload_n 1, 1) := by decide +kernel
theorem dX5_takesBell_5 : decode cX5_takesBell 5 = .ok (.bipush 9, 2) := by decide +kernel
theorem dX5_takesBell_7 : decode cX5_takesBell 7 = .ok (.if_icmp .le 5, 3) := by decide +kernel
theorem dX5_takesBell_10 : decode cX5_takesBell 10 = .ok (.iconst 0, 1) := by decide +kernel
theorem dX5_takesBell_11 : decode cX5_takesBell 11 = .ok (.ireturn, 1) := by decide +kernel
theorem dX5_takesBell_12 : decode cX5_takesBell 12 = .ok (.aload_n 0, 1) := by decide +kernel
theorem dX5_takesBell_13 : decode cX5_takesBell 13 = .ok (.iload_n 1, 1) := by decide +kernel
theorem dX5_takesBell_14 : decode cX5_takesBell 14 = .ok (.putfield 44, 3) := by decide +kernel
theorem dX5_takesBell_17 : decode cX5_takesBell 17 = .ok (.iconst 1, 1) := by decide +kernel
theorem dX5_takesBell_18 : decode cX5_takesBell 18 = .ok (.ireturn, 1) := by decide +kernel
theorem dX5_takesKind_0 : decode cX5_takesKind 0 = .ok (.iload_n 2, 1) := by decide +kernel
theorem dX5_takesKind_1 : decode cX5_takesKind 1 = .ok (.bipush 112, 2) := by decide +kernel
theorem dX5_takesKind_3 : decode cX5_takesKind 3 = .ok (.if_icmp .ne 7, 3) := by decide +kernel
theorem dX5_takesKind_6 : decode cX5_takesKind 6 = .ok (.iconst 0, 1) := by decide +kernel
theorem dX5_takesKind_7 : decode cX5_takesKind 7 = .ok (.goto 25, 3) := by decide +kernel
theorem dX5_takesKind_10 : decode cX5_takesKind 10 = .ok (.iload_n 2, 1) := by decide +kernel
theorem dX5_takesKind_11 : decode cX5_takesKind 11 = .ok (.bipush 114, 2) := by decide +kernel
theorem dX5_takesKind_13 : decode cX5_takesKind 13 = .ok (.if_icmp .ne 7, 3) := by decide +kernel
theorem dX5_takesKind_16 : decode cX5_takesKind 16 = .ok (.iconst 1, 1) := by decide +kernel
theorem dX5_takesKind_17 : decode cX5_takesKind 17 = .ok (.goto 15, 3) := by decide +kernel
theorem dX5_takesKind_20 : decode cX5_takesKind 20 = .ok (.iload_n 2, 1) := by decide +kernel
theorem dX5_takesKind_21 : decode cX5_takesKind 21 = .ok (.bipush 98, 2) := by decide +kernel
theorem dX5_takesKind_23 : decode cX5_takesKind 23 = .ok (.if_icmp .ne 7, 3) := by decide +kernel
theorem dX5_takesKind_26 : decode cX5_takesKind 26 = .ok (.iconst 2, 1) := by decide +kernel
theorem dX5_takesKind_27 : decode cX5_takesKind 27 = .ok (.goto 5, 3) := by decide +kernel
theorem dX5_takesKind_30 : decode cX5_takesKind 30 = .ok (.bipush (-9), 2) := by decide +kernel
theorem dX5_takesKind_32 : decode cX5_takesKind 32 = .ok (.istore_n 3, 1) := by decide +kernel
theorem dX5_takesKind_33 : decode cX5_takesKind 33 = .ok (.iload_n 3, 1) := by decide +kernel
theorem dX5_takesKind_34 : decode cX5_takesKind 34 = .ok (.bipush (-9), 2) := by decide +kernel
theorem dX5_takesKind_36 : decode cX5_takesKind 36 = .ok (.if_icmp .ne 5, 3) := by decide +kernel
theorem dX5_takesKind_39 : decode cX5_takesKind 39 = .ok (.iconst 0, 1) := by decide +kernel
theorem dX5_takesKind_40 : decode cX5_takesKind 40 = .ok (.ireturn, 1) := by decide +kernel
theorem dX5_takesKind_41 : decode cX5_takesKind 41 = .ok (.aload_n 0, 1) := by decide +kernel
theorem dX5_takesKind_42 : decode cX5_takesKind 42 = .ok (.getfield 24, 3) := by decide +kernel
theorem dX5_takesKind_45 : decode cX5_takesKind 45 = .ok (.iload_n 1, 1) := by decide +kernel
theorem dX5_takesKind_46 : decode cX5_takesKind 46 = .ok (.iload_n 3, 1) := by decide +kernel
theorem dX5_takesKind_47 : decode cX5_takesKind 47 = .ok (.iastore, 1) := by decide +kernel
theorem dX5_takesKind_48 : decode cX5_takesKind 48 = .ok (.iconst 1, 1) := by decide +kernel
theorem dX5_takesKind_49 : decode cX5_takesKind 49 = .ok (.ireturn, 1) := by decide +kernel
theorem dX5_takesPence_0 : decode cX5_takesPence 0 = .ok (.iload_n 1, 1) := by decide +kernel
theorem dX5_takesPence_1 : decode cX5_takesPence 1 = .ok (.iload_n 2, 1) := by decide +kernel
theorem dX5_takesPence_2 : decode cX5_takesPence 2 = .ok (.if_icmp .ne 7, 3) := by decide +kernel
theorem dX5_takesPence_5 : decode cX5_takesPence 5 = .ok (.iconst 0, 1) := by decide +kernel
theorem dX5_takesPence_6 : decode cX5_takesPence 6 = .ok (.goto 5, 3) := by decide +kernel
theorem dX5_takesPence_9 : decode cX5_takesPence 9 = .ok (.bipush 9, 2) := by decide +kernel
theorem dX5_takesPence_11 : decode cX5_takesPence 11 = .ok (.istore 4, 2) := by decide +kernel
theorem dX5_takesPence_13 : decode cX5_takesPence 13 = .ok (.iload_n 3, 1) := by decide +kernel
theorem dX5_takesPence_14 : decode cX5_takesPence 14 = .ok (.ifCond .lt 9, 3) := by decide +kernel
theorem dX5_takesPence_17 : decode cX5_takesPence 17 = .ok (.iload_n 3, 1) := by decide +kernel
theorem dX5_takesPence_18 : decode cX5_takesPence 18 = .ok (.iload 4, 2) := by decide +kernel
theorem dX5_takesPence_20 : decode cX5_takesPence 20 = .ok (.if_icmp .le 5, 3) := by decide +kernel
theorem dX5_takesPence_23 : decode cX5_takesPence 23 = .ok (.iconst 0, 1) := by decide +kernel
theorem dX5_takesPence_24 : decode cX5_takesPence 24 = .ok (.ireturn, 1) := by decide +kernel
theorem dX5_takesPence_25 : decode cX5_takesPence 25 = .ok (.aload_n 0, 1) := by decide +kernel
theorem dX5_takesPence_26 : decode cX5_takesPence 26 = .ok (.getfield 30, 3) := by decide +kernel
theorem dX5_takesPence_29 : decode cX5_takesPence 29 = .ok (.iload_n 1, 1) := by decide +kernel
theorem dX5_takesPence_30 : decode cX5_takesPence 30 = .ok (.aaload, 1) := by decide +kernel
theorem dX5_takesPence_31 : decode cX5_takesPence 31 = .ok (.iload_n 2, 1) := by decide +kernel
theorem dX5_takesPence_32 : decode cX5_takesPence 32 = .ok (.iload_n 3, 1) := by decide +kernel
theorem dX5_takesPence_33 : decode cX5_takesPence 33 = .ok (.iastore, 1) := by decide +kernel
theorem dX5_takesPence_34 : decode cX5_takesPence 34 = .ok (.iconst 1, 1) := by decide +kernel
theorem dX5_takesPence_35 : decode cX5_takesPence 35 = .ok (.ireturn, 1) := by decide +kernel
theorem dX5_penceInAll_0 : decode cX5_penceInAll 0 = .ok (.iconst 0, 1) := by decide +kernel
theorem dX5_penceInAll_1 : decode cX5_penceInAll 1 = .ok (.istore_n 2, 1) := by decide +kernel
theorem dX5_penceInAll_2 : decode cX5_penceInAll 2 = .ok (.iconst 0, 1) := by decide +kernel
theorem dX5_penceInAll_3 : decode cX5_penceInAll 3 = .ok (.istore_n 3, 1) := by decide +kernel
theorem dX5_penceInAll_4 : decode cX5_penceInAll 4 = .ok (.iload_n 3, 1) := by decide +kernel
theorem dX5_penceInAll_5 : decode cX5_penceInAll 5 = .ok (.aload_n 0, 1) := by decide +kernel
theorem dX5_penceInAll_6 : decode cX5_penceInAll 6 = .ok (.getfield 40, 3) := by decide +kernel
theorem dX5_penceInAll_9 : decode cX5_penceInAll 9 = .ok (.if_icmp .ge 20, 3) := by decide +kernel
theorem dX5_penceInAll_12 : decode cX5_penceInAll 12 = .ok (.iload_n 2, 1) := by decide +kernel
theorem dX5_penceInAll_13 : decode cX5_penceInAll 13 = .ok (.aload_n 0, 1) := by decide +kernel
theorem dX5_penceInAll_14 : decode cX5_penceInAll 14 = .ok (.getfield 30, 3) := by decide +kernel
theorem dX5_penceInAll_17 : decode cX5_penceInAll 17 = .ok (.iload_n 1, 1) := by decide +kernel
theorem dX5_penceInAll_18 : decode cX5_penceInAll 18 = .ok (.aaload, 1) := by decide +kernel
theorem dX5_penceInAll_19 : decode cX5_penceInAll 19 = .ok (.iload_n 3, 1) := by decide +kernel
theorem dX5_penceInAll_20 : decode cX5_penceInAll 20 = .ok (.iaload, 1) := by decide +kernel
theorem dX5_penceInAll_21 : decode cX5_penceInAll 21 = .ok (.iadd, 1) := by decide +kernel
theorem dX5_penceInAll_22 : decode cX5_penceInAll 22 = .ok (.istore_n 2, 1) := by decide +kernel
theorem dX5_penceInAll_23 : decode cX5_penceInAll 23 = .ok (.iinc 3 1, 3) := by decide +kernel
theorem dX5_penceInAll_26 : decode cX5_penceInAll 26 = .ok (.goto (-22), 3) := by decide +kernel
theorem dX5_penceInAll_29 : decode cX5_penceInAll 29 = .ok (.iload_n 2, 1) := by decide +kernel
theorem dX5_penceInAll_30 : decode cX5_penceInAll 30 = .ok (.ireturn, 1) := by decide +kernel
theorem dX5_bodyOf_0 : decode cX5_bodyOf 0 = .ok (.aload_n 0, 1) := by decide +kernel
theorem dX5_bodyOf_1 : decode cX5_bodyOf 1 = .ok (.getfield 18, 3) := by decide +kernel
theorem dX5_bodyOf_4 : decode cX5_bodyOf 4 = .ok (.aload_n 0, 1) := by decide +kernel
theorem dX5_bodyOf_5 : decode cX5_bodyOf 5 = .ok (.getfield 24, 3) := by decide +kernel
theorem dX5_bodyOf_8 : decode cX5_bodyOf 8 = .ok (.iload_n 1, 1) := by decide +kernel
theorem dX5_bodyOf_9 : decode cX5_bodyOf 9 = .ok (.iaload, 1) := by decide +kernel
theorem dX5_bodyOf_10 : decode cX5_bodyOf 10 = .ok (.aaload, 1) := by decide +kernel
theorem dX5_bodyOf_11 : decode cX5_bodyOf 11 = .ok (.areturn, 1) := by decide +kernel
set_option maxRecDepth 20000 in
theorem ggX5_weightOf_X0_weigh : GoodIn wsX5_weightOf wsX0_weigh := goodIn_r _ [10] (by decide +kernel) (by decide +kernel)
set_option maxRecDepth 20000 in
theorem gX5_weightOf_X0_weigh_u75X0 : GoodIn wsX5_weightOf (va_wsO RX5 75 RX0 "DebtLamps$Person" ⟨"DebtLamps$Person", "weigh", "(I)I"⟩ yX0_weigh wsX0_weigh) := goodIn_app (goodIn_of _ (by decide +kernel)) ggX5_weightOf_X0_weigh
set_option maxRecDepth 20000 in
theorem ggX5_weightOf_X1_weigh : GoodIn wsX5_weightOf wsX1_weigh := goodIn_r _ [11] (by decide +kernel) (by decide +kernel)
set_option maxRecDepth 20000 in
theorem gX5_weightOf_X1_weigh : GoodIn wsX5_weightOf (wsV RX5 75 RX1 yX1_weigh wsX1_weigh) := goodIn_app (goodIn_of _ (by decide +kernel)) ggX5_weightOf_X1_weigh
set_option maxRecDepth 20000 in
theorem ggX5_weightOf_X3_weigh : GoodIn wsX5_weightOf wsX3_weigh := goodIn_r _ [19] (by decide +kernel) (by decide +kernel)
set_option maxRecDepth 20000 in
theorem gX5_weightOf_X3_weigh_u75X3 : GoodIn wsX5_weightOf (va_wsO RX5 75 RX3 "DebtLamps$Person" ⟨"DebtLamps$Person", "weigh", "(I)I"⟩ yX3_weigh wsX3_weigh) := goodIn_app (goodIn_of _ (by decide +kernel)) ggX5_weightOf_X3_weigh
theorem dX5_weightOf_0 : decode cX5_weightOf 0 = .ok (.aload_n 0, 1) := by decide +kernel
theorem dX5_weightOf_1 : decode cX5_weightOf 1 = .ok (.getfield 18, 3) := by decide +kernel
theorem dX5_weightOf_4 : decode cX5_weightOf 4 = .ok (.aload_n 0, 1) := by decide +kernel
theorem dX5_weightOf_5 : decode cX5_weightOf 5 = .ok (.getfield 24, 3) := by decide +kernel
theorem dX5_weightOf_8 : decode cX5_weightOf 8 = .ok (.iload_n 1, 1) := by decide +kernel
theorem dX5_weightOf_9 : decode cX5_weightOf 9 = .ok (.iaload, 1) := by decide +kernel
theorem dX5_weightOf_10 : decode cX5_weightOf 10 = .ok (.aaload, 1) := by decide +kernel
theorem dX5_weightOf_11 : decode cX5_weightOf 11 = .ok (.aload_n 0, 1) := by decide +kernel
theorem dX5_weightOf_12 : decode cX5_weightOf 12 = .ok (.getfield 30, 3) := by decide +kernel
theorem dX5_weightOf_15 : decode cX5_weightOf 15 = .ok (.iload_n 1, 1) := by decide +kernel
theorem dX5_weightOf_16 : decode cX5_weightOf 16 = .ok (.aaload, 1) := by decide +kernel
theorem dX5_weightOf_17 : decode cX5_weightOf 17 = .ok (.iload_n 2, 1) := by decide +kernel
theorem dX5_weightOf_18 : decode cX5_weightOf 18 = .ok (.iaload, 1) := by decide +kernel
theorem dX5_weightOf_19 : decode cX5_weightOf 19 = .ok (.invokevirtual 75, 3) := by decide +kernel
theorem dX5_weightOf_22 : decode cX5_weightOf 22 = .ok (.ireturn, 1) := by decide +kernel
theorem dX5_owingTo_0 : decode cX5_owingTo 0 = .ok (.iconst 0, 1) := by decide +kernel
theorem dX5_owingTo_1 : decode cX5_owingTo 1 = .ok (.istore_n 2, 1) := by decide +kernel
theorem dX5_owingTo_2 : decode cX5_owingTo 2 = .ok (.iconst 0, 1) := by decide +kernel
theorem dX5_owingTo_3 : decode cX5_owingTo 3 = .ok (.istore_n 3, 1) := by decide +kernel
theorem dX5_owingTo_4 : decode cX5_owingTo 4 = .ok (.iload_n 3, 1) := by decide +kernel
theorem dX5_owingTo_5 : decode cX5_owingTo 5 = .ok (.aload_n 0, 1) := by decide +kernel
theorem dX5_owingTo_6 : decode cX5_owingTo 6 = .ok (.getfield 40, 3) := by decide +kernel
theorem dX5_owingTo_9 : decode cX5_owingTo 9 = .ok (.if_icmp .ge 26, 3) := by decide +kernel
theorem dX5_owingTo_12 : decode cX5_owingTo 12 = .ok (.aload_n 0, 1) := by decide +kernel
theorem dX5_owingTo_13 : decode cX5_owingTo 13 = .ok (.getfield 30, 3) := by decide +kernel
theorem dX5_owingTo_16 : decode cX5_owingTo 16 = .ok (.iload_n 3, 1) := by decide +kernel
theorem dX5_owingTo_17 : decode cX5_owingTo 17 = .ok (.aaload, 1) := by decide +kernel
theorem dX5_owingTo_18 : decode cX5_owingTo 18 = .ok (.iload_n 1, 1) := by decide +kernel
theorem dX5_owingTo_19 : decode cX5_owingTo 19 = .ok (.iaload, 1) := by decide +kernel
theorem dX5_owingTo_20 : decode cX5_owingTo 20 = .ok (.ifCond .le 9, 3) := by decide +kernel
theorem dX5_owingTo_23 : decode cX5_owingTo 23 = .ok (.iload_n 2, 1) := by decide +kernel
theorem dX5_owingTo_24 : decode cX5_owingTo 24 = .ok (.iconst 1, 1) := by decide +kernel
theorem dX5_owingTo_25 : decode cX5_owingTo 25 = .ok (.iload_n 3, 1) := by decide +kernel
theorem dX5_owingTo_26 : decode cX5_owingTo 26 = .ok (.ishl, 1) := by decide +kernel
theorem dX5_owingTo_27 : decode cX5_owingTo 27 = .ok (.ior, 1) := by decide +kernel
theorem dX5_owingTo_28 : decode cX5_owingTo 28 = .ok (.istore_n 2, 1) := by decide +kernel
theorem dX5_owingTo_29 : decode cX5_owingTo 29 = .ok (.iinc 3 1, 3) := by decide +kernel
theorem dX5_owingTo_32 : decode cX5_owingTo 32 = .ok (.goto (-28), 3) := by decide +kernel
theorem dX5_owingTo_35 : decode cX5_owingTo 35 = .ok (.iload_n 2, 1) := by decide +kernel
theorem dX5_owingTo_36 : decode cX5_owingTo 36 = .ok (.ireturn, 1) := by decide +kernel
set_option maxRecDepth 20000 in
theorem ggX5_lighterAmong_X5_weightOf : GoodIn wsX5_lighterAmong wsX5_weightOf := goodIn_r _ [6, 7, 8, 9, 10, 11, 12, 13, 14, 15, 16, 17, 18, 19, 20, 21, 22, 23, 24, 25, 26, 27, 28, 29, 30, 31, 32] (by decide +kernel) (by decide +kernel)
set_option maxRecDepth 20000 in
theorem gX5_lighterAmong_X5_weightOf : GoodIn wsX5_lighterAmong (wsV RX5 78 RX5 yX5_weightOf wsX5_weightOf) := goodIn_app (goodIn_of _ (by decide +kernel)) ggX5_lighterAmong_X5_weightOf
theorem dX5_lighterAmong_0 : decode cX5_lighterAmong 0 = .ok (.bipush (-9), 2) := by decide +kernel
theorem dX5_lighterAmong_2 : decode cX5_lighterAmong 2 = .ok (.istore_n 3, 1) := by decide +kernel
theorem dX5_lighterAmong_3 : decode cX5_lighterAmong 3 = .ok (.iconst 0, 1) := by decide +kernel
theorem dX5_lighterAmong_4 : decode cX5_lighterAmong 4 = .ok (.istore 4, 2) := by decide +kernel
theorem dX5_lighterAmong_6 : decode cX5_lighterAmong 6 = .ok (.iconst 0, 1) := by decide +kernel
theorem dX5_lighterAmong_7 : decode cX5_lighterAmong 7 = .ok (.istore 5, 2) := by decide +kernel
theorem dX5_lighterAmong_9 : decode cX5_lighterAmong 9 = .ok (.iload 5, 2) := by decide +kernel
theorem dX5_lighterAmong_11 : decode cX5_lighterAmong 11 = .ok (.aload_n 0, 1) := by decide +kernel
theorem dX5_lighterAmong_12 : decode cX5_lighterAmong 12 = .ok (.getfield 40, 3) := by decide +kernel
theorem dX5_lighterAmong_15 : decode cX5_lighterAmong 15 = .ok (.if_icmp .ge 45, 3) := by decide +kernel
theorem dX5_lighterAmong_18 : decode cX5_lighterAmong 18 = .ok (.iload_n 2, 1) := by decide +kernel
theorem dX5_lighterAmong_19 : decode cX5_lighterAmong 19 = .ok (.iload 5, 2) := by decide +kernel
theorem dX5_lighterAmong_21 : decode cX5_lighterAmong 21 = .ok (.ishr, 1) := by decide +kernel
theorem dX5_lighterAmong_22 : decode cX5_lighterAmong 22 = .ok (.iconst 1, 1) := by decide +kernel
theorem dX5_lighterAmong_23 : decode cX5_lighterAmong 23 = .ok (.iand, 1) := by decide +kernel
theorem dX5_lighterAmong_24 : decode cX5_lighterAmong 24 = .ok (.iconst 1, 1) := by decide +kernel
theorem dX5_lighterAmong_25 : decode cX5_lighterAmong 25 = .ok (.if_icmp .ne 6, 3) := by decide +kernel
theorem dX5_lighterAmong_28 : decode cX5_lighterAmong 28 = .ok (.goto 26, 3) := by decide +kernel
theorem dX5_lighterAmong_31 : decode cX5_lighterAmong 31 = .ok (.aload_n 0, 1) := by decide +kernel
theorem dX5_lighterAmong_32 : decode cX5_lighterAmong 32 = .ok (.iload 5, 2) := by decide +kernel
theorem dX5_lighterAmong_34 : decode cX5_lighterAmong 34 = .ok (.iload_n 1, 1) := by decide +kernel
theorem dX5_lighterAmong_35 : decode cX5_lighterAmong 35 = .ok (.invokevirtual 78, 3) := by decide +kernel
theorem dX5_lighterAmong_38 : decode cX5_lighterAmong 38 = .ok (.istore 6, 2) := by decide +kernel
theorem dX5_lighterAmong_40 : decode cX5_lighterAmong 40 = .ok (.iload 6, 2) := by decide +kernel
theorem dX5_lighterAmong_42 : decode cX5_lighterAmong 42 = .ok (.iload 4, 2) := by decide +kernel
theorem dX5_lighterAmong_44 : decode cX5_lighterAmong 44 = .ok (.if_icmp .le 10, 3) := by decide +kernel
theorem dX5_lighterAmong_47 : decode cX5_lighterAmong 47 = .ok (.iload 6, 2) := by decide +kernel
theorem dX5_lighterAmong_49 : decode cX5_lighterAmong 49 = .ok (.istore 4, 2) := by decide +kernel
theorem dX5_lighterAmong_51 : decode cX5_lighterAmong 51 = .ok (.iload 5, 2) := by decide +kernel
theorem dX5_lighterAmong_53 : decode cX5_lighterAmong 53 = .ok (.istore_n 3, 1) := by decide +kernel
theorem dX5_lighterAmong_54 : decode cX5_lighterAmong 54 = .ok (.iinc 5 1, 3) := by decide +kernel
theorem dX5_lighterAmong_57 : decode cX5_lighterAmong 57 = .ok (.goto (-48), 3) := by decide +kernel
theorem dX5_lighterAmong_60 : decode cX5_lighterAmong 60 = .ok (.iload_n 3, 1) := by decide +kernel
theorem dX5_lighterAmong_61 : decode cX5_lighterAmong 61 = .ok (.ireturn, 1) := by decide +kernel
set_option maxRecDepth 20000 in
theorem ggX5_litLamps_X5_lighterAmong : GoodIn wsX5_litLamps wsX5_lighterAmong := goodIn_r _ [6, 1, 7, 8, 9, 5, 10, 11, 12, 13, 14, 15, 16, 17, 18, 19, 20, 21, 22, 23, 24, 25, 26, 27, 28, 29, 30, 31, 32, 33, 34, 35, 36] (by decide +kernel) (by decide +kernel)
set_option maxRecDepth 20000 in
theorem gX5_litLamps_X5_lighterAmong : GoodIn wsX5_litLamps (wsV RX5 82 RX5 yX5_lighterAmong wsX5_lighterAmong) := goodIn_app (goodIn_of _ (by decide +kernel)) ggX5_litLamps_X5_lighterAmong
theorem dX5_litLamps_0 : decode cX5_litLamps 0 = .ok (.iconst 0, 1) := by decide +kernel
theorem dX5_litLamps_1 : decode cX5_litLamps 1 = .ok (.istore_n 1, 1) := by decide +kernel
theorem dX5_litLamps_2 : decode cX5_litLamps 2 = .ok (.iconst 0, 1) := by decide +kernel
theorem dX5_litLamps_3 : decode cX5_litLamps 3 = .ok (.istore_n 2, 1) := by decide +kernel
theorem dX5_litLamps_4 : decode cX5_litLamps 4 = .ok (.iload_n 2, 1) := by decide +kernel
theorem dX5_litLamps_5 : decode cX5_litLamps 5 = .ok (.aload_n 0, 1) := by decide +kernel
theorem dX5_litLamps_6 : decode cX5_litLamps 6 = .ok (.getfield 40, 3) := by decide +kernel
theorem dX5_litLamps_9 : decode cX5_litLamps 9 = .ok (.if_icmp .ge 26, 3) := by decide +kernel
theorem dX5_litLamps_12 : decode cX5_litLamps 12 = .ok (.aload_n 0, 1) := by decide +kernel
theorem dX5_litLamps_13 : decode cX5_litLamps 13 = .ok (.iload_n 2, 1) := by decide +kernel
theorem dX5_litLamps_14 : decode cX5_litLamps 14 = .ok (.iconst 0, 1) := by decide +kernel
theorem dX5_litLamps_15 : decode cX5_litLamps 15 = .ok (.invokevirtual 82, 3) := by decide +kernel
theorem dX5_litLamps_18 : decode cX5_litLamps 18 = .ok (.bipush (-9), 2) := by decide +kernel
theorem dX5_litLamps_20 : decode cX5_litLamps 20 = .ok (.if_icmp .eq 9, 3) := by decide +kernel
theorem dX5_litLamps_23 : decode cX5_litLamps 23 = .ok (.iload_n 1, 1) := by decide +kernel
theorem dX5_litLamps_24 : decode cX5_litLamps 24 = .ok (.iconst 1, 1) := by decide +kernel
theorem dX5_litLamps_25 : decode cX5_litLamps 25 = .ok (.iload_n 2, 1) := by decide +kernel
theorem dX5_litLamps_26 : decode cX5_litLamps 26 = .ok (.ishl, 1) := by decide +kernel
theorem dX5_litLamps_27 : decode cX5_litLamps 27 = .ok (.ior, 1) := by decide +kernel
theorem dX5_litLamps_28 : decode cX5_litLamps 28 = .ok (.istore_n 1, 1) := by decide +kernel
theorem dX5_litLamps_29 : decode cX5_litLamps 29 = .ok (.iinc 2 1, 3) := by decide +kernel
theorem dX5_litLamps_32 : decode cX5_litLamps 32 = .ok (.goto (-28), 3) := by decide +kernel
theorem dX5_litLamps_35 : decode cX5_litLamps 35 = .ok (.iload_n 1, 1) := by decide +kernel
theorem dX5_litLamps_36 : decode cX5_litLamps 36 = .ok (.ireturn, 1) := by decide +kernel
set_option maxRecDepth 20000 in
theorem ggX5_roundOf_X5_findLighters : GoodIn wsX5_roundOf wsX5_findLighters := goodIn_r _ [5, 6, 7, 8, 9, 10, 4, 11, 12, 13, 14, 15, 16, 17, 18, 19, 20, 21, 22, 23, 24, 25, 26, 27, 28, 29, 30, 31, 32, 33, 34, 39, 40, 41, 42, 43, 44, 45] (by decide +kernel) (by decide +kernel)
set_option maxRecDepth 20000 in
theorem gX5_roundOf_X5_findLighters : GoodIn wsX5_roundOf (wsV RX5 85 RX5 yX5_findLighters wsX5_findLighters) := goodIn_app (goodIn_of _ (by decide +kernel)) ggX5_roundOf_X5_findLighters
set_option maxRecDepth 20000 in
theorem ggX5_roundOf_X5_roundByLighters : GoodIn wsX5_roundOf wsX5_roundByLighters := goodIn_r _ [38, 6, 7, 39, 40, 41, 42, 43, 44, 45] (by decide +kernel) (by decide +kernel)
set_option maxRecDepth 20000 in
theorem gX5_roundOf_X5_roundByLighters : GoodIn wsX5_roundOf (wsV RX5 88 RX5 yX5_roundByLighters wsX5_roundByLighters) := goodIn_app (goodIn_of _ (by decide +kernel)) ggX5_roundOf_X5_roundByLighters
theorem dX5_roundOf_0 : decode cX5_roundOf 0 = .ok (.aload_n 0, 1) := by decide +kernel
theorem dX5_roundOf_1 : decode cX5_roundOf 1 = .ok (.invokevirtual 85, 3) := by decide +kernel
theorem dX5_roundOf_4 : decode cX5_roundOf 4 = .ok (.aload_n 0, 1) := by decide +kernel
theorem dX5_roundOf_5 : decode cX5_roundOf 5 = .ok (.iload_n 1, 1) := by decide +kernel
theorem dX5_roundOf_6 : decode cX5_roundOf 6 = .ok (.invokevirtual 88, 3) := by decide +kernel
theorem dX5_roundOf_9 : decode cX5_roundOf 9 = .ok (.ireturn, 1) := by decide +kernel
set_option maxRecDepth 20000 in
theorem ggX5_stepsOf_X5_roundOf : GoodIn wsX5_stepsOf wsX5_roundOf := goodIn_r _ [5, 6, 7, 8, 4, 9, 10, 11, 12, 13, 14, 15, 16, 17, 18, 19, 20, 21, 22, 23, 24, 25, 26, 27, 28, 29, 30, 31, 32, 33, 34, 35, 36, 37, 38, 39, 40, 41, 42, 53, 54, 55, 56, 57, 58, 59] (by decide +kernel) (by decide +kernel)
set_option maxRecDepth 20000 in
theorem gX5_stepsOf_X5_roundOf : GoodIn wsX5_stepsOf (wsV RX5 91 RX5 yX5_roundOf wsX5_roundOf) := goodIn_app (goodIn_of _ (by decide +kernel)) ggX5_stepsOf_X5_roundOf
set_option maxRecDepth 20000 in
theorem ggX5_stepsOf_X5_fewestSteps : GoodIn wsX5_stepsOf wsX5_fewestSteps := goodIn_r _ [45, 46, 47, 48, 49, 50, 51, 52] (by decide +kernel) (by decide +kernel)
set_option maxRecDepth 20000 in
theorem gX5_stepsOf_X5_fewestSteps : GoodIn wsX5_stepsOf (va_wsS RX5 94 yX5_fewestSteps wsX5_fewestSteps) := goodIn_app (goodIn_of _ (by decide +kernel)) ggX5_stepsOf_X5_fewestSteps
theorem dX5_stepsOf_0 : decode cX5_stepsOf 0 = .ok (.iload_n 1, 1) := by decide +kernel
theorem dX5_stepsOf_1 : decode cX5_stepsOf 1 = .ok (.aload_n 0, 1) := by decide +kernel
theorem dX5_stepsOf_2 : decode cX5_stepsOf 2 = .ok (.iload_n 1, 1) := by decide +kernel
theorem dX5_stepsOf_3 : decode cX5_stepsOf 3 = .ok (.invokevirtual 91, 3) := by decide +kernel
theorem dX5_stepsOf_6 : decode cX5_stepsOf 6 = .ok (.invokestatic 94, 3) := by decide +kernel
theorem dX5_stepsOf_9 : decode cX5_stepsOf 9 = .ok (.ireturn, 1) := by decide +kernel
set_option maxRecDepth 20000 in
theorem ggX5_passDusk_X5_findLighters : GoodIn wsX5_passDusk wsX5_findLighters := goodIn_r _ [17, 1, 4, 18, 19, 20, 16, 21, 22, 23, 24, 25, 26, 27, 5, 28, 29, 30, 31, 32, 33, 34, 35, 36, 37, 38, 39, 40, 41, 42, 43, 51, 52, 53, 54, 55, 56, 57] (by decide +kernel) (by decide +kernel)
set_option maxRecDepth 20000 in
theorem gX5_passDusk_X5_findLighters : GoodIn wsX5_passDusk (wsV RX5 85 RX5 yX5_findLighters wsX5_findLighters) := goodIn_app (goodIn_of _ (by decide +kernel)) ggX5_passDusk_X5_findLighters
set_option maxRecDepth 20000 in
theorem ggX5_passDusk_X5_roundByLighters : GoodIn wsX5_passDusk wsX5_roundByLighters := goodIn_r _ [47, 1, 4, 51, 52, 53, 54, 55, 56, 57] (by decide +kernel) (by decide +kernel)
set_option maxRecDepth 20000 in
theorem gX5_passDusk_X5_roundByLighters : GoodIn wsX5_passDusk (wsV RX5 88 RX5 yX5_roundByLighters wsX5_roundByLighters) := goodIn_app (goodIn_of _ (by decide +kernel)) ggX5_passDusk_X5_roundByLighters
set_option maxRecDepth 20000 in
theorem ggX5_passDusk_X5_fewestSteps : GoodIn wsX5_passDusk wsX5_fewestSteps := goodIn_r _ [50, 6, 7, 8, 9, 10, 11, 12] (by decide +kernel) (by decide +kernel)
set_option maxRecDepth 20000 in
theorem gX5_passDusk_X5_fewestSteps : GoodIn wsX5_passDusk (va_wsS RX5 94 yX5_fewestSteps wsX5_fewestSteps) := goodIn_app (goodIn_of _ (by decide +kernel)) ggX5_passDusk_X5_fewestSteps
theorem dX5_passDusk_0 : decode cX5_passDusk 0 = .ok (.aload_n 0, 1) := by decide +kernel
theorem dX5_passDusk_1 : decode cX5_passDusk 1 = .ok (.invokevirtual 85, 3) := by decide +kernel
theorem dX5_passDusk_4 : decode cX5_passDusk 4 = .ok (.iconst 0, 1) := by decide +kernel
theorem dX5_passDusk_5 : decode cX5_passDusk 5 = .ok (.istore_n 1, 1) := by decide +kernel
theorem dX5_passDusk_6 : decode cX5_passDusk 6 = .ok (.iload_n 1, 1) := by decide +kernel
theorem dX5_passDusk_7 : decode cX5_passDusk 7 = .ok (.aload_n 0, 1) := by decide +kernel
theorem dX5_passDusk_8 : decode cX5_passDusk 8 = .ok (.getfield 40, 3) := by decide +kernel
theorem dX5_passDusk_11 : decode cX5_passDusk 11 = .ok (.if_icmp .ge 36, 3) := by decide +kernel
theorem dX5_passDusk_14 : decode cX5_passDusk 14 = .ok (.aload_n 0, 1) := by decide +kernel
theorem dX5_passDusk_15 : decode cX5_passDusk 15 = .ok (.getfield 36, 3) := by decide +kernel
theorem dX5_passDusk_18 : decode cX5_passDusk 18 = .ok (.iload_n 1, 1) := by decide +kernel
theorem dX5_passDusk_19 : decode cX5_passDusk 19 = .ok (.iload_n 1, 1) := by decide +kernel
theorem dX5_passDusk_20 : decode cX5_passDusk 20 = .ok (.aload_n 0, 1) := by decide +kernel
theorem dX5_passDusk_21 : decode cX5_passDusk 21 = .ok (.iload_n 1, 1) := by decide +kernel
theorem dX5_passDusk_22 : decode cX5_passDusk 22 = .ok (.invokevirtual 88, 3) := by decide +kernel
theorem dX5_passDusk_25 : decode cX5_passDusk 25 = .ok (.invokestatic 94, 3) := by decide +kernel
theorem dX5_passDusk_28 : decode cX5_passDusk 28 = .ok (.aload_n 0, 1) := by decide +kernel
theorem dX5_passDusk_29 : decode cX5_passDusk 29 = .ok (.getfield 44, 3) := by decide +kernel
theorem dX5_passDusk_32 : decode cX5_passDusk 32 = .ok (.if_icmp .gt 7, 3) := by decide +kernel
theorem dX5_passDusk_35 : decode cX5_passDusk 35 = .ok (.iconst 1, 1) := by decide +kernel
theorem dX5_passDusk_36 : decode cX5_passDusk 36 = .ok (.goto 4, 3) := by decide +kernel
theorem dX5_passDusk_39 : decode cX5_passDusk 39 = .ok (.iconst 0, 1) := by decide +kernel
theorem dX5_passDusk_40 : decode cX5_passDusk 40 = .ok (.bastore, 1) := by decide +kernel
theorem dX5_passDusk_41 : decode cX5_passDusk 41 = .ok (.iinc 1 1, 3) := by decide +kernel
theorem dX5_passDusk_44 : decode cX5_passDusk 44 = .ok (.goto (-38), 3) := by decide +kernel
theorem dX5_passDusk_47 : decode cX5_passDusk 47 = .ok (.iconst 0, 1) := by decide +kernel
theorem dX5_passDusk_48 : decode cX5_passDusk 48 = .ok (.istore_n 1, 1) := by decide +kernel
theorem dX5_passDusk_49 : decode cX5_passDusk 49 = .ok (.iload_n 1, 1) := by decide +kernel
theorem dX5_passDusk_50 : decode cX5_passDusk 50 = .ok (.aload_n 0, 1) := by decide +kernel
theorem dX5_passDusk_51 : decode cX5_passDusk 51 = .ok (.getfield 40, 3) := by decide +kernel
theorem dX5_passDusk_54 : decode cX5_passDusk 54 = .ok (.if_icmp .ge 69, 3) := by decide +kernel
theorem dX5_passDusk_57 : decode cX5_passDusk 57 = .ok (.aload_n 0, 1) := by decide +kernel
theorem dX5_passDusk_58 : decode cX5_passDusk 58 = .ok (.getfield 33, 3) := by decide +kernel
theorem dX5_passDusk_61 : decode cX5_passDusk 61 = .ok (.iload_n 1, 1) := by decide +kernel
theorem dX5_passDusk_62 : decode cX5_passDusk 62 = .ok (.iaload, 1) := by decide +kernel
theorem dX5_passDusk_63 : decode cX5_passDusk 63 = .ok (.istore_n 2, 1) := by decide +kernel
theorem dX5_passDusk_64 : decode cX5_passDusk 64 = .ok (.iload_n 2, 1) := by decide +kernel
theorem dX5_passDusk_65 : decode cX5_passDusk 65 = .ok (.bipush (-9), 2) := by decide +kernel
theorem dX5_passDusk_67 : decode cX5_passDusk 67 = .ok (.if_icmp .ne 6, 3) := by decide +kernel
theorem dX5_passDusk_70 : decode cX5_passDusk 70 = .ok (.goto 47, 3) := by decide +kernel
theorem dX5_passDusk_73 : decode cX5_passDusk 73 = .ok (.aload_n 0, 1) := by decide +kernel
theorem dX5_passDusk_74 : decode cX5_passDusk 74 = .ok (.getfield 30, 3) := by decide +kernel
theorem dX5_passDusk_77 : decode cX5_passDusk 77 = .ok (.iload_n 2, 1) := by decide +kernel
theorem dX5_passDusk_78 : decode cX5_passDusk 78 = .ok (.aaload, 1) := by decide +kernel
theorem dX5_passDusk_79 : decode cX5_passDusk 79 = .ok (.iload_n 1, 1) := by decide +kernel
theorem dX5_passDusk_80 : decode cX5_passDusk 80 = .ok (.iaload, 1) := by decide +kernel
theorem dX5_passDusk_81 : decode cX5_passDusk 81 = .ok (.istore_n 3, 1) := by decide +kernel
theorem dX5_passDusk_82 : decode cX5_passDusk 82 = .ok (.aload_n 0, 1) := by decide +kernel
theorem dX5_passDusk_83 : decode cX5_passDusk 83 = .ok (.getfield 30, 3) := by decide +kernel
theorem dX5_passDusk_86 : decode cX5_passDusk 86 = .ok (.iload_n 2, 1) := by decide +kernel
theorem dX5_passDusk_87 : decode cX5_passDusk 87 = .ok (.aaload, 1) := by decide +kernel
theorem dX5_passDusk_88 : decode cX5_passDusk 88 = .ok (.iload_n 1, 1) := by decide +kernel
theorem dX5_passDusk_89 : decode cX5_passDusk 89 = .ok (.aload_n 0, 1) := by decide +kernel
theorem dX5_passDusk_90 : decode cX5_passDusk 90 = .ok (.getfield 36, 3) := by decide +kernel
theorem dX5_passDusk_93 : decode cX5_passDusk 93 = .ok (.iload_n 2, 1) := by decide +kernel
theorem dX5_passDusk_94 : decode cX5_passDusk 94 = .ok (.baload, 1) := by decide +kernel
theorem dX5_passDusk_95 : decode cX5_passDusk 95 = .ok (.ifCond .eq 13, 3) := by decide +kernel
theorem dX5_passDusk_98 : decode cX5_passDusk 98 = .ok (.iconst 0, 1) := by decide +kernel
theorem dX5_passDusk_99 : decode cX5_passDusk 99 = .ok (.iload_n 3, 1) := by decide +kernel
theorem dX5_passDusk_100 : decode cX5_passDusk 100 = .ok (.iconst 1, 1) := by decide +kernel
theorem dX5_passDusk_101 : decode cX5_passDusk 101 = .ok (.isub, 1) := by decide +kernel
theorem dX5_passDusk_102 : decode cX5_passDusk 102 = .ok (.invokestatic 97, 3) := by decide +kernel
theorem dX5_passDusk_105 : decode cX5_passDusk 105 = .ok (.goto 11, 3) := by decide +kernel
theorem dX5_passDusk_108 : decode cX5_passDusk 108 = .ok (.bipush 9, 2) := by decide +kernel
theorem dX5_passDusk_110 : decode cX5_passDusk 110 = .ok (.iconst 2, 1) := by decide +kernel
theorem dX5_passDusk_111 : decode cX5_passDusk 111 = .ok (.iload_n 3, 1) := by decide +kernel
theorem dX5_passDusk_112 : decode cX5_passDusk 112 = .ok (.imul, 1) := by decide +kernel
theorem dX5_passDusk_113 : decode cX5_passDusk 113 = .ok (.invokestatic 102, 3) := by decide +kernel
theorem dX5_passDusk_116 : decode cX5_passDusk 116 = .ok (.iastore, 1) := by decide +kernel
theorem dX5_passDusk_117 : decode cX5_passDusk 117 = .ok (.iinc 1 1, 3) := by decide +kernel
theorem dX5_passDusk_120 : decode cX5_passDusk 120 = .ok (.goto (-71), 3) := by decide +kernel
theorem dX5_passDusk_123 : decode cX5_passDusk 123 = .ok (.return_, 1) := by decide +kernel
set_option maxRecDepth 20000 in
theorem ggX5_payTillLighterOfNone_X5_lighterAmong : GoodIn wsX5_payTillLighterOfNone wsX5_lighterAmong := goodIn_r _ [7, 1, 8, 9, 10, 6, 11, 12, 13, 2, 14, 15, 16, 17, 18, 19, 20, 21, 22, 23, 24, 25, 26, 27, 28, 29, 30, 31, 32, 33, 34, 35, 36] (by decide +kernel) (by decide +kernel)
set_option maxRecDepth 20000 in
theorem gX5_payTillLighterOfNone_X5_lighterAmong : GoodIn wsX5_payTillLighterOfNone (wsV RX5 82 RX5 yX5_lighterAmong wsX5_lighterAmong) := goodIn_app (goodIn_of _ (by decide +kernel)) ggX5_payTillLighterOfNone_X5_lighterAmong
theorem dX5_payTillLighterOfNone_0 : decode cX5_payTillLighterOfNone 0 = .ok (.iconst 0, 1) := by decide +kernel
theorem dX5_payTillLighterOfNone_1 : decode cX5_payTillLighterOfNone 1 = .ok (.istore_n 2, 1) := by decide +kernel
theorem dX5_payTillLighterOfNone_2 : decode cX5_payTillLighterOfNone 2 = .ok (.iconst 0, 1) := by decide +kernel
theorem dX5_payTillLighterOfNone_3 : decode cX5_payTillLighterOfNone 3 = .ok (.istore_n 3, 1) := by decide +kernel
theorem dX5_payTillLighterOfNone_4 : decode cX5_payTillLighterOfNone 4 = .ok (.iload_n 3, 1) := by decide +kernel
theorem dX5_payTillLighterOfNone_5 : decode cX5_payTillLighterOfNone 5 = .ok (.aload_n 0, 1) := by decide +kernel
theorem dX5_payTillLighterOfNone_6 : decode cX5_payTillLighterOfNone 6 = .ok (.getfield 40, 3) := by decide +kernel
theorem dX5_payTillLighterOfNone_9 : decode cX5_payTillLighterOfNone 9 = .ok (.if_icmp .ge 55, 3) := by decide +kernel
theorem dX5_payTillLighterOfNone_12 : decode cX5_payTillLighterOfNone 12 = .ok (.aload_n 0, 1) := by decide +kernel
theorem dX5_payTillLighterOfNone_13 : decode cX5_payTillLighterOfNone 13 = .ok (.getfield 30, 3) := by decide +kernel
theorem dX5_payTillLighterOfNone_16 : decode cX5_payTillLighterOfNone 16 = .ok (.iload_n 1, 1) := by decide +kernel
theorem dX5_payTillLighterOfNone_17 : decode cX5_payTillLighterOfNone 17 = .ok (.aaload, 1) := by decide +kernel
theorem dX5_payTillLighterOfNone_18 : decode cX5_payTillLighterOfNone 18 = .ok (.iload_n 3, 1) := by decide +kernel
theorem dX5_payTillLighterOfNone_19 : decode cX5_payTillLighterOfNone 19 = .ok (.iaload, 1) := by decide +kernel
theorem dX5_payTillLighterOfNone_20 : decode cX5_payTillLighterOfNone 20 = .ok (.istore 4, 2) := by decide +kernel
theorem dX5_payTillLighterOfNone_22 : decode cX5_payTillLighterOfNone 22 = .ok (.iload 4, 2) := by decide +kernel
theorem dX5_payTillLighterOfNone_24 : decode cX5_payTillLighterOfNone 24 = .ok (.ifCond .le 34, 3) := by decide +kernel
theorem dX5_payTillLighterOfNone_27 : decode cX5_payTillLighterOfNone 27 = .ok (.aload_n 0, 1) := by decide +kernel
theorem dX5_payTillLighterOfNone_28 : decode cX5_payTillLighterOfNone 28 = .ok (.iload_n 3, 1) := by decide +kernel
theorem dX5_payTillLighterOfNone_29 : decode cX5_payTillLighterOfNone 29 = .ok (.iconst 0, 1) := by decide +kernel
theorem dX5_payTillLighterOfNone_30 : decode cX5_payTillLighterOfNone 30 = .ok (.invokevirtual 82, 3) := by decide +kernel
theorem dX5_payTillLighterOfNone_33 : decode cX5_payTillLighterOfNone 33 = .ok (.iload_n 1, 1) := by decide +kernel
theorem dX5_payTillLighterOfNone_34 : decode cX5_payTillLighterOfNone 34 = .ok (.if_icmp .ne 24, 3) := by decide +kernel
theorem dX5_payTillLighterOfNone_37 : decode cX5_payTillLighterOfNone 37 = .ok (.aload_n 0, 1) := by decide +kernel
theorem dX5_payTillLighterOfNone_38 : decode cX5_payTillLighterOfNone 38 = .ok (.getfield 30, 3) := by decide +kernel
theorem dX5_payTillLighterOfNone_41 : decode cX5_payTillLighterOfNone 41 = .ok (.iload_n 1, 1) := by decide +kernel
theorem dX5_payTillLighterOfNone_42 : decode cX5_payTillLighterOfNone 42 = .ok (.aaload, 1) := by decide +kernel
theorem dX5_payTillLighterOfNone_43 : decode cX5_payTillLighterOfNone 43 = .ok (.iload_n 3, 1) := by decide +kernel
theorem dX5_payTillLighterOfNone_44 : decode cX5_payTillLighterOfNone 44 = .ok (.iload 4, 2) := by decide +kernel
theorem dX5_payTillLighterOfNone_46 : decode cX5_payTillLighterOfNone 46 = .ok (.iconst 1, 1) := by decide +kernel
theorem dX5_payTillLighterOfNone_47 : decode cX5_payTillLighterOfNone 47 = .ok (.isub, 1) := by decide +kernel
theorem dX5_payTillLighterOfNone_48 : decode cX5_payTillLighterOfNone 48 = .ok (.iastore, 1) := by decide +kernel
theorem dX5_payTillLighterOfNone_49 : decode cX5_payTillLighterOfNone 49 = .ok (.iinc 2 1, 3) := by decide +kernel
theorem dX5_payTillLighterOfNone_52 : decode cX5_payTillLighterOfNone 52 = .ok (.iinc 4 (-1), 3) := by decide +kernel
theorem dX5_payTillLighterOfNone_55 : decode cX5_payTillLighterOfNone 55 = .ok (.goto (-33), 3) := by decide +kernel
theorem dX5_payTillLighterOfNone_58 : decode cX5_payTillLighterOfNone 58 = .ok (.iinc 3 1, 3) := by decide +kernel
theorem dX5_payTillLighterOfNone_61 : decode cX5_payTillLighterOfNone 61 = .ok (.goto (-57), 3) := by decide +kernel
theorem dX5_payTillLighterOfNone_64 : decode cX5_payTillLighterOfNone 64 = .ok (.iload_n 2, 1) := by decide +kernel
theorem dX5_payTillLighterOfNone_65 : decode cX5_payTillLighterOfNone 65 = .ok (.ireturn, 1) := by decide +kernel
set_option maxRecDepth 20000 in
theorem ggX5_findLighters_X5_lighterAmong : GoodIn wsX5_findLighters wsX5_lighterAmong := goodIn_r _ [7, 1, 8, 9, 10, 6, 11, 12, 13, 14, 15, 16, 17, 18, 19, 20, 21, 22, 23, 24, 25, 26, 27, 28, 29, 30, 31, 32, 33, 34, 35, 36, 37] (by decide +kernel) (by decide +kernel)
set_option maxRecDepth 20000 in
theorem gX5_findLighters_X5_lighterAmong : GoodIn wsX5_findLighters (wsV RX5 82 RX5 yX5_lighterAmong wsX5_lighterAmong) := goodIn_app (goodIn_of _ (by decide +kernel)) ggX5_findLighters_X5_lighterAmong
theorem dX5_findLighters_0 : decode cX5_findLighters 0 = .ok (.iconst 0, 1) := by decide +kernel
theorem dX5_findLighters_1 : decode cX5_findLighters 1 = .ok (.istore_n 1, 1) := by decide +kernel
theorem dX5_findLighters_2 : decode cX5_findLighters 2 = .ok (.iload_n 1, 1) := by decide +kernel
theorem dX5_findLighters_3 : decode cX5_findLighters 3 = .ok (.aload_n 0, 1) := by decide +kernel
theorem dX5_findLighters_4 : decode cX5_findLighters 4 = .ok (.getfield 40, 3) := by decide +kernel
theorem dX5_findLighters_7 : decode cX5_findLighters 7 = .ok (.if_icmp .ge 21, 3) := by decide +kernel
theorem dX5_findLighters_10 : decode cX5_findLighters 10 = .ok (.aload_n 0, 1) := by decide +kernel
theorem dX5_findLighters_11 : decode cX5_findLighters 11 = .ok (.getfield 33, 3) := by decide +kernel
theorem dX5_findLighters_14 : decode cX5_findLighters 14 = .ok (.iload_n 1, 1) := by decide +kernel
theorem dX5_findLighters_15 : decode cX5_findLighters 15 = .ok (.aload_n 0, 1) := by decide +kernel
theorem dX5_findLighters_16 : decode cX5_findLighters 16 = .ok (.iload_n 1, 1) := by decide +kernel
theorem dX5_findLighters_17 : decode cX5_findLighters 17 = .ok (.iconst 0, 1) := by decide +kernel
theorem dX5_findLighters_18 : decode cX5_findLighters 18 = .ok (.invokevirtual 82, 3) := by decide +kernel
theorem dX5_findLighters_21 : decode cX5_findLighters 21 = .ok (.iastore, 1) := by decide +kernel
theorem dX5_findLighters_22 : decode cX5_findLighters 22 = .ok (.iinc 1 1, 3) := by decide +kernel
theorem dX5_findLighters_25 : decode cX5_findLighters 25 = .ok (.goto (-23), 3) := by decide +kernel
theorem dX5_findLighters_28 : decode cX5_findLighters 28 = .ok (.return_, 1) := by decide +kernel
theorem dX5_roundByLighters_0 : decode cX5_roundByLighters 0 = .ok (.iconst 0, 1) := by decide +kernel
theorem dX5_roundByLighters_1 : decode cX5_roundByLighters 1 = .ok (.istore_n 2, 1) := by decide +kernel
theorem dX5_roundByLighters_2 : decode cX5_roundByLighters 2 = .ok (.iconst 0, 1) := by decide +kernel
theorem dX5_roundByLighters_3 : decode cX5_roundByLighters 3 = .ok (.istore_n 3, 1) := by decide +kernel
theorem dX5_roundByLighters_4 : decode cX5_roundByLighters 4 = .ok (.iload_n 3, 1) := by decide +kernel
theorem dX5_roundByLighters_5 : decode cX5_roundByLighters 5 = .ok (.aload_n 0, 1) := by decide +kernel
theorem dX5_roundByLighters_6 : decode cX5_roundByLighters 6 = .ok (.getfield 40, 3) := by decide +kernel
theorem dX5_roundByLighters_9 : decode cX5_roundByLighters 9 = .ok (.if_icmp .ge 25, 3) := by decide +kernel
theorem dX5_roundByLighters_12 : decode cX5_roundByLighters 12 = .ok (.aload_n 0, 1) := by decide +kernel
theorem dX5_roundByLighters_13 : decode cX5_roundByLighters 13 = .ok (.getfield 33, 3) := by decide +kernel
theorem dX5_roundByLighters_16 : decode cX5_roundByLighters 16 = .ok (.iload_n 3, 1) := by decide +kernel
theorem dX5_roundByLighters_17 : decode cX5_roundByLighters 17 = .ok (.iaload, 1) := by decide +kernel
theorem dX5_roundByLighters_18 : decode cX5_roundByLighters 18 = .ok (.iload_n 1, 1) := by decide +kernel
theorem dX5_roundByLighters_19 : decode cX5_roundByLighters 19 = .ok (.if_icmp .ne 9, 3) := by decide +kernel
theorem dX5_roundByLighters_22 : decode cX5_roundByLighters 22 = .ok (.iload_n 2, 1) := by decide +kernel
theorem dX5_roundByLighters_23 : decode cX5_roundByLighters 23 = .ok (.iconst 1, 1) := by decide +kernel
theorem dX5_roundByLighters_24 : decode cX5_roundByLighters 24 = .ok (.iload_n 3, 1) := by decide +kernel
theorem dX5_roundByLighters_25 : decode cX5_roundByLighters 25 = .ok (.ishl, 1) := by decide +kernel
theorem dX5_roundByLighters_26 : decode cX5_roundByLighters 26 = .ok (.ior, 1) := by decide +kernel
theorem dX5_roundByLighters_27 : decode cX5_roundByLighters 27 = .ok (.istore_n 2, 1) := by decide +kernel
theorem dX5_roundByLighters_28 : decode cX5_roundByLighters 28 = .ok (.iinc 3 1, 3) := by decide +kernel
theorem dX5_roundByLighters_31 : decode cX5_roundByLighters 31 = .ok (.goto (-27), 3) := by decide +kernel
theorem dX5_roundByLighters_34 : decode cX5_roundByLighters 34 = .ok (.iload_n 2, 1) := by decide +kernel
theorem dX5_roundByLighters_35 : decode cX5_roundByLighters 35 = .ok (.ireturn, 1) := by decide +kernel
theorem dX5_fewestSteps_0 : decode cX5_fewestSteps 0 = .ok (.iconst 0, 1) := by decide +kernel
theorem dX5_fewestSteps_1 : decode cX5_fewestSteps 1 = .ok (.istore_n 2, 1) := by decide +kernel
theorem dX5_fewestSteps_2 : decode cX5_fewestSteps 2 = .ok (.iconst 0, 1) := by decide +kernel
theorem dX5_fewestSteps_3 : decode cX5_fewestSteps 3 = .ok (.istore_n 3, 1) := by decide +kernel
theorem dX5_fewestSteps_4 : decode cX5_fewestSteps 4 = .ok (.iconst 0, 1) := by decide +kernel
theorem dX5_fewestSteps_5 : decode cX5_fewestSteps 5 = .ok (.istore 4, 2) := by decide +kernel
theorem dX5_fewestSteps_7 : decode cX5_fewestSteps 7 = .ok (.iload 4, 2) := by decide +kernel
theorem dX5_fewestSteps_9 : decode cX5_fewestSteps 9 = .ok (.bipush 6, 2) := by decide +kernel
theorem dX5_fewestSteps_11 : decode cX5_fewestSteps 11 = .ok (.if_icmp .ge 39, 3) := by decide +kernel
theorem dX5_fewestSteps_14 : decode cX5_fewestSteps 14 = .ok (.iload_n 1, 1) := by decide +kernel
theorem dX5_fewestSteps_15 : decode cX5_fewestSteps 15 = .ok (.iload 4, 2) := by decide +kernel
theorem dX5_fewestSteps_17 : decode cX5_fewestSteps 17 = .ok (.ishr, 1) := by decide +kernel
theorem dX5_fewestSteps_18 : decode cX5_fewestSteps 18 = .ok (.iconst 1, 1) := by decide +kernel
theorem dX5_fewestSteps_19 : decode cX5_fewestSteps 19 = .ok (.iand, 1) := by decide +kernel
theorem dX5_fewestSteps_20 : decode cX5_fewestSteps 20 = .ok (.ifCond .ne 6, 3) := by decide +kernel
theorem dX5_fewestSteps_23 : decode cX5_fewestSteps 23 = .ok (.goto 21, 3) := by decide +kernel
theorem dX5_fewestSteps_26 : decode cX5_fewestSteps 26 = .ok (.iload_n 2, 1) := by decide +kernel
theorem dX5_fewestSteps_27 : decode cX5_fewestSteps 27 = .ok (.iload_n 0, 1) := by decide +kernel
theorem dX5_fewestSteps_28 : decode cX5_fewestSteps 28 = .ok (.iload 4, 2) := by decide +kernel
theorem dX5_fewestSteps_30 : decode cX5_fewestSteps 30 = .ok (.isub, 1) := by decide +kernel
theorem dX5_fewestSteps_31 : decode cX5_fewestSteps 31 = .ok (.invokestatic 97, 3) := by decide +kernel
theorem dX5_fewestSteps_34 : decode cX5_fewestSteps 34 = .ok (.istore_n 2, 1) := by decide +kernel
theorem dX5_fewestSteps_35 : decode cX5_fewestSteps 35 = .ok (.iload_n 3, 1) := by decide +kernel
theorem dX5_fewestSteps_36 : decode cX5_fewestSteps 36 = .ok (.iload 4, 2) := by decide +kernel
theorem dX5_fewestSteps_38 : decode cX5_fewestSteps 38 = .ok (.iload_n 0, 1) := by decide +kernel
theorem dX5_fewestSteps_39 : decode cX5_fewestSteps 39 = .ok (.isub, 1) := by decide +kernel
theorem dX5_fewestSteps_40 : decode cX5_fewestSteps 40 = .ok (.invokestatic 97, 3) := by decide +kernel
theorem dX5_fewestSteps_43 : decode cX5_fewestSteps 43 = .ok (.istore_n 3, 1) := by decide +kernel
theorem dX5_fewestSteps_44 : decode cX5_fewestSteps 44 = .ok (.iinc 4 1, 3) := by decide +kernel
theorem dX5_fewestSteps_47 : decode cX5_fewestSteps 47 = .ok (.goto (-40), 3) := by decide +kernel
theorem dX5_fewestSteps_50 : decode cX5_fewestSteps 50 = .ok (.iload_n 2, 1) := by decide +kernel
theorem dX5_fewestSteps_51 : decode cX5_fewestSteps 51 = .ok (.iload_n 3, 1) := by decide +kernel
theorem dX5_fewestSteps_52 : decode cX5_fewestSteps 52 = .ok (.iadd, 1) := by decide +kernel
theorem dX5_fewestSteps_53 : decode cX5_fewestSteps 53 = .ok (.iload_n 2, 1) := by decide +kernel
theorem dX5_fewestSteps_54 : decode cX5_fewestSteps 54 = .ok (.iload_n 3, 1) := by decide +kernel
theorem dX5_fewestSteps_55 : decode cX5_fewestSteps 55 = .ok (.invokestatic 102, 3) := by decide +kernel
theorem dX5_fewestSteps_58 : decode cX5_fewestSteps 58 = .ok (.iadd, 1) := by decide +kernel
theorem dX5_fewestSteps_59 : decode cX5_fewestSteps 59 = .ok (.ireturn, 1) := by decide +kernel
theorem dX6_init_0 : decode cX6_init 0 = .ok (.aload_n 0, 1) := by decide +kernel
theorem dX6_init_1 : decode cX6_init 1 = .ok (.invokespecial 1, 3) := by decide +kernel
theorem dX6_init_4 : decode cX6_init 4 = .ok (.return_, 1) := by decide +kernel
theorem dX6_leave_0 : decode cX6_leave 0 = .ok (.aload_n 0, 1) := by decide +kernel
theorem dX6_leave_1 : decode cX6_leave 1 = .ok (.bipush 31, 2) := by decide +kernel
theorem dX6_leave_3 : decode cX6_leave 3 = .ok (.aload_n 0, 1) := by decide +kernel
theorem dX6_leave_4 : decode cX6_leave 4 = .ok (.getfield 7, 3) := by decide +kernel
theorem dX6_leave_7 : decode cX6_leave 7 = .ok (.imul, 1) := by decide +kernel
theorem dX6_leave_8 : decode cX6_leave 8 = .ok (.iload_n 1, 1) := by decide +kernel
theorem dX6_leave_9 : decode cX6_leave 9 = .ok (.iadd, 1) := by decide +kernel
theorem dX6_leave_10 : decode cX6_leave 10 = .ok (.putfield 7, 3) := by decide +kernel
theorem dX6_leave_13 : decode cX6_leave 13 = .ok (.return_, 1) := by decide +kernel
end
section
set_option maxRecDepth 20000 in
theorem ggX7_init_X5_init : GoodIn wsX7_init wsX5_init := goodIn_r _ [24, 25, 2, 3, 26, 27, 28, 29, 30, 31, 32, 33, 34, 35, 36, 37, 38, 39, 40, 41, 42, 43, 44, 45, 46, 47, 48, 49, 64, 65, 66, 67, 68, 69, 70] (by decide +kernel) (by decide +kernel)
set_option maxRecDepth 20000 in
theorem gX7_init_X5_init_n11 : GoodIn wsX7_init (wsX5_init) := ggX7_init_X5_init
set_option maxRecDepth 20000 in
theorem ggX7_init_X6_init : GoodIn wsX7_init wsX6_init := goodIn_r _ [51, 52, 2, 3] (by decide +kernel) (by decide +kernel)
set_option maxRecDepth 20000 in
theorem gX7_init_X6_init_n26 : GoodIn wsX7_init (wsX6_init) := ggX7_init_X6_init
set_option maxRecDepth 20000 in
theorem ggX7_init_X2_init : GoodIn wsX7_init wsX2_init := goodIn_r _ [54, 55, 2, 3, 36, 56, 57, 58, 79, 80, 81, 82] (by decide +kernel) (by decide +kernel)
set_option maxRecDepth 20000 in
theorem gX7_init_X2_init_n33 : GoodIn wsX7_init (wsX2_init) := ggX7_init_X2_init
set_option maxRecDepth 20000 in
theorem ggX7_init_X4_init : GoodIn wsX7_init wsX4_init := goodIn_r _ [60, 61, 2, 3, 36, 62, 63, 83, 84, 85] (by decide +kernel) (by decide +kernel)
set_option maxRecDepth 20000 in
theorem gX7_init_X4_init_n40 : GoodIn wsX7_init (wsX4_init) := ggX7_init_X4_init
theorem dX7_init_0 : decode cX7_init 0 = .ok (.aload_n 0, 1) := by decide +kernel
theorem dX7_init_1 : decode cX7_init 1 = .ok (.invokespecial 3, 3) := by decide +kernel
theorem dX7_init_4 : decode cX7_init 4 = .ok (.aload_n 0, 1) := by decide +kernel
theorem dX7_init_5 : decode cX7_init 5 = .ok (.new 9, 3) := by decide +kernel
theorem dX7_init_8 : decode cX7_init 8 = .ok (.dup, 1) := by decide +kernel
theorem dX7_init_9 : decode cX7_init 9 = .ok (.invokespecial 11, 3) := by decide +kernel
theorem dX7_init_12 : decode cX7_init 12 = .ok (.putfield 12, 3) := by decide +kernel
theorem dX7_init_15 : decode cX7_init 15 = .ok (.aload_n 0, 1) := by decide +kernel
theorem dX7_init_16 : decode cX7_init 16 = .ok (.new 9, 3) := by decide +kernel
theorem dX7_init_19 : decode cX7_init 19 = .ok (.dup, 1) := by decide +kernel
theorem dX7_init_20 : decode cX7_init 20 = .ok (.invokespecial 11, 3) := by decide +kernel
theorem dX7_init_23 : decode cX7_init 23 = .ok (.putfield 18, 3) := by decide +kernel
theorem dX7_init_26 : decode cX7_init 26 = .ok (.aload_n 0, 1) := by decide +kernel
theorem dX7_init_27 : decode cX7_init 27 = .ok (.new 9, 3) := by decide +kernel
theorem dX7_init_30 : decode cX7_init 30 = .ok (.dup, 1) := by decide +kernel
theorem dX7_init_31 : decode cX7_init 31 = .ok (.invokespecial 11, 3) := by decide +kernel
theorem dX7_init_34 : decode cX7_init 34 = .ok (.putfield 21, 3) := by decide +kernel
theorem dX7_init_37 : decode cX7_init 37 = .ok (.aload_n 0, 1) := by decide +kernel
theorem dX7_init_38 : decode cX7_init 38 = .ok (.new 24, 3) := by decide +kernel
theorem dX7_init_41 : decode cX7_init 41 = .ok (.dup, 1) := by decide +kernel
theorem dX7_init_42 : decode cX7_init 42 = .ok (.invokespecial 26, 3) := by decide +kernel
theorem dX7_init_45 : decode cX7_init 45 = .ok (.putfield 27, 3) := by decide +kernel
theorem dX7_init_48 : decode cX7_init 48 = .ok (.aload_n 0, 1) := by decide +kernel
theorem dX7_init_49 : decode cX7_init 49 = .ok (.new 31, 3) := by decide +kernel
theorem dX7_init_52 : decode cX7_init 52 = .ok (.dup, 1) := by decide +kernel
theorem dX7_init_53 : decode cX7_init 53 = .ok (.invokespecial 33, 3) := by decide +kernel
theorem dX7_init_56 : decode cX7_init 56 = .ok (.putfield 34, 3) := by decide +kernel
theorem dX7_init_59 : decode cX7_init 59 = .ok (.aload_n 0, 1) := by decide +kernel
theorem dX7_init_60 : decode cX7_init 60 = .ok (.iconst 4, 1) := by decide +kernel
theorem dX7_init_61 : decode cX7_init 61 = .ok (.anewarray 38, 3) := by decide +kernel
theorem dX7_init_64 : decode cX7_init 64 = .ok (.dup, 1) := by decide +kernel
theorem dX7_init_65 : decode cX7_init 65 = .ok (.iconst 0, 1) := by decide +kernel
theorem dX7_init_66 : decode cX7_init 66 = .ok (.new 38, 3) := by decide +kernel
theorem dX7_init_69 : decode cX7_init 69 = .ok (.dup, 1) := by decide +kernel
theorem dX7_init_70 : decode cX7_init 70 = .ok (.invokespecial 40, 3) := by decide +kernel
theorem dX7_init_73 : decode cX7_init 73 = .ok (.aastore, 1) := by decide +kernel
theorem dX7_init_74 : decode cX7_init 74 = .ok (.dup, 1) := by decide +kernel
theorem dX7_init_75 : decode cX7_init 75 = .ok (.iconst 1, 1) := by decide +kernel
theorem dX7_init_76 : decode cX7_init 76 = .ok (.new 38, 3) := by decide +kernel
theorem dX7_init_79 : decode cX7_init 79 = .ok (.dup, 1) := by decide +kernel
theorem dX7_init_80 : decode cX7_init 80 = .ok (.invokespecial 40, 3) := by decide +kernel
theorem dX7_init_83 : decode cX7_init 83 = .ok (.aastore, 1) := by decide +kernel
theorem dX7_init_84 : decode cX7_init 84 = .ok (.dup, 1) := by decide +kernel
theorem dX7_init_85 : decode cX7_init 85 = .ok (.iconst 2, 1) := by decide +kernel
theorem dX7_init_86 : decode cX7_init 86 = .ok (.new 38, 3) := by decide +kernel
theorem dX7_init_89 : decode cX7_init 89 = .ok (.dup, 1) := by decide +kernel
theorem dX7_init_90 : decode cX7_init 90 = .ok (.invokespecial 40, 3) := by decide +kernel
theorem dX7_init_93 : decode cX7_init 93 = .ok (.aastore, 1) := by decide +kernel
theorem dX7_init_94 : decode cX7_init 94 = .ok (.dup, 1) := by decide +kernel
theorem dX7_init_95 : decode cX7_init 95 = .ok (.iconst 3, 1) := by decide +kernel
theorem dX7_init_96 : decode cX7_init 96 = .ok (.new 38, 3) := by decide +kernel
theorem dX7_init_99 : decode cX7_init 99 = .ok (.dup, 1) := by decide +kernel
theorem dX7_init_100 : decode cX7_init 100 = .ok (.invokespecial 40, 3) := by decide +kernel
theorem dX7_init_103 : decode cX7_init 103 = .ok (.aastore, 1) := by decide +kernel
theorem dX7_init_104 : decode cX7_init 104 = .ok (.putfield 41, 3) := by decide +kernel
theorem dX7_init_107 : decode cX7_init 107 = .ok (.aload_n 0, 1) := by decide +kernel
theorem dX7_init_108 : decode cX7_init 108 = .ok (.iconst 0, 1) := by decide +kernel
theorem dX7_init_109 : decode cX7_init 109 = .ok (.putfield 45, 3) := by decide +kernel
theorem dX7_init_112 : decode cX7_init 112 = .ok (.return_, 1) := by decide +kernel
set_option maxRecDepth 20000 in
theorem ggX7_town_X7_isSheet : GoodIn wsX7_town wsX7_isSheet := goodIn_r _ [9] (by decide +kernel) (by decide +kernel)
set_option maxRecDepth 20000 in
theorem gX7_town_X7_isSheet : GoodIn wsX7_town (va_wsS RX7 49 yX7_isSheet wsX7_isSheet) := goodIn_app (goodIn_of _ (by decide +kernel)) ggX7_town_X7_isSheet
set_option maxRecDepth 20000 in
theorem ggX7_town_X7_isWithin : GoodIn wsX7_town wsX7_isWithin := goodIn_r _ [12] (by decide +kernel) (by decide +kernel)
set_option maxRecDepth 20000 in
theorem gX7_town_X7_isWithin : GoodIn wsX7_town (va_wsS RX7 53 yX7_isWithin wsX7_isWithin) := goodIn_app (goodIn_of _ (by decide +kernel)) ggX7_town_X7_isWithin
set_option maxRecDepth 20000 in
theorem ggX7_town_X4_isOfLane : GoodIn wsX7_town wsX4_isOfLane := goodIn_r _ [17, 18, 19, 20, 21, 16, 22, 23, 99, 100, 101] (by decide +kernel) (by decide +kernel)
set_option maxRecDepth 20000 in
theorem gX7_town_X4_isOfLane : GoodIn wsX7_town (wsV RX7 57 RX4 yX4_isOfLane wsX4_isOfLane) := goodIn_app (goodIn_of _ (by decide +kernel)) ggX7_town_X4_isOfLane
set_option maxRecDepth 20000 in
theorem ggX7_town_X7_faulted : GoodIn wsX7_town wsX7_faulted := goodIn_r _ [27, 1, 85, 86, 87, 88, 89, 90, 91] (by decide +kernel) (by decide +kernel)
set_option maxRecDepth 20000 in
theorem gX7_town_X7_faulted : GoodIn wsX7_town (wsV RX7 60 RX7 yX7_faulted wsX7_faulted) := goodIn_app (goodIn_of _ (by decide +kernel)) ggX7_town_X7_faulted
set_option maxRecDepth 20000 in
theorem ggX7_town_X4_hasNothing : GoodIn wsX7_town wsX4_hasNothing := goodIn_r _ [22, 23, 99, 100, 101] (by decide +kernel) (by decide +kernel)
set_option maxRecDepth 20000 in
theorem gX7_town_X4_hasNothing : GoodIn wsX7_town (wsV RX7 64 RX4 yX4_hasNothing wsX4_hasNothing) := goodIn_app (goodIn_of _ (by decide +kernel)) ggX7_town_X4_hasNothing
set_option maxRecDepth 20000 in
theorem ggX7_town_X4_hasCells : GoodIn wsX7_town wsX4_hasCells := goodIn_r _ [32, 23, 99, 100, 101] (by decide +kernel) (by decide +kernel)
set_option maxRecDepth 20000 in
theorem gX7_town_X4_hasCells : GoodIn wsX7_town (wsV RX7 68 RX4 yX4_hasCells wsX4_hasCells) := goodIn_app (goodIn_of _ (by decide +kernel)) ggX7_town_X4_hasCells
set_option maxRecDepth 20000 in
theorem ggX7_town_X5_readText : GoodIn wsX7_town wsX5_readText := goodIn_r _ [37, 38, 39, 40, 41, 16, 42, 43, 44, 45, 46, 47, 23, 48, 49, 50, 36, 51, 52, 53, 54, 55, 56, 57, 58, 59, 60, 61, 62, 63, 64, 65, 66, 67, 68, 69, 70, 71, 72, 73, 74, 92, 93, 94, 95, 96, 97, 98, 99, 100, 101] (by decide +kernel) (by decide +kernel)
set_option maxRecDepth 20000 in
theorem gX7_town_X5_readText : GoodIn wsX7_town (wsV RX7 71 RX5 yX5_readText wsX5_readText) := goodIn_app (goodIn_of _ (by decide +kernel)) ggX7_town_X5_readText
set_option maxRecDepth 20000 in
theorem ggX7_town_X5_becomeLike : GoodIn wsX7_town wsX5_becomeLike := goodIn_r _ [78, 38, 60, 69, 74, 92, 93, 94, 95, 96, 97, 98] (by decide +kernel) (by decide +kernel)
set_option maxRecDepth 20000 in
theorem gX7_town_X5_becomeLike : GoodIn wsX7_town (wsV RX7 75 RX5 yX5_becomeLike wsX5_becomeLike) := goodIn_app (goodIn_of _ (by decide +kernel)) ggX7_town_X5_becomeLike
set_option maxRecDepth 20000 in
theorem ggX7_town_X2_keepFirst : GoodIn wsX7_town wsX2_keepFirst := goodIn_r _ [83, 84, 102, 103, 104, 105] (by decide +kernel) (by decide +kernel)
set_option maxRecDepth 20000 in
theorem gX7_town_X2_keepFirst : GoodIn wsX7_town (wsV RX7 79 RX2 yX2_keepFirst wsX2_keepFirst) := goodIn_app (goodIn_of _ (by decide +kernel)) ggX7_town_X2_keepFirst
theorem dX7_town_0 : decode cX7_town 0 = .ok (.aload_n 0, 1) := by decide +kernel
theorem dX7_town_1 : decode cX7_town 1 = .ok (.iconst 0, 1) := by decide +kernel
theorem dX7_town_2 : decode cX7_town 2 = .ok (.putfield 45, 3) := by decide +kernel
theorem dX7_town_5 : decode cX7_town 5 = .ok (.iload_n 1, 1) := by decide +kernel
theorem dX7_town_6 : decode cX7_town 6 = .ok (.invokestatic 49, 3) := by decide +kernel
theorem dX7_town_9 : decode cX7_town 9 = .ok (.ifCond .ne 5, 3) := by decide +kernel
theorem dX7_town_12 : decode cX7_town 12 = .ok (.iconst (-1), 1) := by decide +kernel
theorem dX7_town_13 : decode cX7_town 13 = .ok (.ireturn, 1) := by decide +kernel
theorem dX7_town_14 : decode cX7_town 14 = .ok (.iload_n 2, 1) := by decide +kernel
theorem dX7_town_15 : decode cX7_town 15 = .ok (.iconst 2, 1) := by decide +kernel
theorem dX7_town_16 : decode cX7_town 16 = .ok (.invokestatic 53, 3) := by decide +kernel
theorem dX7_town_19 : decode cX7_town 19 = .ok (.ifCond .ne 6, 3) := by decide +kernel
theorem dX7_town_22 : decode cX7_town 22 = .ok (.bipush (-2), 2) := by decide +kernel
theorem dX7_town_24 : decode cX7_town 24 = .ok (.ireturn, 1) := by decide +kernel
theorem dX7_town_25 : decode cX7_town 25 = .ok (.aload_n 0, 1) := by decide +kernel
theorem dX7_town_26 : decode cX7_town 26 = .ok (.getfield 41, 3) := by decide +kernel
theorem dX7_town_29 : decode cX7_town 29 = .ok (.iload_n 1, 1) := by decide +kernel
theorem dX7_town_30 : decode cX7_town 30 = .ok (.aaload, 1) := by decide +kernel
theorem dX7_town_31 : decode cX7_town 31 = .ok (.astore 5, 2) := by decide +kernel
theorem dX7_town_33 : decode cX7_town 33 = .ok (.aload 5, 2) := by decide +kernel
theorem dX7_town_35 : decode cX7_town 35 = .ok (.iload_n 2, 1) := by decide +kernel
theorem dX7_town_36 : decode cX7_town 36 = .ok (.invokevirtual 57, 3) := by decide +kernel
theorem dX7_town_39 : decode cX7_town 39 = .ok (.ifCond .ne 9, 3) := by decide +kernel
theorem dX7_town_42 : decode cX7_town 42 = .ok (.aload_n 0, 1) := by decide +kernel
theorem dX7_town_43 : decode cX7_town 43 = .ok (.iconst 2, 1) := by decide +kernel
theorem dX7_town_44 : decode cX7_town 44 = .ok (.invokevirtual 60, 3) := by decide +kernel
theorem dX7_town_47 : decode cX7_town 47 = .ok (.ireturn, 1) := by decide +kernel
theorem dX7_town_48 : decode cX7_town 48 = .ok (.aload 5, 2) := by decide +kernel
theorem dX7_town_50 : decode cX7_town 50 = .ok (.invokevirtual 64, 3) := by decide +kernel
theorem dX7_town_53 : decode cX7_town 53 = .ok (.ifCond .eq 9, 3) := by decide +kernel
theorem dX7_town_56 : decode cX7_town 56 = .ok (.aload_n 0, 1) := by decide +kernel
theorem dX7_town_57 : decode cX7_town 57 = .ok (.iconst 1, 1) := by decide +kernel
theorem dX7_town_58 : decode cX7_town 58 = .ok (.invokevirtual 60, 3) := by decide +kernel
theorem dX7_town_61 : decode cX7_town 61 = .ok (.ireturn, 1) := by decide +kernel
theorem dX7_town_62 : decode cX7_town 62 = .ok (.iload 4, 2) := by decide +kernel
theorem dX7_town_64 : decode cX7_town 64 = .ok (.ifCond .ge 9, 3) := by decide +kernel
theorem dX7_town_67 : decode cX7_town 67 = .ok (.aload_n 0, 1) := by decide +kernel
theorem dX7_town_68 : decode cX7_town 68 = .ok (.iconst 4, 1) := by decide +kernel
theorem dX7_town_69 : decode cX7_town 69 = .ok (.invokevirtual 60, 3) := by decide +kernel
theorem dX7_town_72 : decode cX7_town 72 = .ok (.ireturn, 1) := by decide +kernel
theorem dX7_town_73 : decode cX7_town 73 = .ok (.aload 5, 2) := by decide +kernel
theorem dX7_town_75 : decode cX7_town 75 = .ok (.iload_n 3, 1) := by decide +kernel
theorem dX7_town_76 : decode cX7_town 76 = .ok (.iload 4, 2) := by decide +kernel
theorem dX7_town_78 : decode cX7_town 78 = .ok (.invokevirtual 68, 3) := by decide +kernel
theorem dX7_town_81 : decode cX7_town 81 = .ok (.ifCond .ne 9, 3) := by decide +kernel
theorem dX7_town_84 : decode cX7_town 84 = .ok (.aload_n 0, 1) := by decide +kernel
theorem dX7_town_85 : decode cX7_town 85 = .ok (.iconst 3, 1) := by decide +kernel
theorem dX7_town_86 : decode cX7_town 86 = .ok (.invokevirtual 60, 3) := by decide +kernel
theorem dX7_town_89 : decode cX7_town 89 = .ok (.ireturn, 1) := by decide +kernel
theorem dX7_town_90 : decode cX7_town 90 = .ok (.aload_n 0, 1) := by decide +kernel
theorem dX7_town_91 : decode cX7_town 91 = .ok (.getfield 21, 3) := by decide +kernel
theorem dX7_town_94 : decode cX7_town 94 = .ok (.aload 5, 2) := by decide +kernel
theorem dX7_town_96 : decode cX7_town 96 = .ok (.iload_n 3, 1) := by decide +kernel
theorem dX7_town_97 : decode cX7_town 97 = .ok (.iload 4, 2) := by decide +kernel
theorem dX7_town_99 : decode cX7_town 99 = .ok (.invokevirtual 71, 3) := by decide +kernel
theorem dX7_town_102 : decode cX7_town 102 = .ok (.istore 6, 2) := by decide +kernel
theorem dX7_town_104 : decode cX7_town 104 = .ok (.iload 6, 2) := by decide +kernel
theorem dX7_town_106 : decode cX7_town 106 = .ok (.bipush (-9), 2) := by decide +kernel
theorem dX7_town_108 : decode cX7_town 108 = .ok (.if_icmp .eq 9, 3) := by decide +kernel
theorem dX7_town_111 : decode cX7_town 111 = .ok (.bipush (-100), 2) := by decide +kernel
theorem dX7_town_113 : decode cX7_town 113 = .ok (.iload 6, 2) := by decide +kernel
theorem dX7_town_115 : decode cX7_town 115 = .ok (.isub, 1) := by decide +kernel
theorem dX7_town_116 : decode cX7_town 116 = .ok (.ireturn, 1) := by decide +kernel
theorem dX7_town_117 : decode cX7_town 117 = .ok (.aload_n 0, 1) := by decide +kernel
theorem dX7_town_118 : decode cX7_town 118 = .ok (.getfield 12, 3) := by decide +kernel
theorem dX7_town_121 : decode cX7_town 121 = .ok (.aload_n 0, 1) := by decide +kernel
theorem dX7_town_122 : decode cX7_town 122 = .ok (.getfield 21, 3) := by decide +kernel
theorem dX7_town_125 : decode cX7_town 125 = .ok (.invokevirtual 75, 3) := by decide +kernel
theorem dX7_town_128 : decode cX7_town 128 = .ok (.aload_n 0, 1) := by decide +kernel
theorem dX7_town_129 : decode cX7_town 129 = .ok (.getfield 34, 3) := by decide +kernel
theorem dX7_town_132 : decode cX7_town 132 = .ok (.iconst 0, 1) := by decide +kernel
theorem dX7_town_133 : decode cX7_town 133 = .ok (.invokevirtual 79, 3) := by decide +kernel
theorem dX7_town_136 : decode cX7_town 136 = .ok (.aload_n 0, 1) := by decide +kernel
theorem dX7_town_137 : decode cX7_town 137 = .ok (.getfield 12, 3) := by decide +kernel
theorem dX7_town_140 : decode cX7_town 140 = .ok (.getfield 83, 3) := by decide +kernel
theorem dX7_town_143 : decode cX7_town 143 = .ok (.ireturn, 1) := by decide +kernel
set_option maxRecDepth 20000 in
theorem ggX7_ofPerson_X7_isPerson : GoodIn wsX7_ofPerson wsX7_isPerson := goodIn_r _ [6, 1, 68, 69, 70, 71, 72, 73, 74, 75, 76, 77, 78, 79, 80, 81] (by decide +kernel) (by decide +kernel)
set_option maxRecDepth 20000 in
theorem gX7_ofPerson_X7_isPerson : GoodIn wsX7_ofPerson (wsV RX7 86 RX7 yX7_isPerson wsX7_isPerson) := goodIn_app (goodIn_of _ (by decide +kernel)) ggX7_ofPerson_X7_isPerson
set_option maxRecDepth 20000 in
theorem ggX7_ofPerson_X5_penceInAll : GoodIn wsX7_ofPerson wsX5_penceInAll := goodIn_r _ [11, 12, 13, 75, 76, 77, 78, 79, 80, 81] (by decide +kernel) (by decide +kernel)
set_option maxRecDepth 20000 in
theorem gX7_ofPerson_X5_penceInAll : GoodIn wsX7_ofPerson (wsV RX7 93 RX5 yX5_penceInAll wsX5_penceInAll) := goodIn_app (goodIn_of _ (by decide +kernel)) ggX7_ofPerson_X5_penceInAll
set_option maxRecDepth 20000 in
theorem ggX7_ofPerson_X5_roundOf : GoodIn wsX7_ofPerson wsX5_roundOf := goodIn_r _ [17, 18, 19, 20, 10, 21, 12, 22, 23, 24, 25, 26, 27, 28, 29, 30, 31, 32, 13, 33, 34, 35, 36, 37, 38, 39, 40, 41, 42, 43, 44, 45, 46, 47, 48, 49, 50, 51, 52, 75, 76, 77, 78, 79, 80, 81] (by decide +kernel) (by decide +kernel)
set_option maxRecDepth 20000 in
theorem gX7_ofPerson_X5_roundOf : GoodIn wsX7_ofPerson (wsV RX7 96 RX5 yX5_roundOf wsX5_roundOf) := goodIn_app (goodIn_of _ (by decide +kernel)) ggX7_ofPerson_X5_roundOf
set_option maxRecDepth 20000 in
theorem ggX7_ofPerson_X5_stepsOf : GoodIn wsX7_ofPerson wsX5_stepsOf := goodIn_r _ [56, 57, 15, 16, 10, 17, 18, 19, 20, 21, 12, 22, 23, 24, 25, 26, 27, 28, 29, 30, 31, 32, 13, 33, 34, 35, 36, 37, 38, 39, 40, 41, 42, 43, 44, 45, 46, 47, 48, 49, 50, 51, 52, 58, 59, 60, 61, 62, 63, 64, 65, 66, 67, 75, 76, 77, 78, 79, 80, 81] (by decide +kernel) (by decide +kernel)
set_option maxRecDepth 20000 in
theorem gX7_ofPerson_X5_stepsOf : GoodIn wsX7_ofPerson (wsV RX7 99 RX5 yX5_stepsOf wsX5_stepsOf) := goodIn_app (goodIn_of _ (by decide +kernel)) ggX7_ofPerson_X5_stepsOf
theorem dX7_ofPerson_0 : decode cX7_ofPerson 0 = .ok (.aload_n 0, 1) := by decide +kernel
theorem dX7_ofPerson_1 : decode cX7_ofPerson 1 = .ok (.iload_n 1, 1) := by decide +kernel
theorem dX7_ofPerson_2 : decode cX7_ofPerson 2 = .ok (.invokevirtual 86, 3) := by decide +kernel
theorem dX7_ofPerson_5 : decode cX7_ofPerson 5 = .ok (.ifCond .ne 5, 3) := by decide +kernel
theorem dX7_ofPerson_8 : decode cX7_ofPerson 8 = .ok (.iconst (-1), 1) := by decide +kernel
theorem dX7_ofPerson_9 : decode cX7_ofPerson 9 = .ok (.ireturn, 1) := by decide +kernel
theorem dX7_ofPerson_10 : decode cX7_ofPerson 10 = .ok (.iload_n 2, 1) := by decide +kernel
theorem dX7_ofPerson_11 : decode cX7_ofPerson 11 = .ok (.tableswitch 94 0 4 #[33, 43, 52, 61, 70], 33) := by decide +kernel
theorem dX7_ofPerson_44 : decode cX7_ofPerson 44 = .ok (.aload_n 0, 1) := by decide +kernel
theorem dX7_ofPerson_45 : decode cX7_ofPerson 45 = .ok (.getfield 12, 3) := by decide +kernel
theorem dX7_ofPerson_48 : decode cX7_ofPerson 48 = .ok (.getfield 89, 3) := by decide +kernel
theorem dX7_ofPerson_51 : decode cX7_ofPerson 51 = .ok (.iload_n 1, 1) := by decide +kernel
theorem dX7_ofPerson_52 : decode cX7_ofPerson 52 = .ok (.iaload, 1) := by decide +kernel
theorem dX7_ofPerson_53 : decode cX7_ofPerson 53 = .ok (.ireturn, 1) := by decide +kernel
theorem dX7_ofPerson_54 : decode cX7_ofPerson 54 = .ok (.aload_n 0, 1) := by decide +kernel
theorem dX7_ofPerson_55 : decode cX7_ofPerson 55 = .ok (.getfield 12, 3) := by decide +kernel
theorem dX7_ofPerson_58 : decode cX7_ofPerson 58 = .ok (.iload_n 1, 1) := by decide +kernel
theorem dX7_ofPerson_59 : decode cX7_ofPerson 59 = .ok (.invokevirtual 93, 3) := by decide +kernel
theorem dX7_ofPerson_62 : decode cX7_ofPerson 62 = .ok (.ireturn, 1) := by decide +kernel
theorem dX7_ofPerson_63 : decode cX7_ofPerson 63 = .ok (.aload_n 0, 1) := by decide +kernel
theorem dX7_ofPerson_64 : decode cX7_ofPerson 64 = .ok (.getfield 12, 3) := by decide +kernel
theorem dX7_ofPerson_67 : decode cX7_ofPerson 67 = .ok (.iload_n 1, 1) := by decide +kernel
theorem dX7_ofPerson_68 : decode cX7_ofPerson 68 = .ok (.invokevirtual 96, 3) := by decide +kernel
theorem dX7_ofPerson_71 : decode cX7_ofPerson 71 = .ok (.ireturn, 1) := by decide +kernel
theorem dX7_ofPerson_72 : decode cX7_ofPerson 72 = .ok (.aload_n 0, 1) := by decide +kernel
theorem dX7_ofPerson_73 : decode cX7_ofPerson 73 = .ok (.getfield 12, 3) := by decide +kernel
theorem dX7_ofPerson_76 : decode cX7_ofPerson 76 = .ok (.iload_n 1, 1) := by decide +kernel
theorem dX7_ofPerson_77 : decode cX7_ofPerson 77 = .ok (.invokevirtual 99, 3) := by decide +kernel
theorem dX7_ofPerson_80 : decode cX7_ofPerson 80 = .ok (.ireturn, 1) := by decide +kernel
theorem dX7_ofPerson_81 : decode cX7_ofPerson 81 = .ok (.aload_n 0, 1) := by decide +kernel
theorem dX7_ofPerson_82 : decode cX7_ofPerson 82 = .ok (.getfield 12, 3) := by decide +kernel
theorem dX7_ofPerson_85 : decode cX7_ofPerson 85 = .ok (.iload_n 1, 1) := by decide +kernel
theorem dX7_ofPerson_86 : decode cX7_ofPerson 86 = .ok (.invokevirtual 99, 3) := by decide +kernel
theorem dX7_ofPerson_89 : decode cX7_ofPerson 89 = .ok (.aload_n 0, 1) := by decide +kernel
theorem dX7_ofPerson_90 : decode cX7_ofPerson 90 = .ok (.getfield 12, 3) := by decide +kernel
theorem dX7_ofPerson_93 : decode cX7_ofPerson 93 = .ok (.getfield 102, 3) := by decide +kernel
theorem dX7_ofPerson_96 : decode cX7_ofPerson 96 = .ok (.if_icmp .gt 7, 3) := by decide +kernel
theorem dX7_ofPerson_99 : decode cX7_ofPerson 99 = .ok (.iconst 1, 1) := by decide +kernel
theorem dX7_ofPerson_100 : decode cX7_ofPerson 100 = .ok (.goto 4, 3) := by decide +kernel
theorem dX7_ofPerson_103 : decode cX7_ofPerson 103 = .ok (.iconst 0, 1) := by decide +kernel
theorem dX7_ofPerson_104 : decode cX7_ofPerson 104 = .ok (.ireturn, 1) := by decide +kernel
theorem dX7_ofPerson_105 : decode cX7_ofPerson 105 = .ok (.bipush (-2), 2) := by decide +kernel
theorem dX7_ofPerson_107 : decode cX7_ofPerson 107 = .ok (.ireturn, 1) := by decide +kernel
set_option maxRecDepth 20000 in
theorem ggX7_owe_X7_isPerson : GoodIn wsX7_owe wsX7_isPerson := goodIn_r _ [6, 1, 10, 11, 12, 13, 14, 15, 16, 17, 18, 19, 20, 21, 22, 23] (by decide +kernel) (by decide +kernel)
set_option maxRecDepth 20000 in
theorem gX7_owe_X7_isPerson : GoodIn wsX7_owe (wsV RX7 86 RX7 yX7_isPerson wsX7_isPerson) := goodIn_app (goodIn_of _ (by decide +kernel)) ggX7_owe_X7_isPerson
set_option maxRecDepth 20000 in
theorem ggX7_owe_X7_isWithin : GoodIn wsX7_owe wsX7_isWithin := goodIn_r _ [9] (by decide +kernel) (by decide +kernel)
set_option maxRecDepth 20000 in
theorem gX7_owe_X7_isWithin : GoodIn wsX7_owe (va_wsS RX7 53 yX7_isWithin wsX7_isWithin) := goodIn_app (goodIn_of _ (by decide +kernel)) ggX7_owe_X7_isWithin
theorem dX7_owe_0 : decode cX7_owe 0 = .ok (.aload_n 0, 1) := by decide +kernel
theorem dX7_owe_1 : decode cX7_owe 1 = .ok (.iload_n 1, 1) := by decide +kernel
theorem dX7_owe_2 : decode cX7_owe 2 = .ok (.invokevirtual 86, 3) := by decide +kernel
theorem dX7_owe_5 : decode cX7_owe 5 = .ok (.ifCond .eq 16, 3) := by decide +kernel
theorem dX7_owe_8 : decode cX7_owe 8 = .ok (.aload_n 0, 1) := by decide +kernel
theorem dX7_owe_9 : decode cX7_owe 9 = .ok (.iload_n 2, 1) := by decide +kernel
theorem dX7_owe_10 : decode cX7_owe 10 = .ok (.invokevirtual 86, 3) := by decide +kernel
theorem dX7_owe_13 : decode cX7_owe 13 = .ok (.ifCond .eq 8, 3) := by decide +kernel
theorem dX7_owe_16 : decode cX7_owe 16 = .ok (.iload_n 1, 1) := by decide +kernel
theorem dX7_owe_17 : decode cX7_owe 17 = .ok (.iload_n 2, 1) := by decide +kernel
theorem dX7_owe_18 : decode cX7_owe 18 = .ok (.if_icmp .ne 5, 3) := by decide +kernel
theorem dX7_owe_21 : decode cX7_owe 21 = .ok (.iconst (-1), 1) := by decide +kernel
theorem dX7_owe_22 : decode cX7_owe 22 = .ok (.ireturn, 1) := by decide +kernel
theorem dX7_owe_23 : decode cX7_owe 23 = .ok (.iload_n 3, 1) := by decide +kernel
theorem dX7_owe_24 : decode cX7_owe 24 = .ok (.bipush 9, 2) := by decide +kernel
theorem dX7_owe_26 : decode cX7_owe 26 = .ok (.invokestatic 53, 3) := by decide +kernel
theorem dX7_owe_29 : decode cX7_owe 29 = .ok (.ifCond .ne 6, 3) := by decide +kernel
theorem dX7_owe_32 : decode cX7_owe 32 = .ok (.bipush (-2), 2) := by decide +kernel
theorem dX7_owe_34 : decode cX7_owe 34 = .ok (.ireturn, 1) := by decide +kernel
theorem dX7_owe_35 : decode cX7_owe 35 = .ok (.aload_n 0, 1) := by decide +kernel
theorem dX7_owe_36 : decode cX7_owe 36 = .ok (.getfield 12, 3) := by decide +kernel
theorem dX7_owe_39 : decode cX7_owe 39 = .ok (.getfield 105, 3) := by decide +kernel
theorem dX7_owe_42 : decode cX7_owe 42 = .ok (.iload_n 1, 1) := by decide +kernel
theorem dX7_owe_43 : decode cX7_owe 43 = .ok (.aaload, 1) := by decide +kernel
theorem dX7_owe_44 : decode cX7_owe 44 = .ok (.iload_n 2, 1) := by decide +kernel
theorem dX7_owe_45 : decode cX7_owe 45 = .ok (.iaload, 1) := by decide +kernel
theorem dX7_owe_46 : decode cX7_owe 46 = .ok (.istore 4, 2) := by decide +kernel
theorem dX7_owe_48 : decode cX7_owe 48 = .ok (.aload_n 0, 1) := by decide +kernel
theorem dX7_owe_49 : decode cX7_owe 49 = .ok (.getfield 12, 3) := by decide +kernel
theorem dX7_owe_52 : decode cX7_owe 52 = .ok (.getfield 105, 3) := by decide +kernel
theorem dX7_owe_55 : decode cX7_owe 55 = .ok (.iload_n 1, 1) := by decide +kernel
theorem dX7_owe_56 : decode cX7_owe 56 = .ok (.aaload, 1) := by decide +kernel
theorem dX7_owe_57 : decode cX7_owe 57 = .ok (.iload_n 2, 1) := by decide +kernel
theorem dX7_owe_58 : decode cX7_owe 58 = .ok (.iload_n 3, 1) := by decide +kernel
theorem dX7_owe_59 : decode cX7_owe 59 = .ok (.iastore, 1) := by decide +kernel
theorem dX7_owe_60 : decode cX7_owe 60 = .ok (.iload 4, 2) := by decide +kernel
theorem dX7_owe_62 : decode cX7_owe 62 = .ok (.ireturn, 1) := by decide +kernel
set_option maxRecDepth 20000 in
theorem ggX7_owes_X7_isPerson : GoodIn wsX7_owes wsX7_isPerson := goodIn_r _ [6, 1, 7, 8, 9, 10, 11, 12, 13, 14, 15, 16, 17, 18, 19, 20] (by decide +kernel) (by decide +kernel)
set_option maxRecDepth 20000 in
theorem gX7_owes_X7_isPerson : GoodIn wsX7_owes (wsV RX7 86 RX7 yX7_isPerson wsX7_isPerson) := goodIn_app (goodIn_of _ (by decide +kernel)) ggX7_owes_X7_isPerson
theorem dX7_owes_0 : decode cX7_owes 0 = .ok (.aload_n 0, 1) := by decide +kernel
theorem dX7_owes_1 : decode cX7_owes 1 = .ok (.iload_n 1, 1) := by decide +kernel
theorem dX7_owes_2 : decode cX7_owes 2 = .ok (.invokevirtual 86, 3) := by decide +kernel
theorem dX7_owes_5 : decode cX7_owes 5 = .ok (.ifCond .eq 11, 3) := by decide +kernel
theorem dX7_owes_8 : decode cX7_owes 8 = .ok (.aload_n 0, 1) := by decide +kernel
theorem dX7_owes_9 : decode cX7_owes 9 = .ok (.iload_n 2, 1) := by decide +kernel
theorem dX7_owes_10 : decode cX7_owes 10 = .ok (.invokevirtual 86, 3) := by decide +kernel
theorem dX7_owes_13 : decode cX7_owes 13 = .ok (.ifCond .ne 5, 3) := by decide +kernel
theorem dX7_owes_16 : decode cX7_owes 16 = .ok (.iconst (-1), 1) := by decide +kernel
theorem dX7_owes_17 : decode cX7_owes 17 = .ok (.ireturn, 1) := by decide +kernel
theorem dX7_owes_18 : decode cX7_owes 18 = .ok (.aload_n 0, 1) := by decide +kernel
theorem dX7_owes_19 : decode cX7_owes 19 = .ok (.getfield 12, 3) := by decide +kernel
theorem dX7_owes_22 : decode cX7_owes 22 = .ok (.getfield 105, 3) := by decide +kernel
theorem dX7_owes_25 : decode cX7_owes 25 = .ok (.iload_n 1, 1) := by decide +kernel
theorem dX7_owes_26 : decode cX7_owes 26 = .ok (.aaload, 1) := by decide +kernel
theorem dX7_owes_27 : decode cX7_owes 27 = .ok (.iload_n 2, 1) := by decide +kernel
theorem dX7_owes_28 : decode cX7_owes 28 = .ok (.iaload, 1) := by decide +kernel
theorem dX7_owes_29 : decode cX7_owes 29 = .ok (.ireturn, 1) := by decide +kernel
set_option maxRecDepth 20000 in
theorem ggX7_weight_X7_isPerson : GoodIn wsX7_weight wsX7_isPerson := goodIn_r _ [6, 1, 31, 32, 33, 34, 35, 36, 37, 38, 39, 40, 41, 42, 43, 44] (by decide +kernel) (by decide +kernel)
set_option maxRecDepth 20000 in
theorem gX7_weight_X7_isPerson : GoodIn wsX7_weight (wsV RX7 86 RX7 yX7_isPerson wsX7_isPerson) := goodIn_app (goodIn_of _ (by decide +kernel)) ggX7_weight_X7_isPerson
set_option maxRecDepth 20000 in
theorem ggX7_weight_X5_weightOf : GoodIn wsX7_weight wsX5_weightOf := goodIn_r _ [11, 12, 13, 14, 15, 16, 17, 18, 19, 20, 21, 22, 23, 24, 25, 26, 27, 28, 29, 30, 38, 39, 40, 41, 42, 43, 44] (by decide +kernel) (by decide +kernel)
set_option maxRecDepth 20000 in
theorem gX7_weight_X5_weightOf : GoodIn wsX7_weight (wsV RX7 109 RX5 yX5_weightOf wsX5_weightOf) := goodIn_app (goodIn_of _ (by decide +kernel)) ggX7_weight_X5_weightOf
theorem dX7_weight_0 : decode cX7_weight 0 = .ok (.aload_n 0, 1) := by decide +kernel
theorem dX7_weight_1 : decode cX7_weight 1 = .ok (.iload_n 1, 1) := by decide +kernel
theorem dX7_weight_2 : decode cX7_weight 2 = .ok (.invokevirtual 86, 3) := by decide +kernel
theorem dX7_weight_5 : decode cX7_weight 5 = .ok (.ifCond .eq 11, 3) := by decide +kernel
theorem dX7_weight_8 : decode cX7_weight 8 = .ok (.aload_n 0, 1) := by decide +kernel
theorem dX7_weight_9 : decode cX7_weight 9 = .ok (.iload_n 2, 1) := by decide +kernel
theorem dX7_weight_10 : decode cX7_weight 10 = .ok (.invokevirtual 86, 3) := by decide +kernel
theorem dX7_weight_13 : decode cX7_weight 13 = .ok (.ifCond .ne 5, 3) := by decide +kernel
theorem dX7_weight_16 : decode cX7_weight 16 = .ok (.iconst (-1), 1) := by decide +kernel
theorem dX7_weight_17 : decode cX7_weight 17 = .ok (.ireturn, 1) := by decide +kernel
theorem dX7_weight_18 : decode cX7_weight 18 = .ok (.aload_n 0, 1) := by decide +kernel
theorem dX7_weight_19 : decode cX7_weight 19 = .ok (.getfield 12, 3) := by decide +kernel
theorem dX7_weight_22 : decode cX7_weight 22 = .ok (.iload_n 1, 1) := by decide +kernel
theorem dX7_weight_23 : decode cX7_weight 23 = .ok (.iload_n 2, 1) := by decide +kernel
theorem dX7_weight_24 : decode cX7_weight 24 = .ok (.invokevirtual 109, 3) := by decide +kernel
theorem dX7_weight_27 : decode cX7_weight 27 = .ok (.ireturn, 1) := by decide +kernel
set_option maxRecDepth 20000 in
theorem ggX7_bell_X7_isWithin : GoodIn wsX7_bell wsX7_isWithin := goodIn_r _ [5] (by decide +kernel) (by decide +kernel)
set_option maxRecDepth 20000 in
theorem gX7_bell_X7_isWithin : GoodIn wsX7_bell (va_wsS RX7 53 yX7_isWithin wsX7_isWithin) := goodIn_app (goodIn_of _ (by decide +kernel)) ggX7_bell_X7_isWithin
set_option maxRecDepth 20000 in
theorem ggX7_bell_X7_hasTown : GoodIn wsX7_bell wsX7_hasTown := goodIn_r _ [9, 1, 10, 11, 12, 13, 14, 15, 16, 17, 18, 19, 20, 21, 22, 23] (by decide +kernel) (by decide +kernel)
set_option maxRecDepth 20000 in
theorem gX7_bell_X7_hasTown : GoodIn wsX7_bell (wsV RX7 113 RX7 yX7_hasTown wsX7_hasTown) := goodIn_app (goodIn_of _ (by decide +kernel)) ggX7_bell_X7_hasTown
theorem dX7_bell_0 : decode cX7_bell 0 = .ok (.iload_n 1, 1) := by decide +kernel
theorem dX7_bell_1 : decode cX7_bell 1 = .ok (.bipush 9, 2) := by decide +kernel
theorem dX7_bell_3 : decode cX7_bell 3 = .ok (.invokestatic 53, 3) := by decide +kernel
theorem dX7_bell_6 : decode cX7_bell 6 = .ok (.ifCond .ne 6, 3) := by decide +kernel
theorem dX7_bell_9 : decode cX7_bell 9 = .ok (.bipush (-2), 2) := by decide +kernel
theorem dX7_bell_11 : decode cX7_bell 11 = .ok (.ireturn, 1) := by decide +kernel
theorem dX7_bell_12 : decode cX7_bell 12 = .ok (.aload_n 0, 1) := by decide +kernel
theorem dX7_bell_13 : decode cX7_bell 13 = .ok (.invokevirtual 113, 3) := by decide +kernel
theorem dX7_bell_16 : decode cX7_bell 16 = .ok (.ifCond .ne 6, 3) := by decide +kernel
theorem dX7_bell_19 : decode cX7_bell 19 = .ok (.bipush (-3), 2) := by decide +kernel
theorem dX7_bell_21 : decode cX7_bell 21 = .ok (.ireturn, 1) := by decide +kernel
theorem dX7_bell_22 : decode cX7_bell 22 = .ok (.aload_n 0, 1) := by decide +kernel
theorem dX7_bell_23 : decode cX7_bell 23 = .ok (.getfield 12, 3) := by decide +kernel
theorem dX7_bell_26 : decode cX7_bell 26 = .ok (.getfield 102, 3) := by decide +kernel
theorem dX7_bell_29 : decode cX7_bell 29 = .ok (.istore_n 2, 1) := by decide +kernel
theorem dX7_bell_30 : decode cX7_bell 30 = .ok (.aload_n 0, 1) := by decide +kernel
theorem dX7_bell_31 : decode cX7_bell 31 = .ok (.getfield 12, 3) := by decide +kernel
theorem dX7_bell_34 : decode cX7_bell 34 = .ok (.iload_n 1, 1) := by decide +kernel
theorem dX7_bell_35 : decode cX7_bell 35 = .ok (.putfield 102, 3) := by decide +kernel
theorem dX7_bell_38 : decode cX7_bell 38 = .ok (.iload_n 2, 1) := by decide +kernel
theorem dX7_bell_39 : decode cX7_bell 39 = .ok (.ireturn, 1) := by decide +kernel
set_option maxRecDepth 20000 in
theorem ggX7_lighter_X7_isPerson : GoodIn wsX7_lighter wsX7_isPerson := goodIn_r _ [6, 1, 36, 37, 38, 39, 40, 41, 42, 43, 44, 45, 46, 47, 48, 49] (by decide +kernel) (by decide +kernel)
set_option maxRecDepth 20000 in
theorem gX7_lighter_X7_isPerson : GoodIn wsX7_lighter (wsV RX7 86 RX7 yX7_isPerson wsX7_isPerson) := goodIn_app (goodIn_of _ (by decide +kernel)) ggX7_lighter_X7_isPerson
set_option maxRecDepth 20000 in
theorem ggX7_lighter_X5_lighterAmong : GoodIn wsX7_lighter wsX5_lighterAmong := goodIn_r _ [11, 12, 13, 14, 15, 10, 16, 17, 18, 19, 20, 21, 22, 23, 24, 25, 26, 27, 28, 29, 30, 31, 32, 33, 34, 35, 43, 44, 45, 46, 47, 48, 49] (by decide +kernel) (by decide +kernel)
set_option maxRecDepth 20000 in
theorem gX7_lighter_X5_lighterAmong : GoodIn wsX7_lighter (wsV RX7 116 RX5 yX5_lighterAmong wsX5_lighterAmong) := goodIn_app (goodIn_of _ (by decide +kernel)) ggX7_lighter_X5_lighterAmong
theorem dX7_lighter_0 : decode cX7_lighter 0 = .ok (.aload_n 0, 1) := by decide +kernel
theorem dX7_lighter_1 : decode cX7_lighter 1 = .ok (.iload_n 1, 1) := by decide +kernel
theorem dX7_lighter_2 : decode cX7_lighter 2 = .ok (.invokevirtual 86, 3) := by decide +kernel
theorem dX7_lighter_5 : decode cX7_lighter 5 = .ok (.ifCond .ne 5, 3) := by decide +kernel
theorem dX7_lighter_8 : decode cX7_lighter 8 = .ok (.iconst (-1), 1) := by decide +kernel
theorem dX7_lighter_9 : decode cX7_lighter 9 = .ok (.ireturn, 1) := by decide +kernel
theorem dX7_lighter_10 : decode cX7_lighter 10 = .ok (.aload_n 0, 1) := by decide +kernel
theorem dX7_lighter_11 : decode cX7_lighter 11 = .ok (.getfield 12, 3) := by decide +kernel
theorem dX7_lighter_14 : decode cX7_lighter 14 = .ok (.iload_n 1, 1) := by decide +kernel
theorem dX7_lighter_15 : decode cX7_lighter 15 = .ok (.iconst 0, 1) := by decide +kernel
theorem dX7_lighter_16 : decode cX7_lighter 16 = .ok (.invokevirtual 116, 3) := by decide +kernel
theorem dX7_lighter_19 : decode cX7_lighter 19 = .ok (.ireturn, 1) := by decide +kernel
set_option maxRecDepth 20000 in
theorem ggX7_dusks_X7_isWithin : GoodIn wsX7_dusks wsX7_isWithin := goodIn_r _ [5] (by decide +kernel) (by decide +kernel)
set_option maxRecDepth 20000 in
theorem gX7_dusks_X7_isWithin : GoodIn wsX7_dusks (va_wsS RX7 53 yX7_isWithin wsX7_isWithin) := goodIn_app (goodIn_of _ (by decide +kernel)) ggX7_dusks_X7_isWithin
set_option maxRecDepth 20000 in
theorem ggX7_dusks_X7_hasTown : GoodIn wsX7_dusks wsX7_hasTown := goodIn_r _ [9, 1, 68, 69, 70, 71, 72, 73, 74, 75, 76, 77, 78, 79, 80, 81] (by decide +kernel) (by decide +kernel)
set_option maxRecDepth 20000 in
theorem gX7_dusks_X7_hasTown : GoodIn wsX7_dusks (wsV RX7 113 RX7 yX7_hasTown wsX7_hasTown) := goodIn_app (goodIn_of _ (by decide +kernel)) ggX7_dusks_X7_hasTown
set_option maxRecDepth 20000 in
theorem ggX7_dusks_X5_passDusk : GoodIn wsX7_dusks wsX5_passDusk := goodIn_r _ [14, 15, 16, 17, 18, 19, 20, 21, 22, 23, 24, 25, 26, 27, 28, 29, 13, 30, 31, 32, 33, 34, 35, 36, 37, 38, 39, 40, 41, 42, 43, 44, 45, 46, 47, 48, 49, 50, 51, 52, 53, 54, 55, 56, 57, 58, 59, 60, 61, 62, 63, 75, 76, 77, 78, 79, 80, 81] (by decide +kernel) (by decide +kernel)
set_option maxRecDepth 20000 in
theorem gX7_dusks_X5_passDusk : GoodIn wsX7_dusks (wsV RX7 119 RX5 yX5_passDusk wsX5_passDusk) := goodIn_app (goodIn_of _ (by decide +kernel)) ggX7_dusks_X5_passDusk
set_option maxRecDepth 20000 in
theorem ggX7_dusks_X5_litLamps : GoodIn wsX7_dusks wsX5_litLamps := goodIn_r _ [67, 15, 31, 32, 33, 13, 34, 35, 36, 37, 38, 39, 40, 19, 41, 42, 43, 44, 45, 46, 47, 48, 49, 50, 51, 52, 53, 54, 55, 56, 75, 76, 77, 78, 79, 80, 81] (by decide +kernel) (by decide +kernel)
set_option maxRecDepth 20000 in
theorem gX7_dusks_X5_litLamps : GoodIn wsX7_dusks (wsV RX7 122 RX5 yX5_litLamps wsX5_litLamps) := goodIn_app (goodIn_of _ (by decide +kernel)) ggX7_dusks_X5_litLamps
theorem dX7_dusks_0 : decode cX7_dusks 0 = .ok (.iload_n 1, 1) := by decide +kernel
theorem dX7_dusks_1 : decode cX7_dusks 1 = .ok (.bipush 60, 2) := by decide +kernel
theorem dX7_dusks_3 : decode cX7_dusks 3 = .ok (.invokestatic 53, 3) := by decide +kernel
theorem dX7_dusks_6 : decode cX7_dusks 6 = .ok (.ifCond .ne 6, 3) := by decide +kernel
theorem dX7_dusks_9 : decode cX7_dusks 9 = .ok (.bipush (-2), 2) := by decide +kernel
theorem dX7_dusks_11 : decode cX7_dusks 11 = .ok (.ireturn, 1) := by decide +kernel
theorem dX7_dusks_12 : decode cX7_dusks 12 = .ok (.aload_n 0, 1) := by decide +kernel
theorem dX7_dusks_13 : decode cX7_dusks 13 = .ok (.invokevirtual 113, 3) := by decide +kernel
theorem dX7_dusks_16 : decode cX7_dusks 16 = .ok (.ifCond .ne 6, 3) := by decide +kernel
theorem dX7_dusks_19 : decode cX7_dusks 19 = .ok (.bipush (-3), 2) := by decide +kernel
theorem dX7_dusks_21 : decode cX7_dusks 21 = .ok (.ireturn, 1) := by decide +kernel
theorem dX7_dusks_22 : decode cX7_dusks 22 = .ok (.iconst 0, 1) := by decide +kernel
theorem dX7_dusks_23 : decode cX7_dusks 23 = .ok (.istore_n 2, 1) := by decide +kernel
theorem dX7_dusks_24 : decode cX7_dusks 24 = .ok (.iload_n 2, 1) := by decide +kernel
theorem dX7_dusks_25 : decode cX7_dusks 25 = .ok (.iload_n 1, 1) := by decide +kernel
theorem dX7_dusks_26 : decode cX7_dusks 26 = .ok (.if_icmp .ge 16, 3) := by decide +kernel
theorem dX7_dusks_29 : decode cX7_dusks 29 = .ok (.aload_n 0, 1) := by decide +kernel
theorem dX7_dusks_30 : decode cX7_dusks 30 = .ok (.getfield 12, 3) := by decide +kernel
theorem dX7_dusks_33 : decode cX7_dusks 33 = .ok (.invokevirtual 119, 3) := by decide +kernel
theorem dX7_dusks_36 : decode cX7_dusks 36 = .ok (.iinc 2 1, 3) := by decide +kernel
theorem dX7_dusks_39 : decode cX7_dusks 39 = .ok (.goto (-15), 3) := by decide +kernel
theorem dX7_dusks_42 : decode cX7_dusks 42 = .ok (.aload_n 0, 1) := by decide +kernel
theorem dX7_dusks_43 : decode cX7_dusks 43 = .ok (.getfield 12, 3) := by decide +kernel
theorem dX7_dusks_46 : decode cX7_dusks 46 = .ok (.invokevirtual 122, 3) := by decide +kernel
theorem dX7_dusks_49 : decode cX7_dusks 49 = .ok (.ireturn, 1) := by decide +kernel
set_option maxRecDepth 20000 in
theorem ggX7_later_X7_isPerson : GoodIn wsX7_later wsX7_isPerson := goodIn_r _ [7, 2, 70, 71, 72, 73, 74, 75, 76, 77, 78, 79, 80, 81, 82, 83] (by decide +kernel) (by decide +kernel)
set_option maxRecDepth 20000 in
theorem gX7_later_X7_isPerson : GoodIn wsX7_later (wsV RX7 86 RX7 yX7_isPerson wsX7_isPerson) := goodIn_app (goodIn_of _ (by decide +kernel)) ggX7_later_X7_isPerson
set_option maxRecDepth 20000 in
theorem ggX7_later_X7_isWithin : GoodIn wsX7_later wsX7_isWithin := goodIn_r _ [10] (by decide +kernel) (by decide +kernel)
set_option maxRecDepth 20000 in
theorem gX7_later_X7_isWithin : GoodIn wsX7_later (va_wsS RX7 53 yX7_isWithin wsX7_isWithin) := goodIn_app (goodIn_of _ (by decide +kernel)) ggX7_later_X7_isWithin
set_option maxRecDepth 20000 in
theorem ggX7_later_X5_becomeLike : GoodIn wsX7_later wsX5_becomeLike := goodIn_r _ [15, 16, 17, 18, 19, 77, 78, 79, 80, 81, 82, 83] (by decide +kernel) (by decide +kernel)
set_option maxRecDepth 20000 in
theorem gX7_later_X5_becomeLike : GoodIn wsX7_later (wsV RX7 75 RX5 yX5_becomeLike wsX5_becomeLike) := goodIn_app (goodIn_of _ (by decide +kernel)) ggX7_later_X5_becomeLike
set_option maxRecDepth 20000 in
theorem ggX7_later_X5_passDusk : GoodIn wsX7_later wsX5_passDusk := goodIn_r _ [23, 16, 24, 17, 25, 19, 26, 27, 28, 29, 30, 31, 32, 33, 34, 35, 14, 36, 37, 38, 39, 40, 41, 42, 43, 44, 45, 18, 46, 47, 48, 49, 50, 51, 52, 53, 54, 55, 56, 57, 58, 59, 60, 61, 62, 63, 64, 65, 66, 67, 68, 77, 78, 79, 80, 81, 82, 83] (by decide +kernel) (by decide +kernel)
set_option maxRecDepth 20000 in
theorem gX7_later_X5_passDusk : GoodIn wsX7_later (wsV RX7 119 RX5 yX5_passDusk wsX5_passDusk) := goodIn_app (goodIn_of _ (by decide +kernel)) ggX7_later_X5_passDusk
set_option maxRecDepth 20000 in
theorem ggX7_later_X5_lighterAmong : GoodIn wsX7_later wsX5_lighterAmong := goodIn_r _ [40, 16, 41, 42, 43, 14, 44, 45, 18, 19, 46, 47, 48, 49, 50, 51, 52, 53, 54, 55, 56, 57, 58, 59, 60, 61, 77, 78, 79, 80, 81, 82, 83] (by decide +kernel) (by decide +kernel)
set_option maxRecDepth 20000 in
theorem gX7_later_X5_lighterAmong : GoodIn wsX7_later (wsV RX7 116 RX5 yX5_lighterAmong wsX5_lighterAmong) := goodIn_app (goodIn_of _ (by decide +kernel)) ggX7_later_X5_lighterAmong
theorem dX7_later_0 : decode cX7_later 0 = .ok (.aload_n 0, 1) := by decide +kernel
theorem dX7_later_1 : decode cX7_later 1 = .ok (.iload_n 1, 1) := by decide +kernel
theorem dX7_later_2 : decode cX7_later 2 = .ok (.invokevirtual 86, 3) := by decide +kernel
theorem dX7_later_5 : decode cX7_later 5 = .ok (.ifCond .ne 5, 3) := by decide +kernel
theorem dX7_later_8 : decode cX7_later 8 = .ok (.iconst (-1), 1) := by decide +kernel
theorem dX7_later_9 : decode cX7_later 9 = .ok (.ireturn, 1) := by decide +kernel
theorem dX7_later_10 : decode cX7_later 10 = .ok (.iload_n 2, 1) := by decide +kernel
theorem dX7_later_11 : decode cX7_later 11 = .ok (.bipush 60, 2) := by decide +kernel
theorem dX7_later_13 : decode cX7_later 13 = .ok (.invokestatic 53, 3) := by decide +kernel
theorem dX7_later_16 : decode cX7_later 16 = .ok (.ifCond .ne 6, 3) := by decide +kernel
theorem dX7_later_19 : decode cX7_later 19 = .ok (.bipush (-2), 2) := by decide +kernel
theorem dX7_later_21 : decode cX7_later 21 = .ok (.ireturn, 1) := by decide +kernel
theorem dX7_later_22 : decode cX7_later 22 = .ok (.aload_n 0, 1) := by decide +kernel
theorem dX7_later_23 : decode cX7_later 23 = .ok (.getfield 18, 3) := by decide +kernel
theorem dX7_later_26 : decode cX7_later 26 = .ok (.aload_n 0, 1) := by decide +kernel
theorem dX7_later_27 : decode cX7_later 27 = .ok (.getfield 12, 3) := by decide +kernel
theorem dX7_later_30 : decode cX7_later 30 = .ok (.invokevirtual 75, 3) := by decide +kernel
theorem dX7_later_33 : decode cX7_later 33 = .ok (.iconst 0, 1) := by decide +kernel
theorem dX7_later_34 : decode cX7_later 34 = .ok (.istore_n 3, 1) := by decide +kernel
theorem dX7_later_35 : decode cX7_later 35 = .ok (.iload_n 3, 1) := by decide +kernel
theorem dX7_later_36 : decode cX7_later 36 = .ok (.iload_n 2, 1) := by decide +kernel
theorem dX7_later_37 : decode cX7_later 37 = .ok (.if_icmp .ge 16, 3) := by decide +kernel
theorem dX7_later_40 : decode cX7_later 40 = .ok (.aload_n 0, 1) := by decide +kernel
theorem dX7_later_41 : decode cX7_later 41 = .ok (.getfield 18, 3) := by decide +kernel
theorem dX7_later_44 : decode cX7_later 44 = .ok (.invokevirtual 119, 3) := by decide +kernel
theorem dX7_later_47 : decode cX7_later 47 = .ok (.iinc 3 1, 3) := by decide +kernel
theorem dX7_later_50 : decode cX7_later 50 = .ok (.goto (-15), 3) := by decide +kernel
theorem dX7_later_53 : decode cX7_later 53 = .ok (.aload_n 0, 1) := by decide +kernel
theorem dX7_later_54 : decode cX7_later 54 = .ok (.getfield 18, 3) := by decide +kernel
theorem dX7_later_57 : decode cX7_later 57 = .ok (.iload_n 1, 1) := by decide +kernel
theorem dX7_later_58 : decode cX7_later 58 = .ok (.iconst 0, 1) := by decide +kernel
theorem dX7_later_59 : decode cX7_later 59 = .ok (.invokevirtual 116, 3) := by decide +kernel
theorem dX7_later_62 : decode cX7_later 62 = .ok (.ireturn, 1) := by decide +kernel
set_option maxRecDepth 20000 in
theorem ggX7_dark_X7_hasTown : GoodIn wsX7_dark wsX7_hasTown := goodIn_r _ [7, 2, 70, 71, 72, 73, 74, 75, 76, 77, 78, 79, 80, 81, 82, 83] (by decide +kernel) (by decide +kernel)
set_option maxRecDepth 20000 in
theorem gX7_dark_X7_hasTown : GoodIn wsX7_dark (wsV RX7 113 RX7 yX7_hasTown wsX7_hasTown) := goodIn_app (goodIn_of _ (by decide +kernel)) ggX7_dark_X7_hasTown
set_option maxRecDepth 20000 in
theorem ggX7_dark_X5_becomeLike : GoodIn wsX7_dark wsX5_becomeLike := goodIn_r _ [12, 13, 14, 15, 16, 77, 78, 79, 80, 81, 82, 83] (by decide +kernel) (by decide +kernel)
set_option maxRecDepth 20000 in
theorem gX7_dark_X5_becomeLike : GoodIn wsX7_dark (wsV RX7 75 RX5 yX5_becomeLike wsX5_becomeLike) := goodIn_app (goodIn_of _ (by decide +kernel)) ggX7_dark_X5_becomeLike
set_option maxRecDepth 20000 in
theorem ggX7_dark_X5_litLamps : GoodIn wsX7_dark wsX5_litLamps := goodIn_r _ [20, 13, 21, 22, 23, 11, 24, 25, 26, 27, 28, 29, 15, 16, 30, 31, 32, 33, 34, 35, 36, 37, 38, 39, 40, 41, 42, 43, 44, 45, 77, 78, 79, 80, 81, 82, 83] (by decide +kernel) (by decide +kernel)
set_option maxRecDepth 20000 in
theorem gX7_dark_X5_litLamps : GoodIn wsX7_dark (wsV RX7 122 RX5 yX5_litLamps wsX5_litLamps) := goodIn_app (goodIn_of _ (by decide +kernel)) ggX7_dark_X5_litLamps
set_option maxRecDepth 20000 in
theorem ggX7_dark_X5_passDusk : GoodIn wsX7_dark wsX5_passDusk := goodIn_r _ [49, 13, 50, 14, 51, 16, 52, 53, 54, 55, 56, 57, 58, 59, 60, 61, 11, 62, 21, 22, 23, 24, 25, 26, 27, 28, 29, 15, 30, 31, 32, 33, 34, 35, 36, 37, 38, 39, 40, 41, 42, 43, 44, 45, 63, 64, 65, 66, 67, 68, 69, 77, 78, 79, 80, 81, 82, 83] (by decide +kernel) (by decide +kernel)
set_option maxRecDepth 20000 in
theorem gX7_dark_X5_passDusk : GoodIn wsX7_dark (wsV RX7 119 RX5 yX5_passDusk wsX5_passDusk) := goodIn_app (goodIn_of _ (by decide +kernel)) ggX7_dark_X5_passDusk
theorem dX7_dark_0 : decode cX7_dark 0 = .ok (.aload_n 0, 1) := by decide +kernel
theorem dX7_dark_1 : decode cX7_dark 1 = .ok (.invokevirtual 113, 3) := by decide +kernel
theorem dX7_dark_4 : decode cX7_dark 4 = .ok (.ifCond .ne 6, 3) := by decide +kernel
theorem dX7_dark_7 : decode cX7_dark 7 = .ok (.bipush (-3), 2) := by decide +kernel
theorem dX7_dark_9 : decode cX7_dark 9 = .ok (.ireturn, 1) := by decide +kernel
theorem dX7_dark_10 : decode cX7_dark 10 = .ok (.aload_n 0, 1) := by decide +kernel
theorem dX7_dark_11 : decode cX7_dark 11 = .ok (.getfield 18, 3) := by decide +kernel
theorem dX7_dark_14 : decode cX7_dark 14 = .ok (.aload_n 0, 1) := by decide +kernel
theorem dX7_dark_15 : decode cX7_dark 15 = .ok (.getfield 12, 3) := by decide +kernel
theorem dX7_dark_18 : decode cX7_dark 18 = .ok (.invokevirtual 75, 3) := by decide +kernel
theorem dX7_dark_21 : decode cX7_dark 21 = .ok (.iconst 0, 1) := by decide +kernel
theorem dX7_dark_22 : decode cX7_dark 22 = .ok (.istore_n 1, 1) := by decide +kernel
theorem dX7_dark_23 : decode cX7_dark 23 = .ok (.iload_n 1, 1) := by decide +kernel
theorem dX7_dark_24 : decode cX7_dark 24 = .ok (.bipush 60, 2) := by decide +kernel
theorem dX7_dark_26 : decode cX7_dark 26 = .ok (.if_icmp .gt 28, 3) := by decide +kernel
theorem dX7_dark_29 : decode cX7_dark 29 = .ok (.aload_n 0, 1) := by decide +kernel
theorem dX7_dark_30 : decode cX7_dark 30 = .ok (.getfield 18, 3) := by decide +kernel
theorem dX7_dark_33 : decode cX7_dark 33 = .ok (.invokevirtual 122, 3) := by decide +kernel
theorem dX7_dark_36 : decode cX7_dark 36 = .ok (.ifCond .ne 5, 3) := by decide +kernel
theorem dX7_dark_39 : decode cX7_dark 39 = .ok (.iload_n 1, 1) := by decide +kernel
theorem dX7_dark_40 : decode cX7_dark 40 = .ok (.ireturn, 1) := by decide +kernel
theorem dX7_dark_41 : decode cX7_dark 41 = .ok (.aload_n 0, 1) := by decide +kernel
theorem dX7_dark_42 : decode cX7_dark 42 = .ok (.getfield 18, 3) := by decide +kernel
theorem dX7_dark_45 : decode cX7_dark 45 = .ok (.invokevirtual 119, 3) := by decide +kernel
theorem dX7_dark_48 : decode cX7_dark 48 = .ok (.iinc 1 1, 3) := by decide +kernel
theorem dX7_dark_51 : decode cX7_dark 51 = .ok (.goto (-28), 3) := by decide +kernel
theorem dX7_dark_54 : decode cX7_dark 54 = .ok (.bipush (-9), 2) := by decide +kernel
theorem dX7_dark_56 : decode cX7_dark 56 = .ok (.ireturn, 1) := by decide +kernel
set_option maxRecDepth 20000 in
theorem ggX7_ring_X7_isPerson : GoodIn wsX7_ring wsX7_isPerson := goodIn_r _ [6, 1, 36, 37, 38, 39, 40, 41, 42, 43, 44, 45, 46, 47, 48, 49] (by decide +kernel) (by decide +kernel)
set_option maxRecDepth 20000 in
theorem gX7_ring_X7_isPerson : GoodIn wsX7_ring (wsV RX7 86 RX7 yX7_isPerson wsX7_isPerson) := goodIn_app (goodIn_of _ (by decide +kernel)) ggX7_ring_X7_isPerson
set_option maxRecDepth 20000 in
theorem ggX7_ring_X5_lighterAmong : GoodIn wsX7_ring wsX5_lighterAmong := goodIn_r _ [11, 12, 13, 14, 15, 10, 16, 17, 18, 19, 20, 21, 22, 23, 24, 25, 26, 27, 28, 29, 30, 31, 32, 33, 34, 35, 43, 44, 45, 46, 47, 48, 49] (by decide +kernel) (by decide +kernel)
set_option maxRecDepth 20000 in
theorem gX7_ring_X5_lighterAmong : GoodIn wsX7_ring (wsV RX7 116 RX5 yX5_lighterAmong wsX5_lighterAmong) := goodIn_app (goodIn_of _ (by decide +kernel)) ggX7_ring_X5_lighterAmong
theorem dX7_ring_0 : decode cX7_ring 0 = .ok (.aload_n 0, 1) := by decide +kernel
theorem dX7_ring_1 : decode cX7_ring 1 = .ok (.iload_n 1, 1) := by decide +kernel
theorem dX7_ring_2 : decode cX7_ring 2 = .ok (.invokevirtual 86, 3) := by decide +kernel
theorem dX7_ring_5 : decode cX7_ring 5 = .ok (.ifCond .ne 5, 3) := by decide +kernel
theorem dX7_ring_8 : decode cX7_ring 8 = .ok (.iconst (-1), 1) := by decide +kernel
theorem dX7_ring_9 : decode cX7_ring 9 = .ok (.ireturn, 1) := by decide +kernel
theorem dX7_ring_10 : decode cX7_ring 10 = .ok (.iload_n 1, 1) := by decide +kernel
theorem dX7_ring_11 : decode cX7_ring 11 = .ok (.istore_n 2, 1) := by decide +kernel
theorem dX7_ring_12 : decode cX7_ring 12 = .ok (.iconst 0, 1) := by decide +kernel
theorem dX7_ring_13 : decode cX7_ring 13 = .ok (.istore_n 3, 1) := by decide +kernel
theorem dX7_ring_14 : decode cX7_ring 14 = .ok (.iload_n 3, 1) := by decide +kernel
theorem dX7_ring_15 : decode cX7_ring 15 = .ok (.aload_n 0, 1) := by decide +kernel
theorem dX7_ring_16 : decode cX7_ring 16 = .ok (.getfield 12, 3) := by decide +kernel
theorem dX7_ring_19 : decode cX7_ring 19 = .ok (.getfield 83, 3) := by decide +kernel
theorem dX7_ring_22 : decode cX7_ring 22 = .ok (.if_icmp .ge 28, 3) := by decide +kernel
theorem dX7_ring_25 : decode cX7_ring 25 = .ok (.aload_n 0, 1) := by decide +kernel
theorem dX7_ring_26 : decode cX7_ring 26 = .ok (.getfield 12, 3) := by decide +kernel
theorem dX7_ring_29 : decode cX7_ring 29 = .ok (.iload_n 2, 1) := by decide +kernel
theorem dX7_ring_30 : decode cX7_ring 30 = .ok (.iconst 0, 1) := by decide +kernel
theorem dX7_ring_31 : decode cX7_ring 31 = .ok (.invokevirtual 116, 3) := by decide +kernel
theorem dX7_ring_34 : decode cX7_ring 34 = .ok (.istore_n 2, 1) := by decide +kernel
theorem dX7_ring_35 : decode cX7_ring 35 = .ok (.iload_n 2, 1) := by decide +kernel
theorem dX7_ring_36 : decode cX7_ring 36 = .ok (.bipush (-9), 2) := by decide +kernel
theorem dX7_ring_38 : decode cX7_ring 38 = .ok (.if_icmp .ne 6, 3) := by decide +kernel
theorem dX7_ring_41 : decode cX7_ring 41 = .ok (.bipush (-9), 2) := by decide +kernel
theorem dX7_ring_43 : decode cX7_ring 43 = .ok (.ireturn, 1) := by decide +kernel
theorem dX7_ring_44 : decode cX7_ring 44 = .ok (.iinc 3 1, 3) := by decide +kernel
theorem dX7_ring_47 : decode cX7_ring 47 = .ok (.goto (-33), 3) := by decide +kernel
theorem dX7_ring_50 : decode cX7_ring 50 = .ok (.iconst 0, 1) := by decide +kernel
theorem dX7_ring_51 : decode cX7_ring 51 = .ok (.istore_n 3, 1) := by decide +kernel
theorem dX7_ring_52 : decode cX7_ring 52 = .ok (.iconst 0, 1) := by decide +kernel
theorem dX7_ring_53 : decode cX7_ring 53 = .ok (.istore 4, 2) := by decide +kernel
theorem dX7_ring_55 : decode cX7_ring 55 = .ok (.iload 4, 2) := by decide +kernel
theorem dX7_ring_57 : decode cX7_ring 57 = .ok (.aload_n 0, 1) := by decide +kernel
theorem dX7_ring_58 : decode cX7_ring 58 = .ok (.getfield 12, 3) := by decide +kernel
theorem dX7_ring_61 : decode cX7_ring 61 = .ok (.getfield 83, 3) := by decide +kernel
theorem dX7_ring_64 : decode cX7_ring 64 = .ok (.if_icmp .ge 34, 3) := by decide +kernel
theorem dX7_ring_67 : decode cX7_ring 67 = .ok (.iload_n 3, 1) := by decide +kernel
theorem dX7_ring_68 : decode cX7_ring 68 = .ok (.iconst 1, 1) := by decide +kernel
theorem dX7_ring_69 : decode cX7_ring 69 = .ok (.iload_n 2, 1) := by decide +kernel
theorem dX7_ring_70 : decode cX7_ring 70 = .ok (.ishl, 1) := by decide +kernel
theorem dX7_ring_71 : decode cX7_ring 71 = .ok (.ior, 1) := by decide +kernel
theorem dX7_ring_72 : decode cX7_ring 72 = .ok (.istore_n 3, 1) := by decide +kernel
theorem dX7_ring_73 : decode cX7_ring 73 = .ok (.aload_n 0, 1) := by decide +kernel
theorem dX7_ring_74 : decode cX7_ring 74 = .ok (.getfield 12, 3) := by decide +kernel
theorem dX7_ring_77 : decode cX7_ring 77 = .ok (.iload_n 2, 1) := by decide +kernel
theorem dX7_ring_78 : decode cX7_ring 78 = .ok (.iconst 0, 1) := by decide +kernel
theorem dX7_ring_79 : decode cX7_ring 79 = .ok (.invokevirtual 116, 3) := by decide +kernel
theorem dX7_ring_82 : decode cX7_ring 82 = .ok (.istore_n 2, 1) := by decide +kernel
theorem dX7_ring_83 : decode cX7_ring 83 = .ok (.iload_n 2, 1) := by decide +kernel
theorem dX7_ring_84 : decode cX7_ring 84 = .ok (.bipush (-9), 2) := by decide +kernel
theorem dX7_ring_86 : decode cX7_ring 86 = .ok (.if_icmp .ne 6, 3) := by decide +kernel
theorem dX7_ring_89 : decode cX7_ring 89 = .ok (.bipush (-9), 2) := by decide +kernel
theorem dX7_ring_91 : decode cX7_ring 91 = .ok (.ireturn, 1) := by decide +kernel
theorem dX7_ring_92 : decode cX7_ring 92 = .ok (.iinc 4 1, 3) := by decide +kernel
theorem dX7_ring_95 : decode cX7_ring 95 = .ok (.goto (-40), 3) := by decide +kernel
theorem dX7_ring_98 : decode cX7_ring 98 = .ok (.iload_n 3, 1) := by decide +kernel
theorem dX7_ring_99 : decode cX7_ring 99 = .ok (.ireturn, 1) := by decide +kernel
set_option maxRecDepth 20000 in
theorem ggX7_walk_X7_isPerson : GoodIn wsX7_walk wsX7_isPerson := goodIn_r _ [7, 8, 101, 102, 103, 104, 105, 106, 107, 108, 109, 110, 111, 112, 113, 114] (by decide +kernel) (by decide +kernel)
set_option maxRecDepth 20000 in
theorem gX7_walk_X7_isPerson : GoodIn wsX7_walk (wsV RX7 86 RX7 yX7_isPerson wsX7_isPerson) := goodIn_app (goodIn_of _ (by decide +kernel)) ggX7_walk_X7_isPerson
set_option maxRecDepth 20000 in
theorem ggX7_walk_X7_isSheet : GoodIn wsX7_walk wsX7_isSheet := goodIn_r _ [11] (by decide +kernel) (by decide +kernel)
set_option maxRecDepth 20000 in
theorem gX7_walk_X7_isSheet : GoodIn wsX7_walk (va_wsS RX7 49 yX7_isSheet wsX7_isSheet) := goodIn_app (goodIn_of _ (by decide +kernel)) ggX7_walk_X7_isSheet
set_option maxRecDepth 20000 in
theorem ggX7_walk_X7_isWithin : GoodIn wsX7_walk wsX7_isWithin := goodIn_r _ [14] (by decide +kernel) (by decide +kernel)
set_option maxRecDepth 20000 in
theorem gX7_walk_X7_isWithin : GoodIn wsX7_walk (va_wsS RX7 53 yX7_isWithin wsX7_isWithin) := goodIn_app (goodIn_of _ (by decide +kernel)) ggX7_walk_X7_isWithin
set_option maxRecDepth 20000 in
theorem ggX7_walk_X4_isOfLane : GoodIn wsX7_walk wsX4_isOfLane := goodIn_r _ [19, 20, 21, 22, 23, 18, 24, 25, 115, 116, 117] (by decide +kernel) (by decide +kernel)
set_option maxRecDepth 20000 in
theorem gX7_walk_X4_isOfLane : GoodIn wsX7_walk (wsV RX7 57 RX4 yX4_isOfLane wsX4_isOfLane) := goodIn_app (goodIn_of _ (by decide +kernel)) ggX7_walk_X4_isOfLane
set_option maxRecDepth 20000 in
theorem ggX7_walk_X7_faulted : GoodIn wsX7_walk wsX7_faulted := goodIn_r _ [29, 1, 101, 102, 103, 104, 105, 106, 107] (by decide +kernel) (by decide +kernel)
set_option maxRecDepth 20000 in
theorem gX7_walk_X7_faulted : GoodIn wsX7_walk (wsV RX7 60 RX7 yX7_faulted wsX7_faulted) := goodIn_app (goodIn_of _ (by decide +kernel)) ggX7_walk_X7_faulted
set_option maxRecDepth 20000 in
theorem ggX7_walk_X4_hasNothing : GoodIn wsX7_walk wsX4_hasNothing := goodIn_r _ [24, 25, 115, 116, 117] (by decide +kernel) (by decide +kernel)
set_option maxRecDepth 20000 in
theorem gX7_walk_X4_hasNothing : GoodIn wsX7_walk (wsV RX7 64 RX4 yX4_hasNothing wsX4_hasNothing) := goodIn_app (goodIn_of _ (by decide +kernel)) ggX7_walk_X4_hasNothing
set_option maxRecDepth 20000 in
theorem ggX7_walk_X4_hasCells : GoodIn wsX7_walk wsX4_hasCells := goodIn_r _ [34, 25, 115, 116, 117] (by decide +kernel) (by decide +kernel)
set_option maxRecDepth 20000 in
theorem gX7_walk_X4_hasCells : GoodIn wsX7_walk (wsV RX7 68 RX4 yX4_hasCells wsX4_hasCells) := goodIn_app (goodIn_of _ (by decide +kernel)) ggX7_walk_X4_hasCells
set_option maxRecDepth 20000 in
theorem ggX7_walk_X4_valueAt : GoodIn wsX7_walk wsX4_valueAt := goodIn_r _ [38, 39, 40, 41, 42, 18, 43, 25, 115, 116, 117] (by decide +kernel) (by decide +kernel)
set_option maxRecDepth 20000 in
theorem gX7_walk_X4_valueAt : GoodIn wsX7_walk (wsV RX7 126 RX4 yX4_valueAt wsX4_valueAt) := goodIn_app (goodIn_of _ (by decide +kernel)) ggX7_walk_X4_valueAt
set_option maxRecDepth 20000 in
theorem ggX7_walk_X7_stepsAlong : GoodIn wsX7_walk wsX7_stepsAlong := goodIn_r _ [46, 47, 48, 49, 50, 35, 36, 37, 18, 38, 39, 40, 41, 42, 43, 25, 115, 116, 117] (by decide +kernel) (by decide +kernel)
set_option maxRecDepth 20000 in
theorem gX7_walk_X7_stepsAlong : GoodIn wsX7_walk (va_wsS RX7 129 yX7_stepsAlong wsX7_stepsAlong) := goodIn_app (goodIn_of _ (by decide +kernel)) ggX7_walk_X7_stepsAlong
set_option maxRecDepth 20000 in
theorem ggX7_walk_X7_lampsLeft : GoodIn wsX7_walk wsX7_lampsLeft := goodIn_r _ [54, 8, 55, 56, 57, 58, 59, 60, 61, 62, 63, 64, 65, 66, 67, 68, 69, 70, 71, 72, 73, 74, 75, 76, 77, 78, 79, 80, 81, 82, 83, 84, 85, 86, 87, 88, 89, 90, 91, 92, 93, 94, 95, 96, 35, 36, 37, 18, 38, 39, 40, 41, 42, 43, 25, 101, 102, 103, 104, 105, 106, 107, 108, 109, 110, 111, 112, 113, 114, 115, 116, 117] (by decide +kernel) (by decide +kernel)
set_option maxRecDepth 20000 in
theorem gX7_walk_X7_lampsLeft : GoodIn wsX7_walk (wsV RX7 133 RX7 yX7_lampsLeft wsX7_lampsLeft) := goodIn_app (goodIn_of _ (by decide +kernel)) ggX7_walk_X7_lampsLeft
set_option maxRecDepth 20000 in
theorem ggX7_walk_X7_doorsTillRoundIsDone : GoodIn wsX7_walk wsX7_doorsTillRoundIsDone := goodIn_r _ [100, 8, 55, 56, 57, 58, 59, 60, 61, 62, 63, 64, 65, 66, 67, 68, 69, 70, 71, 72, 73, 74, 75, 76, 77, 78, 79, 80, 81, 82, 83, 84, 85, 86, 87, 88, 89, 90, 91, 92, 93, 94, 95, 96, 35, 36, 37, 18, 38, 39, 40, 41, 42, 43, 25, 101, 102, 103, 104, 105, 106, 107, 108, 109, 110, 111, 112, 113, 114, 115, 116, 117] (by decide +kernel) (by decide +kernel)
set_option maxRecDepth 20000 in
theorem gX7_walk_X7_doorsTillRoundIsDone : GoodIn wsX7_walk (wsV RX7 136 RX7 yX7_doorsTillRoundIsDone wsX7_doorsTillRoundIsDone) := goodIn_app (goodIn_of _ (by decide +kernel)) ggX7_walk_X7_doorsTillRoundIsDone
theorem dX7_walk_0 : decode cX7_walk 0 = .ok (.aload_n 0, 1) := by decide +kernel
theorem dX7_walk_1 : decode cX7_walk 1 = .ok (.iconst 0, 1) := by decide +kernel
theorem dX7_walk_2 : decode cX7_walk 2 = .ok (.putfield 45, 3) := by decide +kernel
theorem dX7_walk_5 : decode cX7_walk 5 = .ok (.aload_n 0, 1) := by decide +kernel
theorem dX7_walk_6 : decode cX7_walk 6 = .ok (.iload_n 1, 1) := by decide +kernel
theorem dX7_walk_7 : decode cX7_walk 7 = .ok (.invokevirtual 86, 3) := by decide +kernel
theorem dX7_walk_10 : decode cX7_walk 10 = .ok (.ifCond .eq 10, 3) := by decide +kernel
theorem dX7_walk_13 : decode cX7_walk 13 = .ok (.iload_n 2, 1) := by decide +kernel
theorem dX7_walk_14 : decode cX7_walk 14 = .ok (.invokestatic 49, 3) := by decide +kernel
theorem dX7_walk_17 : decode cX7_walk 17 = .ok (.ifCond .ne 5, 3) := by decide +kernel
theorem dX7_walk_20 : decode cX7_walk 20 = .ok (.iconst (-1), 1) := by decide +kernel
theorem dX7_walk_21 : decode cX7_walk 21 = .ok (.ireturn, 1) := by decide +kernel
theorem dX7_walk_22 : decode cX7_walk 22 = .ok (.iload_n 3, 1) := by decide +kernel
theorem dX7_walk_23 : decode cX7_walk 23 = .ok (.iconst 2, 1) := by decide +kernel
theorem dX7_walk_24 : decode cX7_walk 24 = .ok (.invokestatic 53, 3) := by decide +kernel
theorem dX7_walk_27 : decode cX7_walk 27 = .ok (.ifCond .eq 22, 3) := by decide +kernel
theorem dX7_walk_30 : decode cX7_walk 30 = .ok (.iload 5, 2) := by decide +kernel
theorem dX7_walk_32 : decode cX7_walk 32 = .ok (.bipush 20, 2) := by decide +kernel
theorem dX7_walk_34 : decode cX7_walk 34 = .ok (.invokestatic 53, 3) := by decide +kernel
theorem dX7_walk_37 : decode cX7_walk 37 = .ok (.ifCond .eq 12, 3) := by decide +kernel
theorem dX7_walk_40 : decode cX7_walk 40 = .ok (.iload 6, 2) := by decide +kernel
theorem dX7_walk_42 : decode cX7_walk 42 = .ok (.iconst 2, 1) := by decide +kernel
theorem dX7_walk_43 : decode cX7_walk 43 = .ok (.invokestatic 53, 3) := by decide +kernel
theorem dX7_walk_46 : decode cX7_walk 46 = .ok (.ifCond .ne 6, 3) := by decide +kernel
theorem dX7_walk_49 : decode cX7_walk 49 = .ok (.bipush (-2), 2) := by decide +kernel
theorem dX7_walk_51 : decode cX7_walk 51 = .ok (.ireturn, 1) := by decide +kernel
theorem dX7_walk_52 : decode cX7_walk 52 = .ok (.aload_n 0, 1) := by decide +kernel
theorem dX7_walk_53 : decode cX7_walk 53 = .ok (.getfield 41, 3) := by decide +kernel
theorem dX7_walk_56 : decode cX7_walk 56 = .ok (.iload_n 2, 1) := by decide +kernel
theorem dX7_walk_57 : decode cX7_walk 57 = .ok (.aaload, 1) := by decide +kernel
theorem dX7_walk_58 : decode cX7_walk 58 = .ok (.astore 7, 2) := by decide +kernel
theorem dX7_walk_60 : decode cX7_walk 60 = .ok (.aload 7, 2) := by decide +kernel
theorem dX7_walk_62 : decode cX7_walk 62 = .ok (.iload_n 3, 1) := by decide +kernel
theorem dX7_walk_63 : decode cX7_walk 63 = .ok (.invokevirtual 57, 3) := by decide +kernel
theorem dX7_walk_66 : decode cX7_walk 66 = .ok (.ifCond .ne 9, 3) := by decide +kernel
theorem dX7_walk_69 : decode cX7_walk 69 = .ok (.aload_n 0, 1) := by decide +kernel
theorem dX7_walk_70 : decode cX7_walk 70 = .ok (.iconst 2, 1) := by decide +kernel
theorem dX7_walk_71 : decode cX7_walk 71 = .ok (.invokevirtual 60, 3) := by decide +kernel
theorem dX7_walk_74 : decode cX7_walk 74 = .ok (.ireturn, 1) := by decide +kernel
theorem dX7_walk_75 : decode cX7_walk 75 = .ok (.aload 7, 2) := by decide +kernel
theorem dX7_walk_77 : decode cX7_walk 77 = .ok (.invokevirtual 64, 3) := by decide +kernel
theorem dX7_walk_80 : decode cX7_walk 80 = .ok (.ifCond .eq 9, 3) := by decide +kernel
theorem dX7_walk_83 : decode cX7_walk 83 = .ok (.aload_n 0, 1) := by decide +kernel
theorem dX7_walk_84 : decode cX7_walk 84 = .ok (.iconst 1, 1) := by decide +kernel
theorem dX7_walk_85 : decode cX7_walk 85 = .ok (.invokevirtual 60, 3) := by decide +kernel
theorem dX7_walk_88 : decode cX7_walk 88 = .ok (.ireturn, 1) := by decide +kernel
theorem dX7_walk_89 : decode cX7_walk 89 = .ok (.aload 7, 2) := by decide +kernel
theorem dX7_walk_91 : decode cX7_walk 91 = .ok (.iload 4, 2) := by decide +kernel
theorem dX7_walk_93 : decode cX7_walk 93 = .ok (.iload 5, 2) := by decide +kernel
theorem dX7_walk_95 : decode cX7_walk 95 = .ok (.invokevirtual 68, 3) := by decide +kernel
theorem dX7_walk_98 : decode cX7_walk 98 = .ok (.ifCond .ne 9, 3) := by decide +kernel
theorem dX7_walk_101 : decode cX7_walk 101 = .ok (.aload_n 0, 1) := by decide +kernel
theorem dX7_walk_102 : decode cX7_walk 102 = .ok (.iconst 3, 1) := by decide +kernel
theorem dX7_walk_103 : decode cX7_walk 103 = .ok (.invokevirtual 60, 3) := by decide +kernel
theorem dX7_walk_106 : decode cX7_walk 106 = .ok (.ireturn, 1) := by decide +kernel
theorem dX7_walk_107 : decode cX7_walk 107 = .ok (.iconst 0, 1) := by decide +kernel
theorem dX7_walk_108 : decode cX7_walk 108 = .ok (.istore 8, 2) := by decide +kernel
theorem dX7_walk_110 : decode cX7_walk 110 = .ok (.iload 8, 2) := by decide +kernel
theorem dX7_walk_112 : decode cX7_walk 112 = .ok (.iload 5, 2) := by decide +kernel
theorem dX7_walk_114 : decode cX7_walk 114 = .ok (.if_icmp .ge 28, 3) := by decide +kernel
theorem dX7_walk_117 : decode cX7_walk 117 = .ok (.aload_n 0, 1) := by decide +kernel
theorem dX7_walk_118 : decode cX7_walk 118 = .ok (.aload 7, 2) := by decide +kernel
theorem dX7_walk_120 : decode cX7_walk 120 = .ok (.iload 4, 2) := by decide +kernel
theorem dX7_walk_122 : decode cX7_walk 122 = .ok (.iload 8, 2) := by decide +kernel
theorem dX7_walk_124 : decode cX7_walk 124 = .ok (.iadd, 1) := by decide +kernel
theorem dX7_walk_125 : decode cX7_walk 125 = .ok (.invokevirtual 126, 3) := by decide +kernel
theorem dX7_walk_128 : decode cX7_walk 128 = .ok (.invokevirtual 86, 3) := by decide +kernel
theorem dX7_walk_131 : decode cX7_walk 131 = .ok (.ifCond .ne 5, 3) := by decide +kernel
theorem dX7_walk_134 : decode cX7_walk 134 = .ok (.iconst (-1), 1) := by decide +kernel
theorem dX7_walk_135 : decode cX7_walk 135 = .ok (.ireturn, 1) := by decide +kernel
theorem dX7_walk_136 : decode cX7_walk 136 = .ok (.iinc 8 1, 3) := by decide +kernel
theorem dX7_walk_139 : decode cX7_walk 139 = .ok (.goto (-29), 3) := by decide +kernel
theorem dX7_walk_142 : decode cX7_walk 142 = .ok (.iload 6, 2) := by decide +kernel
theorem dX7_walk_144 : decode cX7_walk 144 = .ok (.ifCond .ne 14, 3) := by decide +kernel
theorem dX7_walk_147 : decode cX7_walk 147 = .ok (.iload_n 1, 1) := by decide +kernel
theorem dX7_walk_148 : decode cX7_walk 148 = .ok (.aload 7, 2) := by decide +kernel
theorem dX7_walk_150 : decode cX7_walk 150 = .ok (.iload 4, 2) := by decide +kernel
theorem dX7_walk_152 : decode cX7_walk 152 = .ok (.iload 5, 2) := by decide +kernel
theorem dX7_walk_154 : decode cX7_walk 154 = .ok (.invokestatic 129, 3) := by decide +kernel
theorem dX7_walk_157 : decode cX7_walk 157 = .ok (.ireturn, 1) := by decide +kernel
theorem dX7_walk_158 : decode cX7_walk 158 = .ok (.iload 6, 2) := by decide +kernel
theorem dX7_walk_160 : decode cX7_walk 160 = .ok (.iconst 1, 1) := by decide +kernel
theorem dX7_walk_161 : decode cX7_walk 161 = .ok (.if_icmp .ne 15, 3) := by decide +kernel
theorem dX7_walk_164 : decode cX7_walk 164 = .ok (.aload_n 0, 1) := by decide +kernel
theorem dX7_walk_165 : decode cX7_walk 165 = .ok (.iload_n 1, 1) := by decide +kernel
theorem dX7_walk_166 : decode cX7_walk 166 = .ok (.aload 7, 2) := by decide +kernel
theorem dX7_walk_168 : decode cX7_walk 168 = .ok (.iload 4, 2) := by decide +kernel
theorem dX7_walk_170 : decode cX7_walk 170 = .ok (.iload 5, 2) := by decide +kernel
theorem dX7_walk_172 : decode cX7_walk 172 = .ok (.invokevirtual 133, 3) := by decide +kernel
theorem dX7_walk_175 : decode cX7_walk 175 = .ok (.ireturn, 1) := by decide +kernel
theorem dX7_walk_176 : decode cX7_walk 176 = .ok (.aload_n 0, 1) := by decide +kernel
theorem dX7_walk_177 : decode cX7_walk 177 = .ok (.iload_n 1, 1) := by decide +kernel
theorem dX7_walk_178 : decode cX7_walk 178 = .ok (.aload 7, 2) := by decide +kernel
theorem dX7_walk_180 : decode cX7_walk 180 = .ok (.iload 4, 2) := by decide +kernel
theorem dX7_walk_182 : decode cX7_walk 182 = .ok (.iload 5, 2) := by decide +kernel
theorem dX7_walk_184 : decode cX7_walk 184 = .ok (.invokevirtual 136, 3) := by decide +kernel
theorem dX7_walk_187 : decode cX7_walk 187 = .ok (.ireturn, 1) := by decide +kernel
set_option maxRecDepth 20000 in
theorem ggX7_stepsAlong_X4_valueAt : GoodIn wsX7_stepsAlong wsX4_valueAt := goodIn_r _ [9, 10, 11, 12, 13, 8, 14, 15, 16, 17, 18] (by decide +kernel) (by decide +kernel)
set_option maxRecDepth 20000 in
theorem gX7_stepsAlong_X4_valueAt : GoodIn wsX7_stepsAlong (wsV RX7 126 RX4 yX4_valueAt wsX4_valueAt) := goodIn_app (goodIn_of _ (by decide +kernel)) ggX7_stepsAlong_X4_valueAt
theorem dX7_stepsAlong_0 : decode cX7_stepsAlong 0 = .ok (.iconst 0, 1) := by decide +kernel
theorem dX7_stepsAlong_1 : decode cX7_stepsAlong 1 = .ok (.istore 4, 2) := by decide +kernel
theorem dX7_stepsAlong_3 : decode cX7_stepsAlong 3 = .ok (.iload_n 0, 1) := by decide +kernel
theorem dX7_stepsAlong_4 : decode cX7_stepsAlong 4 = .ok (.istore 5, 2) := by decide +kernel
theorem dX7_stepsAlong_6 : decode cX7_stepsAlong 6 = .ok (.iconst 0, 1) := by decide +kernel
theorem dX7_stepsAlong_7 : decode cX7_stepsAlong 7 = .ok (.istore 6, 2) := by decide +kernel
theorem dX7_stepsAlong_9 : decode cX7_stepsAlong 9 = .ok (.iload 6, 2) := by decide +kernel
theorem dX7_stepsAlong_11 : decode cX7_stepsAlong 11 = .ok (.iload_n 3, 1) := by decide +kernel
theorem dX7_stepsAlong_12 : decode cX7_stepsAlong 12 = .ok (.if_icmp .ge 36, 3) := by decide +kernel
theorem dX7_stepsAlong_15 : decode cX7_stepsAlong 15 = .ok (.aload_n 1, 1) := by decide +kernel
theorem dX7_stepsAlong_16 : decode cX7_stepsAlong 16 = .ok (.iload_n 2, 1) := by decide +kernel
theorem dX7_stepsAlong_17 : decode cX7_stepsAlong 17 = .ok (.iload 6, 2) := by decide +kernel
theorem dX7_stepsAlong_19 : decode cX7_stepsAlong 19 = .ok (.iadd, 1) := by decide +kernel
theorem dX7_stepsAlong_20 : decode cX7_stepsAlong 20 = .ok (.invokevirtual 126, 3) := by decide +kernel
theorem dX7_stepsAlong_23 : decode cX7_stepsAlong 23 = .ok (.istore 7, 2) := by decide +kernel
theorem dX7_stepsAlong_25 : decode cX7_stepsAlong 25 = .ok (.iload 4, 2) := by decide +kernel
theorem dX7_stepsAlong_27 : decode cX7_stepsAlong 27 = .ok (.iload 7, 2) := by decide +kernel
theorem dX7_stepsAlong_29 : decode cX7_stepsAlong 29 = .ok (.iload 5, 2) := by decide +kernel
theorem dX7_stepsAlong_31 : decode cX7_stepsAlong 31 = .ok (.isub, 1) := by decide +kernel
theorem dX7_stepsAlong_32 : decode cX7_stepsAlong 32 = .ok (.invokestatic 139, 3) := by decide +kernel
theorem dX7_stepsAlong_35 : decode cX7_stepsAlong 35 = .ok (.iadd, 1) := by decide +kernel
theorem dX7_stepsAlong_36 : decode cX7_stepsAlong 36 = .ok (.istore 4, 2) := by decide +kernel
theorem dX7_stepsAlong_38 : decode cX7_stepsAlong 38 = .ok (.iload 7, 2) := by decide +kernel
theorem dX7_stepsAlong_40 : decode cX7_stepsAlong 40 = .ok (.istore 5, 2) := by decide +kernel
theorem dX7_stepsAlong_42 : decode cX7_stepsAlong 42 = .ok (.iinc 6 1, 3) := by decide +kernel
theorem dX7_stepsAlong_45 : decode cX7_stepsAlong 45 = .ok (.goto (-36), 3) := by decide +kernel
theorem dX7_stepsAlong_48 : decode cX7_stepsAlong 48 = .ok (.iload 4, 2) := by decide +kernel
theorem dX7_stepsAlong_50 : decode cX7_stepsAlong 50 = .ok (.ireturn, 1) := by decide +kernel
set_option maxRecDepth 20000 in
theorem ggX7_lampsLeft_X5_roundOf : GoodIn wsX7_lampsLeft wsX5_roundOf := goodIn_r _ [6, 7, 8, 9, 5, 10, 11, 12, 13, 14, 15, 16, 17, 18, 19, 20, 21, 22, 23, 24, 25, 26, 27, 28, 29, 30, 31, 32, 33, 34, 35, 36, 37, 38, 39, 40, 41, 42, 43, 62, 63, 64, 65, 66, 67, 68] (by decide +kernel) (by decide +kernel)
set_option maxRecDepth 20000 in
theorem gX7_lampsLeft_X5_roundOf : GoodIn wsX7_lampsLeft (wsV RX7 96 RX5 yX5_roundOf wsX5_roundOf) := goodIn_app (goodIn_of _ (by decide +kernel)) ggX7_lampsLeft_X5_roundOf
set_option maxRecDepth 20000 in
theorem ggX7_lampsLeft_X4_valueAt : GoodIn wsX7_lampsLeft wsX4_valueAt := goodIn_r _ [48, 49, 50, 51, 52, 47, 53, 54, 69, 70, 71] (by decide +kernel) (by decide +kernel)
set_option maxRecDepth 20000 in
theorem gX7_lampsLeft_X4_valueAt : GoodIn wsX7_lampsLeft (wsV RX7 126 RX4 yX4_valueAt wsX4_valueAt) := goodIn_app (goodIn_of _ (by decide +kernel)) ggX7_lampsLeft_X4_valueAt
theorem dX7_lampsLeft_0 : decode cX7_lampsLeft 0 = .ok (.aload_n 0, 1) := by decide +kernel
theorem dX7_lampsLeft_1 : decode cX7_lampsLeft 1 = .ok (.getfield 12, 3) := by decide +kernel
theorem dX7_lampsLeft_4 : decode cX7_lampsLeft 4 = .ok (.iload_n 1, 1) := by decide +kernel
theorem dX7_lampsLeft_5 : decode cX7_lampsLeft 5 = .ok (.invokevirtual 96, 3) := by decide +kernel
theorem dX7_lampsLeft_8 : decode cX7_lampsLeft 8 = .ok (.istore 5, 2) := by decide +kernel
theorem dX7_lampsLeft_10 : decode cX7_lampsLeft 10 = .ok (.iconst 0, 1) := by decide +kernel
theorem dX7_lampsLeft_11 : decode cX7_lampsLeft 11 = .ok (.istore 6, 2) := by decide +kernel
theorem dX7_lampsLeft_13 : decode cX7_lampsLeft 13 = .ok (.iload 6, 2) := by decide +kernel
theorem dX7_lampsLeft_15 : decode cX7_lampsLeft 15 = .ok (.iload 4, 2) := by decide +kernel
theorem dX7_lampsLeft_17 : decode cX7_lampsLeft 17 = .ok (.if_icmp .ge 26, 3) := by decide +kernel
theorem dX7_lampsLeft_20 : decode cX7_lampsLeft 20 = .ok (.iload 5, 2) := by decide +kernel
theorem dX7_lampsLeft_22 : decode cX7_lampsLeft 22 = .ok (.iconst 1, 1) := by decide +kernel
theorem dX7_lampsLeft_23 : decode cX7_lampsLeft 23 = .ok (.aload_n 2, 1) := by decide +kernel
theorem dX7_lampsLeft_24 : decode cX7_lampsLeft 24 = .ok (.iload_n 3, 1) := by decide +kernel
theorem dX7_lampsLeft_25 : decode cX7_lampsLeft 25 = .ok (.iload 6, 2) := by decide +kernel
theorem dX7_lampsLeft_27 : decode cX7_lampsLeft 27 = .ok (.iadd, 1) := by decide +kernel
theorem dX7_lampsLeft_28 : decode cX7_lampsLeft 28 = .ok (.invokevirtual 126, 3) := by decide +kernel
theorem dX7_lampsLeft_31 : decode cX7_lampsLeft 31 = .ok (.ishl, 1) := by decide +kernel
theorem dX7_lampsLeft_32 : decode cX7_lampsLeft 32 = .ok (.iconst (-1), 1) := by decide +kernel
theorem dX7_lampsLeft_33 : decode cX7_lampsLeft 33 = .ok (.ixor, 1) := by decide +kernel
theorem dX7_lampsLeft_34 : decode cX7_lampsLeft 34 = .ok (.iand, 1) := by decide +kernel
theorem dX7_lampsLeft_35 : decode cX7_lampsLeft 35 = .ok (.istore 5, 2) := by decide +kernel
theorem dX7_lampsLeft_37 : decode cX7_lampsLeft 37 = .ok (.iinc 6 1, 3) := by decide +kernel
theorem dX7_lampsLeft_40 : decode cX7_lampsLeft 40 = .ok (.goto (-27), 3) := by decide +kernel
theorem dX7_lampsLeft_43 : decode cX7_lampsLeft 43 = .ok (.iload 5, 2) := by decide +kernel
theorem dX7_lampsLeft_45 : decode cX7_lampsLeft 45 = .ok (.ireturn, 1) := by decide +kernel
set_option maxRecDepth 20000 in
theorem ggX7_doorsTillRoundIsDone_X5_roundOf : GoodIn wsX7_doorsTillRoundIsDone wsX5_roundOf := goodIn_r _ [6, 7, 8, 9, 5, 10, 11, 12, 13, 14, 15, 16, 17, 18, 19, 20, 21, 22, 23, 24, 25, 26, 27, 28, 29, 30, 31, 32, 33, 34, 35, 36, 37, 38, 39, 40, 41, 42, 43, 62, 63, 64, 65, 66, 67, 68] (by decide +kernel) (by decide +kernel)
set_option maxRecDepth 20000 in
theorem gX7_doorsTillRoundIsDone_X5_roundOf : GoodIn wsX7_doorsTillRoundIsDone (wsV RX7 96 RX5 yX5_roundOf wsX5_roundOf) := goodIn_app (goodIn_of _ (by decide +kernel)) ggX7_doorsTillRoundIsDone_X5_roundOf
set_option maxRecDepth 20000 in
theorem ggX7_doorsTillRoundIsDone_X4_valueAt : GoodIn wsX7_doorsTillRoundIsDone wsX4_valueAt := goodIn_r _ [48, 49, 50, 51, 52, 47, 53, 54, 69, 70, 71] (by decide +kernel) (by decide +kernel)
set_option maxRecDepth 20000 in
theorem gX7_doorsTillRoundIsDone_X4_valueAt : GoodIn wsX7_doorsTillRoundIsDone (wsV RX7 126 RX4 yX4_valueAt wsX4_valueAt) := goodIn_app (goodIn_of _ (by decide +kernel)) ggX7_doorsTillRoundIsDone_X4_valueAt
theorem dX7_doorsTillRoundIsDone_0 : decode cX7_doorsTillRoundIsDone 0 = .ok (.aload_n 0, 1) := by decide +kernel
theorem dX7_doorsTillRoundIsDone_1 : decode cX7_doorsTillRoundIsDone 1 = .ok (.getfield 12, 3) := by decide +kernel
theorem dX7_doorsTillRoundIsDone_4 : decode cX7_doorsTillRoundIsDone 4 = .ok (.iload_n 1, 1) := by decide +kernel
theorem dX7_doorsTillRoundIsDone_5 : decode cX7_doorsTillRoundIsDone 5 = .ok (.invokevirtual 96, 3) := by decide +kernel
theorem dX7_doorsTillRoundIsDone_8 : decode cX7_doorsTillRoundIsDone 8 = .ok (.istore 5, 2) := by decide +kernel
theorem dX7_doorsTillRoundIsDone_10 : decode cX7_doorsTillRoundIsDone 10 = .ok (.iconst 0, 1) := by decide +kernel
theorem dX7_doorsTillRoundIsDone_11 : decode cX7_doorsTillRoundIsDone 11 = .ok (.istore 6, 2) := by decide +kernel
theorem dX7_doorsTillRoundIsDone_13 : decode cX7_doorsTillRoundIsDone 13 = .ok (.iload 6, 2) := by decide +kernel
theorem dX7_doorsTillRoundIsDone_15 : decode cX7_doorsTillRoundIsDone 15 = .ok (.iload 4, 2) := by decide +kernel
theorem dX7_doorsTillRoundIsDone_17 : decode cX7_doorsTillRoundIsDone 17 = .ok (.if_icmp .ge 34, 3) := by decide +kernel
theorem dX7_doorsTillRoundIsDone_20 : decode cX7_doorsTillRoundIsDone 20 = .ok (.iload 5, 2) := by decide +kernel
theorem dX7_doorsTillRoundIsDone_22 : decode cX7_doorsTillRoundIsDone 22 = .ok (.ifCond .ne 6, 3) := by decide +kernel
theorem dX7_doorsTillRoundIsDone_25 : decode cX7_doorsTillRoundIsDone 25 = .ok (.iload 6, 2) := by decide +kernel
theorem dX7_doorsTillRoundIsDone_27 : decode cX7_doorsTillRoundIsDone 27 = .ok (.ireturn, 1) := by decide +kernel
theorem dX7_doorsTillRoundIsDone_28 : decode cX7_doorsTillRoundIsDone 28 = .ok (.iload 5, 2) := by decide +kernel
theorem dX7_doorsTillRoundIsDone_30 : decode cX7_doorsTillRoundIsDone 30 = .ok (.iconst 1, 1) := by decide +kernel
theorem dX7_doorsTillRoundIsDone_31 : decode cX7_doorsTillRoundIsDone 31 = .ok (.aload_n 2, 1) := by decide +kernel
theorem dX7_doorsTillRoundIsDone_32 : decode cX7_doorsTillRoundIsDone 32 = .ok (.iload_n 3, 1) := by decide +kernel
theorem dX7_doorsTillRoundIsDone_33 : decode cX7_doorsTillRoundIsDone 33 = .ok (.iload 6, 2) := by decide +kernel
theorem dX7_doorsTillRoundIsDone_35 : decode cX7_doorsTillRoundIsDone 35 = .ok (.iadd, 1) := by decide +kernel
theorem dX7_doorsTillRoundIsDone_36 : decode cX7_doorsTillRoundIsDone 36 = .ok (.invokevirtual 126, 3) := by decide +kernel
theorem dX7_doorsTillRoundIsDone_39 : decode cX7_doorsTillRoundIsDone 39 = .ok (.ishl, 1) := by decide +kernel
theorem dX7_doorsTillRoundIsDone_40 : decode cX7_doorsTillRoundIsDone 40 = .ok (.iconst (-1), 1) := by decide +kernel
theorem dX7_doorsTillRoundIsDone_41 : decode cX7_doorsTillRoundIsDone 41 = .ok (.ixor, 1) := by decide +kernel
theorem dX7_doorsTillRoundIsDone_42 : decode cX7_doorsTillRoundIsDone 42 = .ok (.iand, 1) := by decide +kernel
theorem dX7_doorsTillRoundIsDone_43 : decode cX7_doorsTillRoundIsDone 43 = .ok (.istore 5, 2) := by decide +kernel
theorem dX7_doorsTillRoundIsDone_45 : decode cX7_doorsTillRoundIsDone 45 = .ok (.iinc 6 1, 3) := by decide +kernel
theorem dX7_doorsTillRoundIsDone_48 : decode cX7_doorsTillRoundIsDone 48 = .ok (.goto (-35), 3) := by decide +kernel
theorem dX7_doorsTillRoundIsDone_51 : decode cX7_doorsTillRoundIsDone 51 = .ok (.iload 5, 2) := by decide +kernel
theorem dX7_doorsTillRoundIsDone_53 : decode cX7_doorsTillRoundIsDone 53 = .ok (.ifCond .ne 8, 3) := by decide +kernel
theorem dX7_doorsTillRoundIsDone_56 : decode cX7_doorsTillRoundIsDone 56 = .ok (.iload 4, 2) := by decide +kernel
theorem dX7_doorsTillRoundIsDone_58 : decode cX7_doorsTillRoundIsDone 58 = .ok (.goto 5, 3) := by decide +kernel
theorem dX7_doorsTillRoundIsDone_61 : decode cX7_doorsTillRoundIsDone 61 = .ok (.bipush (-9), 2) := by decide +kernel
theorem dX7_doorsTillRoundIsDone_63 : decode cX7_doorsTillRoundIsDone 63 = .ok (.ireturn, 1) := by decide +kernel
set_option maxRecDepth 20000 in
theorem ggX7_free_X7_isPerson : GoodIn wsX7_free wsX7_isPerson := goodIn_r _ [7, 2, 46, 47, 48, 49, 50, 51, 52, 53, 54, 55, 56, 57, 58, 59] (by decide +kernel) (by decide +kernel)
set_option maxRecDepth 20000 in
theorem gX7_free_X7_isPerson : GoodIn wsX7_free (wsV RX7 86 RX7 yX7_isPerson wsX7_isPerson) := goodIn_app (goodIn_of _ (by decide +kernel)) ggX7_free_X7_isPerson
set_option maxRecDepth 20000 in
theorem ggX7_free_X5_becomeLike : GoodIn wsX7_free wsX5_becomeLike := goodIn_r _ [12, 13, 14, 15, 16, 53, 54, 55, 56, 57, 58, 59] (by decide +kernel) (by decide +kernel)
set_option maxRecDepth 20000 in
theorem gX7_free_X5_becomeLike : GoodIn wsX7_free (wsV RX7 75 RX5 yX5_becomeLike wsX5_becomeLike) := goodIn_app (goodIn_of _ (by decide +kernel)) ggX7_free_X5_becomeLike
set_option maxRecDepth 20000 in
theorem ggX7_free_X5_payTillLighterOfNone : GoodIn wsX7_free wsX5_payTillLighterOfNone := goodIn_r _ [20, 13, 16, 21, 22, 23, 11, 24, 25, 26, 27, 28, 29, 15, 30, 31, 32, 33, 34, 35, 36, 37, 38, 39, 40, 41, 42, 43, 44, 45, 53, 54, 55, 56, 57, 58, 59] (by decide +kernel) (by decide +kernel)
set_option maxRecDepth 20000 in
theorem gX7_free_X5_payTillLighterOfNone : GoodIn wsX7_free (wsV RX7 144 RX5 yX5_payTillLighterOfNone wsX5_payTillLighterOfNone) := goodIn_app (goodIn_of _ (by decide +kernel)) ggX7_free_X5_payTillLighterOfNone
theorem dX7_free_0 : decode cX7_free 0 = .ok (.aload_n 0, 1) := by decide +kernel
theorem dX7_free_1 : decode cX7_free 1 = .ok (.iload_n 1, 1) := by decide +kernel
theorem dX7_free_2 : decode cX7_free 2 = .ok (.invokevirtual 86, 3) := by decide +kernel
theorem dX7_free_5 : decode cX7_free 5 = .ok (.ifCond .ne 5, 3) := by decide +kernel
theorem dX7_free_8 : decode cX7_free 8 = .ok (.iconst (-1), 1) := by decide +kernel
theorem dX7_free_9 : decode cX7_free 9 = .ok (.ireturn, 1) := by decide +kernel
theorem dX7_free_10 : decode cX7_free 10 = .ok (.aload_n 0, 1) := by decide +kernel
theorem dX7_free_11 : decode cX7_free 11 = .ok (.getfield 18, 3) := by decide +kernel
theorem dX7_free_14 : decode cX7_free 14 = .ok (.aload_n 0, 1) := by decide +kernel
theorem dX7_free_15 : decode cX7_free 15 = .ok (.getfield 12, 3) := by decide +kernel
theorem dX7_free_18 : decode cX7_free 18 = .ok (.invokevirtual 75, 3) := by decide +kernel
theorem dX7_free_21 : decode cX7_free 21 = .ok (.aload_n 0, 1) := by decide +kernel
theorem dX7_free_22 : decode cX7_free 22 = .ok (.getfield 18, 3) := by decide +kernel
theorem dX7_free_25 : decode cX7_free 25 = .ok (.iload_n 1, 1) := by decide +kernel
theorem dX7_free_26 : decode cX7_free 26 = .ok (.invokevirtual 144, 3) := by decide +kernel
theorem dX7_free_29 : decode cX7_free 29 = .ok (.ireturn, 1) := by decide +kernel
set_option maxRecDepth 20000 in
theorem ggX7_haste_X7_hasTown : GoodIn wsX7_haste wsX7_hasTown := goodIn_r _ [10, 1, 64, 65, 66, 67, 68, 69, 70, 71, 72, 73, 74, 75, 76, 77] (by decide +kernel) (by decide +kernel)
set_option maxRecDepth 20000 in
theorem gX7_haste_X7_hasTown : GoodIn wsX7_haste (wsV RX7 113 RX7 yX7_hasTown wsX7_hasTown) := goodIn_app (goodIn_of _ (by decide +kernel)) ggX7_haste_X7_hasTown
set_option maxRecDepth 20000 in
theorem ggX7_haste_X5_stepsOf : GoodIn wsX7_haste wsX5_stepsOf := goodIn_r _ [15, 16, 17, 18, 14, 19, 20, 21, 22, 23, 24, 25, 26, 27, 28, 29, 30, 31, 32, 33, 34, 35, 36, 37, 38, 39, 40, 41, 42, 43, 44, 45, 46, 47, 48, 49, 50, 51, 52, 53, 54, 55, 56, 57, 58, 59, 60, 3, 4, 5, 61, 62, 63, 71, 72, 73, 74, 75, 76, 77] (by decide +kernel) (by decide +kernel)
set_option maxRecDepth 20000 in
theorem gX7_haste_X5_stepsOf : GoodIn wsX7_haste (wsV RX7 99 RX5 yX5_stepsOf wsX5_stepsOf) := goodIn_app (goodIn_of _ (by decide +kernel)) ggX7_haste_X5_stepsOf
theorem dX7_haste_0 : decode cX7_haste 0 = .ok (.aload_n 0, 1) := by decide +kernel
theorem dX7_haste_1 : decode cX7_haste 1 = .ok (.invokevirtual 113, 3) := by decide +kernel
theorem dX7_haste_4 : decode cX7_haste 4 = .ok (.ifCond .ne 6, 3) := by decide +kernel
theorem dX7_haste_7 : decode cX7_haste 7 = .ok (.bipush (-3), 2) := by decide +kernel
theorem dX7_haste_9 : decode cX7_haste 9 = .ok (.ireturn, 1) := by decide +kernel
theorem dX7_haste_10 : decode cX7_haste 10 = .ok (.iconst 0, 1) := by decide +kernel
theorem dX7_haste_11 : decode cX7_haste 11 = .ok (.istore_n 1, 1) := by decide +kernel
theorem dX7_haste_12 : decode cX7_haste 12 = .ok (.iconst 0, 1) := by decide +kernel
theorem dX7_haste_13 : decode cX7_haste 13 = .ok (.istore_n 2, 1) := by decide +kernel
theorem dX7_haste_14 : decode cX7_haste 14 = .ok (.iload_n 2, 1) := by decide +kernel
theorem dX7_haste_15 : decode cX7_haste 15 = .ok (.aload_n 0, 1) := by decide +kernel
theorem dX7_haste_16 : decode cX7_haste 16 = .ok (.getfield 12, 3) := by decide +kernel
theorem dX7_haste_19 : decode cX7_haste 19 = .ok (.getfield 83, 3) := by decide +kernel
theorem dX7_haste_22 : decode cX7_haste 22 = .ok (.if_icmp .ge 22, 3) := by decide +kernel
theorem dX7_haste_25 : decode cX7_haste 25 = .ok (.iload_n 1, 1) := by decide +kernel
theorem dX7_haste_26 : decode cX7_haste 26 = .ok (.aload_n 0, 1) := by decide +kernel
theorem dX7_haste_27 : decode cX7_haste 27 = .ok (.getfield 12, 3) := by decide +kernel
theorem dX7_haste_30 : decode cX7_haste 30 = .ok (.iload_n 2, 1) := by decide +kernel
theorem dX7_haste_31 : decode cX7_haste 31 = .ok (.invokevirtual 99, 3) := by decide +kernel
theorem dX7_haste_34 : decode cX7_haste 34 = .ok (.invokestatic 147, 3) := by decide +kernel
theorem dX7_haste_37 : decode cX7_haste 37 = .ok (.istore_n 1, 1) := by decide +kernel
theorem dX7_haste_38 : decode cX7_haste 38 = .ok (.iinc 2 1, 3) := by decide +kernel
theorem dX7_haste_41 : decode cX7_haste 41 = .ok (.goto (-27), 3) := by decide +kernel
theorem dX7_haste_44 : decode cX7_haste 44 = .ok (.iload_n 1, 1) := by decide +kernel
theorem dX7_haste_45 : decode cX7_haste 45 = .ok (.ireturn, 1) := by decide +kernel
set_option maxRecDepth 20000 in
theorem ggX7_reading_X7_isPerson : GoodIn wsX7_reading wsX7_isPerson := goodIn_r _ [6, 7, 20, 21, 22, 23, 24, 25, 26, 31, 32, 33, 34, 35, 36, 37] (by decide +kernel) (by decide +kernel)
set_option maxRecDepth 20000 in
theorem gX7_reading_X7_isPerson : GoodIn wsX7_reading (wsV RX7 86 RX7 yX7_isPerson wsX7_isPerson) := goodIn_app (goodIn_of _ (by decide +kernel)) ggX7_reading_X7_isPerson
set_option maxRecDepth 20000 in
theorem ggX7_reading_X7_isWithin : GoodIn wsX7_reading wsX7_isWithin := goodIn_r _ [10] (by decide +kernel) (by decide +kernel)
set_option maxRecDepth 20000 in
theorem gX7_reading_X7_isWithin : GoodIn wsX7_reading (va_wsS RX7 53 yX7_isWithin wsX7_isWithin) := goodIn_app (goodIn_of _ (by decide +kernel)) ggX7_reading_X7_isWithin
set_option maxRecDepth 20000 in
theorem ggX7_reading_X2_add : GoodIn wsX7_reading wsX2_add := goodIn_r _ [15, 16, 17, 18, 19, 27, 28, 29, 30] (by decide +kernel) (by decide +kernel)
set_option maxRecDepth 20000 in
theorem gX7_reading_X2_add : GoodIn wsX7_reading (wsV RX7 153 RX2 yX2_add wsX2_add) := goodIn_app (goodIn_of _ (by decide +kernel)) ggX7_reading_X2_add
theorem dX7_reading_0 : decode cX7_reading 0 = .ok (.aload_n 0, 1) := by decide +kernel
theorem dX7_reading_1 : decode cX7_reading 1 = .ok (.iload_n 2, 1) := by decide +kernel
theorem dX7_reading_2 : decode cX7_reading 2 = .ok (.invokevirtual 86, 3) := by decide +kernel
theorem dX7_reading_5 : decode cX7_reading 5 = .ok (.ifCond .eq 17, 3) := by decide +kernel
theorem dX7_reading_8 : decode cX7_reading 8 = .ok (.aload_n 0, 1) := by decide +kernel
theorem dX7_reading_9 : decode cX7_reading 9 = .ok (.iload_n 3, 1) := by decide +kernel
theorem dX7_reading_10 : decode cX7_reading 10 = .ok (.invokevirtual 86, 3) := by decide +kernel
theorem dX7_reading_13 : decode cX7_reading 13 = .ok (.ifCond .ne 11, 3) := by decide +kernel
theorem dX7_reading_16 : decode cX7_reading 16 = .ok (.iload_n 3, 1) := by decide +kernel
theorem dX7_reading_17 : decode cX7_reading 17 = .ok (.bipush (-9), 2) := by decide +kernel
theorem dX7_reading_19 : decode cX7_reading 19 = .ok (.if_icmp .eq 5, 3) := by decide +kernel
theorem dX7_reading_22 : decode cX7_reading 22 = .ok (.iconst (-1), 1) := by decide +kernel
theorem dX7_reading_23 : decode cX7_reading 23 = .ok (.ireturn, 1) := by decide +kernel
theorem dX7_reading_24 : decode cX7_reading 24 = .ok (.iload_n 1, 1) := by decide +kernel
theorem dX7_reading_25 : decode cX7_reading 25 = .ok (.bipush 10, 2) := by decide +kernel
theorem dX7_reading_27 : decode cX7_reading 27 = .ok (.invokestatic 53, 3) := by decide +kernel
theorem dX7_reading_30 : decode cX7_reading 30 = .ok (.ifCond .ne 6, 3) := by decide +kernel
theorem dX7_reading_33 : decode cX7_reading 33 = .ok (.bipush (-2), 2) := by decide +kernel
theorem dX7_reading_35 : decode cX7_reading 35 = .ok (.ireturn, 1) := by decide +kernel
theorem dX7_reading_36 : decode cX7_reading 36 = .ok (.aload_n 0, 1) := by decide +kernel
theorem dX7_reading_37 : decode cX7_reading 37 = .ok (.getfield 34, 3) := by decide +kernel
theorem dX7_reading_40 : decode cX7_reading 40 = .ok (.getfield 150, 3) := by decide +kernel
theorem dX7_reading_43 : decode cX7_reading 43 = .ok (.bipush 8, 2) := by decide +kernel
theorem dX7_reading_45 : decode cX7_reading 45 = .ok (.if_icmp .lt 6, 3) := by decide +kernel
theorem dX7_reading_48 : decode cX7_reading 48 = .ok (.bipush (-4), 2) := by decide +kernel
theorem dX7_reading_50 : decode cX7_reading 50 = .ok (.ireturn, 1) := by decide +kernel
theorem dX7_reading_51 : decode cX7_reading 51 = .ok (.aload_n 0, 1) := by decide +kernel
theorem dX7_reading_52 : decode cX7_reading 52 = .ok (.getfield 34, 3) := by decide +kernel
theorem dX7_reading_55 : decode cX7_reading 55 = .ok (.iload_n 1, 1) := by decide +kernel
theorem dX7_reading_56 : decode cX7_reading 56 = .ok (.iload_n 2, 1) := by decide +kernel
theorem dX7_reading_57 : decode cX7_reading 57 = .ok (.iload_n 3, 1) := by decide +kernel
theorem dX7_reading_58 : decode cX7_reading 58 = .ok (.invokevirtual 153, 3) := by decide +kernel
theorem dX7_reading_61 : decode cX7_reading 61 = .ok (.ireturn, 1) := by decide +kernel
set_option maxRecDepth 20000 in
theorem ggX7_back_X7_isWithin : GoodIn wsX7_back wsX7_isWithin := goodIn_r _ [5] (by decide +kernel) (by decide +kernel)
set_option maxRecDepth 20000 in
theorem gX7_back_X7_isWithin : GoodIn wsX7_back (va_wsS RX7 53 yX7_isWithin wsX7_isWithin) := goodIn_app (goodIn_of _ (by decide +kernel)) ggX7_back_X7_isWithin
set_option maxRecDepth 20000 in
theorem ggX7_back_X2_keepFirst : GoodIn wsX7_back wsX2_keepFirst := goodIn_r _ [10, 11, 19, 20, 21, 22] (by decide +kernel) (by decide +kernel)
set_option maxRecDepth 20000 in
theorem gX7_back_X2_keepFirst : GoodIn wsX7_back (wsV RX7 79 RX2 yX2_keepFirst wsX2_keepFirst) := goodIn_app (goodIn_of _ (by decide +kernel)) ggX7_back_X2_keepFirst
theorem dX7_back_0 : decode cX7_back 0 = .ok (.iload_n 1, 1) := by decide +kernel
theorem dX7_back_1 : decode cX7_back 1 = .ok (.aload_n 0, 1) := by decide +kernel
theorem dX7_back_2 : decode cX7_back 2 = .ok (.getfield 34, 3) := by decide +kernel
theorem dX7_back_5 : decode cX7_back 5 = .ok (.getfield 150, 3) := by decide +kernel
theorem dX7_back_8 : decode cX7_back 8 = .ok (.invokestatic 53, 3) := by decide +kernel
theorem dX7_back_11 : decode cX7_back 11 = .ok (.ifCond .ne 6, 3) := by decide +kernel
theorem dX7_back_14 : decode cX7_back 14 = .ok (.bipush (-2), 2) := by decide +kernel
theorem dX7_back_16 : decode cX7_back 16 = .ok (.ireturn, 1) := by decide +kernel
theorem dX7_back_17 : decode cX7_back 17 = .ok (.aload_n 0, 1) := by decide +kernel
theorem dX7_back_18 : decode cX7_back 18 = .ok (.getfield 34, 3) := by decide +kernel
theorem dX7_back_21 : decode cX7_back 21 = .ok (.aload_n 0, 1) := by decide +kernel
theorem dX7_back_22 : decode cX7_back 22 = .ok (.getfield 34, 3) := by decide +kernel
theorem dX7_back_25 : decode cX7_back 25 = .ok (.getfield 150, 3) := by decide +kernel
theorem dX7_back_28 : decode cX7_back 28 = .ok (.iload_n 1, 1) := by decide +kernel
theorem dX7_back_29 : decode cX7_back 29 = .ok (.isub, 1) := by decide +kernel
theorem dX7_back_30 : decode cX7_back 30 = .ok (.invokevirtual 79, 3) := by decide +kernel
theorem dX7_back_33 : decode cX7_back 33 = .ok (.aload_n 0, 1) := by decide +kernel
theorem dX7_back_34 : decode cX7_back 34 = .ok (.getfield 34, 3) := by decide +kernel
theorem dX7_back_37 : decode cX7_back 37 = .ok (.getfield 150, 3) := by decide +kernel
theorem dX7_back_40 : decode cX7_back 40 = .ok (.ireturn, 1) := by decide +kernel
set_option maxRecDepth 20000 in
theorem ggX7_debts_X7_isPerson : GoodIn wsX7_debts wsX7_isPerson := goodIn_r _ [8, 2, 86, 87, 88, 89, 90, 91, 92, 93, 94, 95, 96, 97, 98, 99] (by decide +kernel) (by decide +kernel)
set_option maxRecDepth 20000 in
theorem gX7_debts_X7_isPerson : GoodIn wsX7_debts (wsV RX7 86 RX7 yX7_isPerson wsX7_isPerson) := goodIn_app (goodIn_of _ (by decide +kernel)) ggX7_debts_X7_isPerson
set_option maxRecDepth 20000 in
theorem ggX7_debts_X5_becomeLike : GoodIn wsX7_debts wsX5_becomeLike := goodIn_r _ [13, 14, 15, 16, 17, 93, 94, 95, 96, 97, 98, 99] (by decide +kernel) (by decide +kernel)
set_option maxRecDepth 20000 in
theorem gX7_debts_X5_becomeLike : GoodIn wsX7_debts (wsV RX7 75 RX5 yX5_becomeLike wsX5_becomeLike) := goodIn_app (goodIn_of _ (by decide +kernel)) ggX7_debts_X5_becomeLike
set_option maxRecDepth 20000 in
theorem ggX7_debts_X2_areSo : GoodIn wsX7_debts wsX2_areSo := goodIn_r _ [22, 23, 24, 25, 21, 26, 27, 28, 29, 30, 31, 32, 33, 34, 35, 12, 36, 14, 37, 15, 38, 17, 39, 40, 41, 42, 43, 44, 45, 46, 47, 48, 49, 50, 51, 52, 53, 54, 55, 16, 56, 57, 58, 59, 60, 61, 62, 63, 64, 65, 66, 67, 68, 69, 70, 71, 72, 73, 74, 75, 76, 77, 78, 79, 80, 81, 82, 83, 84, 85, 100, 101, 102, 103, 93, 94, 95, 96, 97, 98, 99] (by decide +kernel) (by decide +kernel)
set_option maxRecDepth 20000 in
theorem gX7_debts_X2_areSo : GoodIn wsX7_debts (wsV RX7 157 RX2 yX2_areSo wsX2_areSo) := goodIn_app (goodIn_of _ (by decide +kernel)) ggX7_debts_X2_areSo
theorem dX7_debts_0 : decode cX7_debts 0 = .ok (.aload_n 0, 1) := by decide +kernel
theorem dX7_debts_1 : decode cX7_debts 1 = .ok (.iload_n 1, 1) := by decide +kernel
theorem dX7_debts_2 : decode cX7_debts 2 = .ok (.invokevirtual 86, 3) := by decide +kernel
theorem dX7_debts_5 : decode cX7_debts 5 = .ok (.ifCond .eq 16, 3) := by decide +kernel
theorem dX7_debts_8 : decode cX7_debts 8 = .ok (.aload_n 0, 1) := by decide +kernel
theorem dX7_debts_9 : decode cX7_debts 9 = .ok (.iload_n 2, 1) := by decide +kernel
theorem dX7_debts_10 : decode cX7_debts 10 = .ok (.invokevirtual 86, 3) := by decide +kernel
theorem dX7_debts_13 : decode cX7_debts 13 = .ok (.ifCond .eq 8, 3) := by decide +kernel
theorem dX7_debts_16 : decode cX7_debts 16 = .ok (.iload_n 1, 1) := by decide +kernel
theorem dX7_debts_17 : decode cX7_debts 17 = .ok (.iload_n 2, 1) := by decide +kernel
theorem dX7_debts_18 : decode cX7_debts 18 = .ok (.if_icmp .ne 5, 3) := by decide +kernel
theorem dX7_debts_21 : decode cX7_debts 21 = .ok (.iconst (-1), 1) := by decide +kernel
theorem dX7_debts_22 : decode cX7_debts 22 = .ok (.ireturn, 1) := by decide +kernel
theorem dX7_debts_23 : decode cX7_debts 23 = .ok (.iconst 0, 1) := by decide +kernel
theorem dX7_debts_24 : decode cX7_debts 24 = .ok (.istore_n 3, 1) := by decide +kernel
theorem dX7_debts_25 : decode cX7_debts 25 = .ok (.iconst 0, 1) := by decide +kernel
theorem dX7_debts_26 : decode cX7_debts 26 = .ok (.istore 4, 2) := by decide +kernel
theorem dX7_debts_28 : decode cX7_debts 28 = .ok (.iload 4, 2) := by decide +kernel
theorem dX7_debts_30 : decode cX7_debts 30 = .ok (.bipush 9, 2) := by decide +kernel
theorem dX7_debts_32 : decode cX7_debts 32 = .ok (.if_icmp .gt 54, 3) := by decide +kernel
theorem dX7_debts_35 : decode cX7_debts 35 = .ok (.aload_n 0, 1) := by decide +kernel
theorem dX7_debts_36 : decode cX7_debts 36 = .ok (.getfield 18, 3) := by decide +kernel
theorem dX7_debts_39 : decode cX7_debts 39 = .ok (.aload_n 0, 1) := by decide +kernel
theorem dX7_debts_40 : decode cX7_debts 40 = .ok (.getfield 12, 3) := by decide +kernel
theorem dX7_debts_43 : decode cX7_debts 43 = .ok (.invokevirtual 75, 3) := by decide +kernel
theorem dX7_debts_46 : decode cX7_debts 46 = .ok (.aload_n 0, 1) := by decide +kernel
theorem dX7_debts_47 : decode cX7_debts 47 = .ok (.getfield 18, 3) := by decide +kernel
theorem dX7_debts_50 : decode cX7_debts 50 = .ok (.getfield 105, 3) := by decide +kernel
theorem dX7_debts_53 : decode cX7_debts 53 = .ok (.iload_n 1, 1) := by decide +kernel
theorem dX7_debts_54 : decode cX7_debts 54 = .ok (.aaload, 1) := by decide +kernel
theorem dX7_debts_55 : decode cX7_debts 55 = .ok (.iload_n 2, 1) := by decide +kernel
theorem dX7_debts_56 : decode cX7_debts 56 = .ok (.iload 4, 2) := by decide +kernel
theorem dX7_debts_58 : decode cX7_debts 58 = .ok (.iastore, 1) := by decide +kernel
theorem dX7_debts_59 : decode cX7_debts 59 = .ok (.aload_n 0, 1) := by decide +kernel
theorem dX7_debts_60 : decode cX7_debts 60 = .ok (.getfield 34, 3) := by decide +kernel
theorem dX7_debts_63 : decode cX7_debts 63 = .ok (.aload_n 0, 1) := by decide +kernel
theorem dX7_debts_64 : decode cX7_debts 64 = .ok (.getfield 18, 3) := by decide +kernel
theorem dX7_debts_67 : decode cX7_debts 67 = .ok (.invokevirtual 157, 3) := by decide +kernel
theorem dX7_debts_70 : decode cX7_debts 70 = .ok (.ifCond .eq 10, 3) := by decide +kernel
theorem dX7_debts_73 : decode cX7_debts 73 = .ok (.iload_n 3, 1) := by decide +kernel
theorem dX7_debts_74 : decode cX7_debts 74 = .ok (.iconst 1, 1) := by decide +kernel
theorem dX7_debts_75 : decode cX7_debts 75 = .ok (.iload 4, 2) := by decide +kernel
theorem dX7_debts_77 : decode cX7_debts 77 = .ok (.ishl, 1) := by decide +kernel
theorem dX7_debts_78 : decode cX7_debts 78 = .ok (.ior, 1) := by decide +kernel
theorem dX7_debts_79 : decode cX7_debts 79 = .ok (.istore_n 3, 1) := by decide +kernel
theorem dX7_debts_80 : decode cX7_debts 80 = .ok (.iinc 4 1, 3) := by decide +kernel
theorem dX7_debts_83 : decode cX7_debts 83 = .ok (.goto (-55), 3) := by decide +kernel
theorem dX7_debts_86 : decode cX7_debts 86 = .ok (.iload_n 3, 1) := by decide +kernel
theorem dX7_debts_87 : decode cX7_debts 87 = .ok (.ireturn, 1) := by decide +kernel
set_option maxRecDepth 20000 in
theorem ggX7_kinds_X7_isPerson : GoodIn wsX7_kinds wsX7_isPerson := goodIn_r _ [8, 2, 86, 87, 88, 89, 90, 91, 92, 93, 94, 95, 96, 97, 98, 99] (by decide +kernel) (by decide +kernel)
set_option maxRecDepth 20000 in
theorem gX7_kinds_X7_isPerson : GoodIn wsX7_kinds (wsV RX7 86 RX7 yX7_isPerson wsX7_isPerson) := goodIn_app (goodIn_of _ (by decide +kernel)) ggX7_kinds_X7_isPerson
set_option maxRecDepth 20000 in
theorem ggX7_kinds_X5_becomeLike : GoodIn wsX7_kinds wsX5_becomeLike := goodIn_r _ [13, 14, 15, 16, 17, 93, 94, 95, 96, 97, 98, 99] (by decide +kernel) (by decide +kernel)
set_option maxRecDepth 20000 in
theorem gX7_kinds_X5_becomeLike : GoodIn wsX7_kinds (wsV RX7 75 RX5 yX5_becomeLike wsX5_becomeLike) := goodIn_app (goodIn_of _ (by decide +kernel)) ggX7_kinds_X5_becomeLike
set_option maxRecDepth 20000 in
theorem ggX7_kinds_X2_areSo : GoodIn wsX7_kinds wsX2_areSo := goodIn_r _ [22, 23, 24, 25, 21, 26, 27, 28, 29, 30, 31, 32, 33, 34, 35, 12, 36, 14, 37, 15, 38, 17, 39, 40, 41, 42, 43, 44, 45, 46, 47, 48, 49, 50, 51, 52, 53, 54, 55, 16, 56, 57, 58, 59, 60, 61, 62, 63, 64, 65, 66, 67, 68, 69, 70, 71, 72, 73, 74, 75, 76, 77, 78, 79, 80, 81, 82, 83, 84, 85, 100, 101, 102, 103, 93, 94, 95, 96, 97, 98, 99] (by decide +kernel) (by decide +kernel)
set_option maxRecDepth 20000 in
theorem gX7_kinds_X2_areSo : GoodIn wsX7_kinds (wsV RX7 157 RX2 yX2_areSo wsX2_areSo) := goodIn_app (goodIn_of _ (by decide +kernel)) ggX7_kinds_X2_areSo
theorem dX7_kinds_0 : decode cX7_kinds 0 = .ok (.aload_n 0, 1) := by decide +kernel
theorem dX7_kinds_1 : decode cX7_kinds 1 = .ok (.iload_n 1, 1) := by decide +kernel
theorem dX7_kinds_2 : decode cX7_kinds 2 = .ok (.invokevirtual 86, 3) := by decide +kernel
theorem dX7_kinds_5 : decode cX7_kinds 5 = .ok (.ifCond .ne 5, 3) := by decide +kernel
theorem dX7_kinds_8 : decode cX7_kinds 8 = .ok (.iconst (-1), 1) := by decide +kernel
theorem dX7_kinds_9 : decode cX7_kinds 9 = .ok (.ireturn, 1) := by decide +kernel
theorem dX7_kinds_10 : decode cX7_kinds 10 = .ok (.iconst 0, 1) := by decide +kernel
theorem dX7_kinds_11 : decode cX7_kinds 11 = .ok (.istore_n 2, 1) := by decide +kernel
theorem dX7_kinds_12 : decode cX7_kinds 12 = .ok (.iconst 0, 1) := by decide +kernel
theorem dX7_kinds_13 : decode cX7_kinds 13 = .ok (.istore_n 3, 1) := by decide +kernel
theorem dX7_kinds_14 : decode cX7_kinds 14 = .ok (.iload_n 3, 1) := by decide +kernel
theorem dX7_kinds_15 : decode cX7_kinds 15 = .ok (.iconst 2, 1) := by decide +kernel
theorem dX7_kinds_16 : decode cX7_kinds 16 = .ok (.if_icmp .gt 50, 3) := by decide +kernel
theorem dX7_kinds_19 : decode cX7_kinds 19 = .ok (.aload_n 0, 1) := by decide +kernel
theorem dX7_kinds_20 : decode cX7_kinds 20 = .ok (.getfield 18, 3) := by decide +kernel
theorem dX7_kinds_23 : decode cX7_kinds 23 = .ok (.aload_n 0, 1) := by decide +kernel
theorem dX7_kinds_24 : decode cX7_kinds 24 = .ok (.getfield 12, 3) := by decide +kernel
theorem dX7_kinds_27 : decode cX7_kinds 27 = .ok (.invokevirtual 75, 3) := by decide +kernel
theorem dX7_kinds_30 : decode cX7_kinds 30 = .ok (.aload_n 0, 1) := by decide +kernel
theorem dX7_kinds_31 : decode cX7_kinds 31 = .ok (.getfield 18, 3) := by decide +kernel
theorem dX7_kinds_34 : decode cX7_kinds 34 = .ok (.getfield 89, 3) := by decide +kernel
theorem dX7_kinds_37 : decode cX7_kinds 37 = .ok (.iload_n 1, 1) := by decide +kernel
theorem dX7_kinds_38 : decode cX7_kinds 38 = .ok (.iload_n 3, 1) := by decide +kernel
theorem dX7_kinds_39 : decode cX7_kinds 39 = .ok (.iastore, 1) := by decide +kernel
theorem dX7_kinds_40 : decode cX7_kinds 40 = .ok (.aload_n 0, 1) := by decide +kernel
theorem dX7_kinds_41 : decode cX7_kinds 41 = .ok (.getfield 34, 3) := by decide +kernel
theorem dX7_kinds_44 : decode cX7_kinds 44 = .ok (.aload_n 0, 1) := by decide +kernel
theorem dX7_kinds_45 : decode cX7_kinds 45 = .ok (.getfield 18, 3) := by decide +kernel
theorem dX7_kinds_48 : decode cX7_kinds 48 = .ok (.invokevirtual 157, 3) := by decide +kernel
theorem dX7_kinds_51 : decode cX7_kinds 51 = .ok (.ifCond .eq 9, 3) := by decide +kernel
theorem dX7_kinds_54 : decode cX7_kinds 54 = .ok (.iload_n 2, 1) := by decide +kernel
theorem dX7_kinds_55 : decode cX7_kinds 55 = .ok (.iconst 1, 1) := by decide +kernel
theorem dX7_kinds_56 : decode cX7_kinds 56 = .ok (.iload_n 3, 1) := by decide +kernel
theorem dX7_kinds_57 : decode cX7_kinds 57 = .ok (.ishl, 1) := by decide +kernel
theorem dX7_kinds_58 : decode cX7_kinds 58 = .ok (.ior, 1) := by decide +kernel
theorem dX7_kinds_59 : decode cX7_kinds 59 = .ok (.istore_n 2, 1) := by decide +kernel
theorem dX7_kinds_60 : decode cX7_kinds 60 = .ok (.iinc 3 1, 3) := by decide +kernel
theorem dX7_kinds_63 : decode cX7_kinds 63 = .ok (.goto (-49), 3) := by decide +kernel
theorem dX7_kinds_66 : decode cX7_kinds 66 = .ok (.iload_n 2, 1) := by decide +kernel
theorem dX7_kinds_67 : decode cX7_kinds 67 = .ok (.ireturn, 1) := by decide +kernel
set_option maxRecDepth 20000 in
theorem ggX7_bells_X7_hasTown : GoodIn wsX7_bells wsX7_hasTown := goodIn_r _ [8, 2, 86, 87, 88, 89, 90, 91, 92, 93, 94, 95, 96, 97, 98, 99] (by decide +kernel) (by decide +kernel)
set_option maxRecDepth 20000 in
theorem gX7_bells_X7_hasTown : GoodIn wsX7_bells (wsV RX7 113 RX7 yX7_hasTown wsX7_hasTown) := goodIn_app (goodIn_of _ (by decide +kernel)) ggX7_bells_X7_hasTown
set_option maxRecDepth 20000 in
theorem ggX7_bells_X5_becomeLike : GoodIn wsX7_bells wsX5_becomeLike := goodIn_r _ [13, 14, 15, 16, 17, 93, 94, 95, 96, 97, 98, 99] (by decide +kernel) (by decide +kernel)
set_option maxRecDepth 20000 in
theorem gX7_bells_X5_becomeLike : GoodIn wsX7_bells (wsV RX7 75 RX5 yX5_becomeLike wsX5_becomeLike) := goodIn_app (goodIn_of _ (by decide +kernel)) ggX7_bells_X5_becomeLike
set_option maxRecDepth 20000 in
theorem ggX7_bells_X2_areSo : GoodIn wsX7_bells wsX2_areSo := goodIn_r _ [22, 23, 24, 25, 21, 26, 27, 28, 29, 30, 31, 32, 33, 34, 35, 12, 36, 14, 37, 15, 38, 17, 39, 40, 41, 42, 43, 44, 45, 46, 47, 48, 49, 50, 51, 52, 53, 54, 55, 16, 56, 57, 58, 59, 60, 61, 62, 63, 64, 65, 66, 67, 68, 69, 70, 71, 72, 73, 74, 75, 76, 77, 78, 79, 80, 81, 82, 83, 84, 85, 100, 101, 102, 103, 93, 94, 95, 96, 97, 98, 99] (by decide +kernel) (by decide +kernel)
set_option maxRecDepth 20000 in
theorem gX7_bells_X2_areSo : GoodIn wsX7_bells (wsV RX7 157 RX2 yX2_areSo wsX2_areSo) := goodIn_app (goodIn_of _ (by decide +kernel)) ggX7_bells_X2_areSo
theorem dX7_bells_0 : decode cX7_bells 0 = .ok (.aload_n 0, 1) := by decide +kernel
theorem dX7_bells_1 : decode cX7_bells 1 = .ok (.invokevirtual 113, 3) := by decide +kernel
theorem dX7_bells_4 : decode cX7_bells 4 = .ok (.ifCond .ne 6, 3) := by decide +kernel
theorem dX7_bells_7 : decode cX7_bells 7 = .ok (.bipush (-3), 2) := by decide +kernel
theorem dX7_bells_9 : decode cX7_bells 9 = .ok (.ireturn, 1) := by decide +kernel
theorem dX7_bells_10 : decode cX7_bells 10 = .ok (.iconst 0, 1) := by decide +kernel
theorem dX7_bells_11 : decode cX7_bells 11 = .ok (.istore_n 1, 1) := by decide +kernel
theorem dX7_bells_12 : decode cX7_bells 12 = .ok (.iconst 0, 1) := by decide +kernel
theorem dX7_bells_13 : decode cX7_bells 13 = .ok (.istore_n 2, 1) := by decide +kernel
theorem dX7_bells_14 : decode cX7_bells 14 = .ok (.iload_n 2, 1) := by decide +kernel
theorem dX7_bells_15 : decode cX7_bells 15 = .ok (.bipush 9, 2) := by decide +kernel
theorem dX7_bells_17 : decode cX7_bells 17 = .ok (.if_icmp .gt 48, 3) := by decide +kernel
theorem dX7_bells_20 : decode cX7_bells 20 = .ok (.aload_n 0, 1) := by decide +kernel
theorem dX7_bells_21 : decode cX7_bells 21 = .ok (.getfield 18, 3) := by decide +kernel
theorem dX7_bells_24 : decode cX7_bells 24 = .ok (.aload_n 0, 1) := by decide +kernel
theorem dX7_bells_25 : decode cX7_bells 25 = .ok (.getfield 12, 3) := by decide +kernel
theorem dX7_bells_28 : decode cX7_bells 28 = .ok (.invokevirtual 75, 3) := by decide +kernel
theorem dX7_bells_31 : decode cX7_bells 31 = .ok (.aload_n 0, 1) := by decide +kernel
theorem dX7_bells_32 : decode cX7_bells 32 = .ok (.getfield 18, 3) := by decide +kernel
theorem dX7_bells_35 : decode cX7_bells 35 = .ok (.iload_n 2, 1) := by decide +kernel
theorem dX7_bells_36 : decode cX7_bells 36 = .ok (.putfield 102, 3) := by decide +kernel
theorem dX7_bells_39 : decode cX7_bells 39 = .ok (.aload_n 0, 1) := by decide +kernel
theorem dX7_bells_40 : decode cX7_bells 40 = .ok (.getfield 34, 3) := by decide +kernel
theorem dX7_bells_43 : decode cX7_bells 43 = .ok (.aload_n 0, 1) := by decide +kernel
theorem dX7_bells_44 : decode cX7_bells 44 = .ok (.getfield 18, 3) := by decide +kernel
theorem dX7_bells_47 : decode cX7_bells 47 = .ok (.invokevirtual 157, 3) := by decide +kernel
theorem dX7_bells_50 : decode cX7_bells 50 = .ok (.ifCond .eq 9, 3) := by decide +kernel
theorem dX7_bells_53 : decode cX7_bells 53 = .ok (.iload_n 1, 1) := by decide +kernel
theorem dX7_bells_54 : decode cX7_bells 54 = .ok (.iconst 1, 1) := by decide +kernel
theorem dX7_bells_55 : decode cX7_bells 55 = .ok (.iload_n 2, 1) := by decide +kernel
theorem dX7_bells_56 : decode cX7_bells 56 = .ok (.ishl, 1) := by decide +kernel
theorem dX7_bells_57 : decode cX7_bells 57 = .ok (.ior, 1) := by decide +kernel
theorem dX7_bells_58 : decode cX7_bells 58 = .ok (.istore_n 1, 1) := by decide +kernel
theorem dX7_bells_59 : decode cX7_bells 59 = .ok (.iinc 2 1, 3) := by decide +kernel
theorem dX7_bells_62 : decode cX7_bells 62 = .ok (.goto (-48), 3) := by decide +kernel
theorem dX7_bells_65 : decode cX7_bells 65 = .ok (.iload_n 1, 1) := by decide +kernel
theorem dX7_bells_66 : decode cX7_bells 66 = .ok (.ireturn, 1) := by decide +kernel
set_option maxRecDepth 20000 in
theorem ggX7_odds_X7_isPerson : GoodIn wsX7_odds wsX7_isPerson := goodIn_r _ [7, 2, 44, 45, 46, 47, 48, 49, 50, 51, 52, 53, 54, 55, 56, 57] (by decide +kernel) (by decide +kernel)
set_option maxRecDepth 20000 in
theorem gX7_odds_X7_isPerson : GoodIn wsX7_odds (wsV RX7 86 RX7 yX7_isPerson wsX7_isPerson) := goodIn_app (goodIn_of _ (by decide +kernel)) ggX7_odds_X7_isPerson
set_option maxRecDepth 20000 in
theorem ggX7_odds_X7_isWithin : GoodIn wsX7_odds wsX7_isWithin := goodIn_r _ [10] (by decide +kernel) (by decide +kernel)
set_option maxRecDepth 20000 in
theorem gX7_odds_X7_isWithin : GoodIn wsX7_odds (va_wsS RX7 53 yX7_isWithin wsX7_isWithin) := goodIn_app (goodIn_of _ (by decide +kernel)) ggX7_odds_X7_isWithin
set_option maxRecDepth 20000 in
theorem ggX7_odds_X5_owingTo : GoodIn wsX7_odds wsX5_owingTo := goodIn_r _ [15, 16, 17, 51, 52, 53, 54, 55, 56, 57] (by decide +kernel) (by decide +kernel)
set_option maxRecDepth 20000 in
theorem gX7_odds_X5_owingTo : GoodIn wsX7_odds (wsV RX7 163 RX5 yX5_owingTo wsX5_owingTo) := goodIn_app (goodIn_of _ (by decide +kernel)) ggX7_odds_X5_owingTo
set_option maxRecDepth 20000 in
theorem ggX7_odds_X5_lighterAmong : GoodIn wsX7_odds wsX5_lighterAmong := goodIn_r _ [21, 16, 22, 23, 24, 14, 25, 26, 27, 17, 28, 29, 30, 31, 32, 33, 34, 35, 36, 37, 38, 39, 40, 41, 42, 43, 51, 52, 53, 54, 55, 56, 57] (by decide +kernel) (by decide +kernel)
set_option maxRecDepth 20000 in
theorem gX7_odds_X5_lighterAmong : GoodIn wsX7_odds (wsV RX7 116 RX5 yX5_lighterAmong wsX5_lighterAmong) := goodIn_app (goodIn_of _ (by decide +kernel)) ggX7_odds_X5_lighterAmong
theorem dX7_odds_0 : decode cX7_odds 0 = .ok (.aload_n 0, 1) := by decide +kernel
theorem dX7_odds_1 : decode cX7_odds 1 = .ok (.iload_n 1, 1) := by decide +kernel
theorem dX7_odds_2 : decode cX7_odds 2 = .ok (.invokevirtual 86, 3) := by decide +kernel
theorem dX7_odds_5 : decode cX7_odds 5 = .ok (.ifCond .eq 19, 3) := by decide +kernel
theorem dX7_odds_8 : decode cX7_odds 8 = .ok (.aload_n 0, 1) := by decide +kernel
theorem dX7_odds_9 : decode cX7_odds 9 = .ok (.iload_n 2, 1) := by decide +kernel
theorem dX7_odds_10 : decode cX7_odds 10 = .ok (.invokevirtual 86, 3) := by decide +kernel
theorem dX7_odds_13 : decode cX7_odds 13 = .ok (.ifCond .eq 11, 3) := by decide +kernel
theorem dX7_odds_16 : decode cX7_odds 16 = .ok (.iload_n 3, 1) := by decide +kernel
theorem dX7_odds_17 : decode cX7_odds 17 = .ok (.iconst 1, 1) := by decide +kernel
theorem dX7_odds_18 : decode cX7_odds 18 = .ok (.invokestatic 53, 3) := by decide +kernel
theorem dX7_odds_21 : decode cX7_odds 21 = .ok (.ifCond .ne 7, 3) := by decide +kernel
theorem dX7_odds_24 : decode cX7_odds 24 = .ok (.ldc2_w 161, 3) := by decide +kernel
theorem dX7_odds_27 : decode cX7_odds 27 = .ok (.lreturn, 1) := by decide +kernel
theorem dX7_odds_28 : decode cX7_odds 28 = .ok (.aload_n 0, 1) := by decide +kernel
theorem dX7_odds_29 : decode cX7_odds 29 = .ok (.getfield 12, 3) := by decide +kernel
theorem dX7_odds_32 : decode cX7_odds 32 = .ok (.iload_n 1, 1) := by decide +kernel
theorem dX7_odds_33 : decode cX7_odds 33 = .ok (.invokevirtual 163, 3) := by decide +kernel
theorem dX7_odds_36 : decode cX7_odds 36 = .ok (.istore 4, 2) := by decide +kernel
theorem dX7_odds_38 : decode cX7_odds 38 = .ok (.iconst 0, 1) := by decide +kernel
theorem dX7_odds_39 : decode cX7_odds 39 = .ok (.istore 5, 2) := by decide +kernel
theorem dX7_odds_41 : decode cX7_odds 41 = .ok (.iconst 0, 1) := by decide +kernel
theorem dX7_odds_42 : decode cX7_odds 42 = .ok (.istore 6, 2) := by decide +kernel
theorem dX7_odds_44 : decode cX7_odds 44 = .ok (.iconst 0, 1) := by decide +kernel
theorem dX7_odds_45 : decode cX7_odds 45 = .ok (.istore 7, 2) := by decide +kernel
theorem dX7_odds_47 : decode cX7_odds 47 = .ok (.iload 7, 2) := by decide +kernel
theorem dX7_odds_49 : decode cX7_odds 49 = .ok (.bipush 64, 2) := by decide +kernel
theorem dX7_odds_51 : decode cX7_odds 51 = .ok (.if_icmp .ge 42, 3) := by decide +kernel
theorem dX7_odds_54 : decode cX7_odds 54 = .ok (.iload 7, 2) := by decide +kernel
theorem dX7_odds_56 : decode cX7_odds 56 = .ok (.iload 4, 2) := by decide +kernel
theorem dX7_odds_58 : decode cX7_odds 58 = .ok (.iconst (-1), 1) := by decide +kernel
theorem dX7_odds_59 : decode cX7_odds 59 = .ok (.ixor, 1) := by decide +kernel
theorem dX7_odds_60 : decode cX7_odds 60 = .ok (.iand, 1) := by decide +kernel
theorem dX7_odds_61 : decode cX7_odds 61 = .ok (.ifCond .eq 6, 3) := by decide +kernel
theorem dX7_odds_64 : decode cX7_odds 64 = .ok (.goto 23, 3) := by decide +kernel
theorem dX7_odds_67 : decode cX7_odds 67 = .ok (.iinc 6 1, 3) := by decide +kernel
theorem dX7_odds_70 : decode cX7_odds 70 = .ok (.aload_n 0, 1) := by decide +kernel
theorem dX7_odds_71 : decode cX7_odds 71 = .ok (.getfield 12, 3) := by decide +kernel
theorem dX7_odds_74 : decode cX7_odds 74 = .ok (.iload_n 1, 1) := by decide +kernel
theorem dX7_odds_75 : decode cX7_odds 75 = .ok (.iload 7, 2) := by decide +kernel
theorem dX7_odds_77 : decode cX7_odds 77 = .ok (.invokevirtual 116, 3) := by decide +kernel
theorem dX7_odds_80 : decode cX7_odds 80 = .ok (.iload_n 2, 1) := by decide +kernel
theorem dX7_odds_81 : decode cX7_odds 81 = .ok (.if_icmp .ne 6, 3) := by decide +kernel
theorem dX7_odds_84 : decode cX7_odds 84 = .ok (.iinc 5 1, 3) := by decide +kernel
theorem dX7_odds_87 : decode cX7_odds 87 = .ok (.iinc 7 1, 3) := by decide +kernel
theorem dX7_odds_90 : decode cX7_odds 90 = .ok (.goto (-43), 3) := by decide +kernel
theorem dX7_odds_93 : decode cX7_odds 93 = .ok (.iconst 0, 1) := by decide +kernel
theorem dX7_odds_94 : decode cX7_odds 94 = .ok (.istore 7, 2) := by decide +kernel
theorem dX7_odds_96 : decode cX7_odds 96 = .ok (.iload 7, 2) := by decide +kernel
theorem dX7_odds_98 : decode cX7_odds 98 = .ok (.bipush 6, 2) := by decide +kernel
theorem dX7_odds_100 : decode cX7_odds 100 = .ok (.if_icmp .ge 34, 3) := by decide +kernel
theorem dX7_odds_103 : decode cX7_odds 103 = .ok (.iload 6, 2) := by decide +kernel
theorem dX7_odds_105 : decode cX7_odds 105 = .ok (.iconst 1, 1) := by decide +kernel
theorem dX7_odds_106 : decode cX7_odds 106 = .ok (.if_icmp .le 28, 3) := by decide +kernel
theorem dX7_odds_109 : decode cX7_odds 109 = .ok (.iload 5, 2) := by decide +kernel
theorem dX7_odds_111 : decode cX7_odds 111 = .ok (.iconst 2, 1) := by decide +kernel
theorem dX7_odds_112 : decode cX7_odds 112 = .ok (.irem, 1) := by decide +kernel
theorem dX7_odds_113 : decode cX7_odds 113 = .ok (.ifCond .ne 21, 3) := by decide +kernel
theorem dX7_odds_116 : decode cX7_odds 116 = .ok (.iload 5, 2) := by decide +kernel
theorem dX7_odds_118 : decode cX7_odds 118 = .ok (.iconst 2, 1) := by decide +kernel
theorem dX7_odds_119 : decode cX7_odds 119 = .ok (.idiv, 1) := by decide +kernel
theorem dX7_odds_120 : decode cX7_odds 120 = .ok (.istore 5, 2) := by decide +kernel
theorem dX7_odds_122 : decode cX7_odds 122 = .ok (.iload 6, 2) := by decide +kernel
theorem dX7_odds_124 : decode cX7_odds 124 = .ok (.iconst 2, 1) := by decide +kernel
theorem dX7_odds_125 : decode cX7_odds 125 = .ok (.idiv, 1) := by decide +kernel
theorem dX7_odds_126 : decode cX7_odds 126 = .ok (.istore 6, 2) := by decide +kernel
theorem dX7_odds_128 : decode cX7_odds 128 = .ok (.iinc 7 1, 3) := by decide +kernel
theorem dX7_odds_131 : decode cX7_odds 131 = .ok (.goto (-35), 3) := by decide +kernel
theorem dX7_odds_134 : decode cX7_odds 134 = .ok (.iload_n 3, 1) := by decide +kernel
theorem dX7_odds_135 : decode cX7_odds 135 = .ok (.ifCond .ne 9, 3) := by decide +kernel
theorem dX7_odds_138 : decode cX7_odds 138 = .ok (.iload 5, 2) := by decide +kernel
theorem dX7_odds_140 : decode cX7_odds 140 = .ok (.i2l, 1) := by decide +kernel
theorem dX7_odds_141 : decode cX7_odds 141 = .ok (.goto 6, 3) := by decide +kernel
theorem dX7_odds_144 : decode cX7_odds 144 = .ok (.iload 6, 2) := by decide +kernel
theorem dX7_odds_146 : decode cX7_odds 146 = .ok (.i2l, 1) := by decide +kernel
theorem dX7_odds_147 : decode cX7_odds 147 = .ok (.lreturn, 1) := by decide +kernel
set_option maxRecDepth 20000 in
theorem ggX7_sheet_X7_isSheet : GoodIn wsX7_sheet wsX7_isSheet := goodIn_r _ [6] (by decide +kernel) (by decide +kernel)
set_option maxRecDepth 20000 in
theorem gX7_sheet_X7_isSheet : GoodIn wsX7_sheet (va_wsS RX7 49 yX7_isSheet wsX7_isSheet) := goodIn_app (goodIn_of _ (by decide +kernel)) ggX7_sheet_X7_isSheet
set_option maxRecDepth 20000 in
theorem ggX7_sheet_X7_isWithin : GoodIn wsX7_sheet wsX7_isWithin := goodIn_r _ [9] (by decide +kernel) (by decide +kernel)
set_option maxRecDepth 20000 in
theorem gX7_sheet_X7_isWithin : GoodIn wsX7_sheet (va_wsS RX7 53 yX7_isWithin wsX7_isWithin) := goodIn_app (goodIn_of _ (by decide +kernel)) ggX7_sheet_X7_isWithin
set_option maxRecDepth 20000 in
theorem ggX7_sheet_X7_faulted : GoodIn wsX7_sheet wsX7_faulted := goodIn_r _ [13, 1, 29, 30, 31, 32, 33, 34, 35] (by decide +kernel) (by decide +kernel)
set_option maxRecDepth 20000 in
theorem gX7_sheet_X7_faulted : GoodIn wsX7_sheet (wsV RX7 60 RX7 yX7_faulted wsX7_faulted) := goodIn_app (goodIn_of _ (by decide +kernel)) ggX7_sheet_X7_faulted
set_option maxRecDepth 20000 in
theorem ggX7_sheet_X4_renew : GoodIn wsX7_sheet wsX4_renew := goodIn_r _ [18, 19, 20, 21, 22, 23, 24, 25, 26, 27, 28, 36, 37, 38] (by decide +kernel) (by decide +kernel)
set_option maxRecDepth 20000 in
theorem gX7_sheet_X4_renew : GoodIn wsX7_sheet (wsV RX7 166 RX4 yX4_renew wsX4_renew) := goodIn_app (goodIn_of _ (by decide +kernel)) ggX7_sheet_X4_renew
theorem dX7_sheet_0 : decode cX7_sheet 0 = .ok (.aload_n 0, 1) := by decide +kernel
theorem dX7_sheet_1 : decode cX7_sheet 1 = .ok (.iconst 0, 1) := by decide +kernel
theorem dX7_sheet_2 : decode cX7_sheet 2 = .ok (.putfield 45, 3) := by decide +kernel
theorem dX7_sheet_5 : decode cX7_sheet 5 = .ok (.iload_n 1, 1) := by decide +kernel
theorem dX7_sheet_6 : decode cX7_sheet 6 = .ok (.invokestatic 49, 3) := by decide +kernel
theorem dX7_sheet_9 : decode cX7_sheet 9 = .ok (.ifCond .ne 5, 3) := by decide +kernel
theorem dX7_sheet_12 : decode cX7_sheet 12 = .ok (.iconst (-1), 1) := by decide +kernel
theorem dX7_sheet_13 : decode cX7_sheet 13 = .ok (.ireturn, 1) := by decide +kernel
theorem dX7_sheet_14 : decode cX7_sheet 14 = .ok (.iload_n 2, 1) := by decide +kernel
theorem dX7_sheet_15 : decode cX7_sheet 15 = .ok (.iconst 2, 1) := by decide +kernel
theorem dX7_sheet_16 : decode cX7_sheet 16 = .ok (.invokestatic 53, 3) := by decide +kernel
theorem dX7_sheet_19 : decode cX7_sheet 19 = .ok (.ifCond .eq 9, 3) := by decide +kernel
theorem dX7_sheet_22 : decode cX7_sheet 22 = .ok (.iload_n 3, 1) := by decide +kernel
theorem dX7_sheet_23 : decode cX7_sheet 23 = .ok (.bipush 60, 2) := by decide +kernel
theorem dX7_sheet_25 : decode cX7_sheet 25 = .ok (.if_icmp .le 6, 3) := by decide +kernel
theorem dX7_sheet_28 : decode cX7_sheet 28 = .ok (.bipush (-2), 2) := by decide +kernel
theorem dX7_sheet_30 : decode cX7_sheet 30 = .ok (.ireturn, 1) := by decide +kernel
theorem dX7_sheet_31 : decode cX7_sheet 31 = .ok (.iload_n 3, 1) := by decide +kernel
theorem dX7_sheet_32 : decode cX7_sheet 32 = .ok (.ifCond .ge 9, 3) := by decide +kernel
theorem dX7_sheet_35 : decode cX7_sheet 35 = .ok (.aload_n 0, 1) := by decide +kernel
theorem dX7_sheet_36 : decode cX7_sheet 36 = .ok (.iconst 4, 1) := by decide +kernel
theorem dX7_sheet_37 : decode cX7_sheet 37 = .ok (.invokevirtual 60, 3) := by decide +kernel
theorem dX7_sheet_40 : decode cX7_sheet 40 = .ok (.ireturn, 1) := by decide +kernel
theorem dX7_sheet_41 : decode cX7_sheet 41 = .ok (.aload_n 0, 1) := by decide +kernel
theorem dX7_sheet_42 : decode cX7_sheet 42 = .ok (.getfield 41, 3) := by decide +kernel
theorem dX7_sheet_45 : decode cX7_sheet 45 = .ok (.iload_n 1, 1) := by decide +kernel
theorem dX7_sheet_46 : decode cX7_sheet 46 = .ok (.aaload, 1) := by decide +kernel
theorem dX7_sheet_47 : decode cX7_sheet 47 = .ok (.iload_n 2, 1) := by decide +kernel
theorem dX7_sheet_48 : decode cX7_sheet 48 = .ok (.iload_n 3, 1) := by decide +kernel
theorem dX7_sheet_49 : decode cX7_sheet 49 = .ok (.invokevirtual 166, 3) := by decide +kernel
theorem dX7_sheet_52 : decode cX7_sheet 52 = .ok (.iconst 1, 1) := by decide +kernel
theorem dX7_sheet_53 : decode cX7_sheet 53 = .ok (.ireturn, 1) := by decide +kernel
set_option maxRecDepth 20000 in
theorem ggX7_lose_X7_isSheet : GoodIn wsX7_lose wsX7_isSheet := goodIn_r _ [5] (by decide +kernel) (by decide +kernel)
set_option maxRecDepth 20000 in
theorem gX7_lose_X7_isSheet : GoodIn wsX7_lose (va_wsS RX7 49 yX7_isSheet wsX7_isSheet) := goodIn_app (goodIn_of _ (by decide +kernel)) ggX7_lose_X7_isSheet
set_option maxRecDepth 20000 in
theorem ggX7_lose_X4_hasNothing : GoodIn wsX7_lose wsX4_hasNothing := goodIn_r _ [10, 11, 23, 24, 25] (by decide +kernel) (by decide +kernel)
set_option maxRecDepth 20000 in
theorem gX7_lose_X4_hasNothing : GoodIn wsX7_lose (wsV RX7 64 RX4 yX4_hasNothing wsX4_hasNothing) := goodIn_app (goodIn_of _ (by decide +kernel)) ggX7_lose_X4_hasNothing
set_option maxRecDepth 20000 in
theorem ggX7_lose_X4_loseRow : GoodIn wsX7_lose wsX4_loseRow := goodIn_r _ [15, 11, 23, 24, 25] (by decide +kernel) (by decide +kernel)
set_option maxRecDepth 20000 in
theorem gX7_lose_X4_loseRow : GoodIn wsX7_lose (wsV RX7 170 RX4 yX4_loseRow wsX4_loseRow) := goodIn_app (goodIn_of _ (by decide +kernel)) ggX7_lose_X4_loseRow
theorem dX7_lose_0 : decode cX7_lose 0 = .ok (.iload_n 1, 1) := by decide +kernel
theorem dX7_lose_1 : decode cX7_lose 1 = .ok (.invokestatic 49, 3) := by decide +kernel
theorem dX7_lose_4 : decode cX7_lose 4 = .ok (.ifCond .ne 5, 3) := by decide +kernel
theorem dX7_lose_7 : decode cX7_lose 7 = .ok (.iconst (-1), 1) := by decide +kernel
theorem dX7_lose_8 : decode cX7_lose 8 = .ok (.ireturn, 1) := by decide +kernel
theorem dX7_lose_9 : decode cX7_lose 9 = .ok (.aload_n 0, 1) := by decide +kernel
theorem dX7_lose_10 : decode cX7_lose 10 = .ok (.getfield 41, 3) := by decide +kernel
theorem dX7_lose_13 : decode cX7_lose 13 = .ok (.iload_n 1, 1) := by decide +kernel
theorem dX7_lose_14 : decode cX7_lose 14 = .ok (.aaload, 1) := by decide +kernel
theorem dX7_lose_15 : decode cX7_lose 15 = .ok (.invokevirtual 64, 3) := by decide +kernel
theorem dX7_lose_18 : decode cX7_lose 18 = .ok (.ifCond .eq 5, 3) := by decide +kernel
theorem dX7_lose_21 : decode cX7_lose 21 = .ok (.iconst 0, 1) := by decide +kernel
theorem dX7_lose_22 : decode cX7_lose 22 = .ok (.ireturn, 1) := by decide +kernel
theorem dX7_lose_23 : decode cX7_lose 23 = .ok (.aload_n 0, 1) := by decide +kernel
theorem dX7_lose_24 : decode cX7_lose 24 = .ok (.getfield 41, 3) := by decide +kernel
theorem dX7_lose_27 : decode cX7_lose 27 = .ok (.iload_n 1, 1) := by decide +kernel
theorem dX7_lose_28 : decode cX7_lose 28 = .ok (.aaload, 1) := by decide +kernel
theorem dX7_lose_29 : decode cX7_lose 29 = .ok (.invokevirtual 170, 3) := by decide +kernel
theorem dX7_lose_32 : decode cX7_lose 32 = .ok (.iconst 1, 1) := by decide +kernel
theorem dX7_lose_33 : decode cX7_lose 33 = .ok (.ireturn, 1) := by decide +kernel
set_option maxRecDepth 20000 in
theorem ggX7_put_X7_isSheet : GoodIn wsX7_put wsX7_isSheet := goodIn_r _ [6] (by decide +kernel) (by decide +kernel)
set_option maxRecDepth 20000 in
theorem gX7_put_X7_isSheet : GoodIn wsX7_put (va_wsS RX7 49 yX7_isSheet wsX7_isSheet) := goodIn_app (goodIn_of _ (by decide +kernel)) ggX7_put_X7_isSheet
set_option maxRecDepth 20000 in
theorem ggX7_put_X4_hasNothing : GoodIn wsX7_put wsX4_hasNothing := goodIn_r _ [11, 12, 35, 36, 37] (by decide +kernel) (by decide +kernel)
set_option maxRecDepth 20000 in
theorem gX7_put_X4_hasNothing : GoodIn wsX7_put (wsV RX7 64 RX4 yX4_hasNothing wsX4_hasNothing) := goodIn_app (goodIn_of _ (by decide +kernel)) ggX7_put_X4_hasNothing
set_option maxRecDepth 20000 in
theorem ggX7_put_X7_faulted : GoodIn wsX7_put wsX7_faulted := goodIn_r _ [16, 1, 28, 29, 30, 31, 32, 33, 34] (by decide +kernel) (by decide +kernel)
set_option maxRecDepth 20000 in
theorem gX7_put_X7_faulted : GoodIn wsX7_put (wsV RX7 60 RX7 yX7_faulted wsX7_faulted) := goodIn_app (goodIn_of _ (by decide +kernel)) ggX7_put_X7_faulted
set_option maxRecDepth 20000 in
theorem ggX7_put_X4_hasCell : GoodIn wsX7_put wsX4_hasCell := goodIn_r _ [20, 12, 35, 36, 37] (by decide +kernel) (by decide +kernel)
set_option maxRecDepth 20000 in
theorem gX7_put_X4_hasCell : GoodIn wsX7_put (wsV RX7 173 RX4 yX4_hasCell wsX4_hasCell) := goodIn_app (goodIn_of _ (by decide +kernel)) ggX7_put_X4_hasCell
set_option maxRecDepth 20000 in
theorem ggX7_put_X4_setCut : GoodIn wsX7_put wsX4_setCut := goodIn_r _ [24, 25, 26, 27, 18, 19, 10, 20, 12, 35, 36, 37] (by decide +kernel) (by decide +kernel)
set_option maxRecDepth 20000 in
theorem gX7_put_X4_setCut : GoodIn wsX7_put (wsV RX7 176 RX4 yX4_setCut wsX4_setCut) := goodIn_app (goodIn_of _ (by decide +kernel)) ggX7_put_X4_setCut
theorem dX7_put_0 : decode cX7_put 0 = .ok (.aload_n 0, 1) := by decide +kernel
theorem dX7_put_1 : decode cX7_put 1 = .ok (.iconst 0, 1) := by decide +kernel
theorem dX7_put_2 : decode cX7_put 2 = .ok (.putfield 45, 3) := by decide +kernel
theorem dX7_put_5 : decode cX7_put 5 = .ok (.iload_n 1, 1) := by decide +kernel
theorem dX7_put_6 : decode cX7_put 6 = .ok (.invokestatic 49, 3) := by decide +kernel
theorem dX7_put_9 : decode cX7_put 9 = .ok (.ifCond .ne 5, 3) := by decide +kernel
theorem dX7_put_12 : decode cX7_put 12 = .ok (.iconst (-1), 1) := by decide +kernel
theorem dX7_put_13 : decode cX7_put 13 = .ok (.ireturn, 1) := by decide +kernel
theorem dX7_put_14 : decode cX7_put 14 = .ok (.aload_n 0, 1) := by decide +kernel
theorem dX7_put_15 : decode cX7_put 15 = .ok (.getfield 41, 3) := by decide +kernel
theorem dX7_put_18 : decode cX7_put 18 = .ok (.iload_n 1, 1) := by decide +kernel
theorem dX7_put_19 : decode cX7_put 19 = .ok (.aaload, 1) := by decide +kernel
theorem dX7_put_20 : decode cX7_put 20 = .ok (.astore 4, 2) := by decide +kernel
theorem dX7_put_22 : decode cX7_put 22 = .ok (.aload 4, 2) := by decide +kernel
theorem dX7_put_24 : decode cX7_put 24 = .ok (.invokevirtual 64, 3) := by decide +kernel
theorem dX7_put_27 : decode cX7_put 27 = .ok (.ifCond .eq 9, 3) := by decide +kernel
theorem dX7_put_30 : decode cX7_put 30 = .ok (.aload_n 0, 1) := by decide +kernel
theorem dX7_put_31 : decode cX7_put 31 = .ok (.iconst 1, 1) := by decide +kernel
theorem dX7_put_32 : decode cX7_put 32 = .ok (.invokevirtual 60, 3) := by decide +kernel
theorem dX7_put_35 : decode cX7_put 35 = .ok (.ireturn, 1) := by decide +kernel
theorem dX7_put_36 : decode cX7_put 36 = .ok (.aload 4, 2) := by decide +kernel
theorem dX7_put_38 : decode cX7_put 38 = .ok (.iload_n 2, 1) := by decide +kernel
theorem dX7_put_39 : decode cX7_put 39 = .ok (.invokevirtual 173, 3) := by decide +kernel
theorem dX7_put_42 : decode cX7_put 42 = .ok (.ifCond .ne 9, 3) := by decide +kernel
theorem dX7_put_45 : decode cX7_put 45 = .ok (.aload_n 0, 1) := by decide +kernel
theorem dX7_put_46 : decode cX7_put 46 = .ok (.iconst 3, 1) := by decide +kernel
theorem dX7_put_47 : decode cX7_put 47 = .ok (.invokevirtual 60, 3) := by decide +kernel
theorem dX7_put_50 : decode cX7_put 50 = .ok (.ireturn, 1) := by decide +kernel
theorem dX7_put_51 : decode cX7_put 51 = .ok (.aload 4, 2) := by decide +kernel
theorem dX7_put_53 : decode cX7_put 53 = .ok (.iload_n 2, 1) := by decide +kernel
theorem dX7_put_54 : decode cX7_put 54 = .ok (.iload_n 3, 1) := by decide +kernel
theorem dX7_put_55 : decode cX7_put 55 = .ok (.invokevirtual 176, 3) := by decide +kernel
theorem dX7_put_58 : decode cX7_put 58 = .ok (.iconst 1, 1) := by decide +kernel
theorem dX7_put_59 : decode cX7_put 59 = .ok (.ireturn, 1) := by decide +kernel
set_option maxRecDepth 20000 in
theorem ggX7_cell_X7_isSheet : GoodIn wsX7_cell wsX7_isSheet := goodIn_r _ [7] (by decide +kernel) (by decide +kernel)
set_option maxRecDepth 20000 in
theorem gX7_cell_X7_isSheet : GoodIn wsX7_cell (va_wsS RX7 49 yX7_isSheet wsX7_isSheet) := goodIn_app (goodIn_of _ (by decide +kernel)) ggX7_cell_X7_isSheet
set_option maxRecDepth 20000 in
theorem ggX7_cell_X7_isWithin : GoodIn wsX7_cell wsX7_isWithin := goodIn_r _ [10] (by decide +kernel) (by decide +kernel)
set_option maxRecDepth 20000 in
theorem gX7_cell_X7_isWithin : GoodIn wsX7_cell (va_wsS RX7 53 yX7_isWithin wsX7_isWithin) := goodIn_app (goodIn_of _ (by decide +kernel)) ggX7_cell_X7_isWithin
set_option maxRecDepth 20000 in
theorem ggX7_cell_X4_isOfLane : GoodIn wsX7_cell wsX4_isOfLane := goodIn_r _ [15, 16, 17, 18, 19, 14, 20, 21, 44, 45, 46] (by decide +kernel) (by decide +kernel)
set_option maxRecDepth 20000 in
theorem gX7_cell_X4_isOfLane : GoodIn wsX7_cell (wsV RX7 57 RX4 yX4_isOfLane wsX4_isOfLane) := goodIn_app (goodIn_of _ (by decide +kernel)) ggX7_cell_X4_isOfLane
set_option maxRecDepth 20000 in
theorem ggX7_cell_X7_lostBy : GoodIn wsX7_cell wsX7_lostBy := goodIn_r _ [25, 1, 2, 37, 38, 39, 40, 41, 42, 43] (by decide +kernel) (by decide +kernel)
set_option maxRecDepth 20000 in
theorem gX7_cell_X7_lostBy : GoodIn wsX7_cell (wsV RX7 179 RX7 yX7_lostBy wsX7_lostBy) := goodIn_app (goodIn_of _ (by decide +kernel)) ggX7_cell_X7_lostBy
set_option maxRecDepth 20000 in
theorem ggX7_cell_X4_hasNothing : GoodIn wsX7_cell wsX4_hasNothing := goodIn_r _ [20, 21, 44, 45, 46] (by decide +kernel) (by decide +kernel)
set_option maxRecDepth 20000 in
theorem gX7_cell_X4_hasNothing : GoodIn wsX7_cell (wsV RX7 64 RX4 yX4_hasNothing wsX4_hasNothing) := goodIn_app (goodIn_of _ (by decide +kernel)) ggX7_cell_X4_hasNothing
set_option maxRecDepth 20000 in
theorem ggX7_cell_X4_hasCell : GoodIn wsX7_cell wsX4_hasCell := goodIn_r _ [30, 21, 44, 45, 46] (by decide +kernel) (by decide +kernel)
set_option maxRecDepth 20000 in
theorem gX7_cell_X4_hasCell : GoodIn wsX7_cell (wsV RX7 173 RX4 yX4_hasCell wsX4_hasCell) := goodIn_app (goodIn_of _ (by decide +kernel)) ggX7_cell_X4_hasCell
set_option maxRecDepth 20000 in
theorem ggX7_cell_X4_valueAt : GoodIn wsX7_cell wsX4_valueAt := goodIn_r _ [34, 35, 36, 28, 29, 14, 30, 21, 44, 45, 46] (by decide +kernel) (by decide +kernel)
set_option maxRecDepth 20000 in
theorem gX7_cell_X4_valueAt : GoodIn wsX7_cell (wsV RX7 126 RX4 yX4_valueAt wsX4_valueAt) := goodIn_app (goodIn_of _ (by decide +kernel)) ggX7_cell_X4_valueAt
theorem dX7_cell_0 : decode cX7_cell 0 = .ok (.aload_n 0, 1) := by decide +kernel
theorem dX7_cell_1 : decode cX7_cell 1 = .ok (.iconst 0, 1) := by decide +kernel
theorem dX7_cell_2 : decode cX7_cell 2 = .ok (.putfield 45, 3) := by decide +kernel
theorem dX7_cell_5 : decode cX7_cell 5 = .ok (.iload_n 1, 1) := by decide +kernel
theorem dX7_cell_6 : decode cX7_cell 6 = .ok (.invokestatic 49, 3) := by decide +kernel
theorem dX7_cell_9 : decode cX7_cell 9 = .ok (.ifCond .eq 11, 3) := by decide +kernel
theorem dX7_cell_12 : decode cX7_cell 12 = .ok (.iload_n 3, 1) := by decide +kernel
theorem dX7_cell_13 : decode cX7_cell 13 = .ok (.iconst 2, 1) := by decide +kernel
theorem dX7_cell_14 : decode cX7_cell 14 = .ok (.invokestatic 53, 3) := by decide +kernel
theorem dX7_cell_17 : decode cX7_cell 17 = .ok (.ifCond .ne 7, 3) := by decide +kernel
theorem dX7_cell_20 : decode cX7_cell 20 = .ok (.ldc2_w 161, 3) := by decide +kernel
theorem dX7_cell_23 : decode cX7_cell 23 = .ok (.lreturn, 1) := by decide +kernel
theorem dX7_cell_24 : decode cX7_cell 24 = .ok (.aload_n 0, 1) := by decide +kernel
theorem dX7_cell_25 : decode cX7_cell 25 = .ok (.getfield 41, 3) := by decide +kernel
theorem dX7_cell_28 : decode cX7_cell 28 = .ok (.iload_n 1, 1) := by decide +kernel
theorem dX7_cell_29 : decode cX7_cell 29 = .ok (.aaload, 1) := by decide +kernel
theorem dX7_cell_30 : decode cX7_cell 30 = .ok (.astore 4, 2) := by decide +kernel
theorem dX7_cell_32 : decode cX7_cell 32 = .ok (.aload 4, 2) := by decide +kernel
theorem dX7_cell_34 : decode cX7_cell 34 = .ok (.iload_n 3, 1) := by decide +kernel
theorem dX7_cell_35 : decode cX7_cell 35 = .ok (.invokevirtual 57, 3) := by decide +kernel
theorem dX7_cell_38 : decode cX7_cell 38 = .ok (.ifCond .ne 9, 3) := by decide +kernel
theorem dX7_cell_41 : decode cX7_cell 41 = .ok (.aload_n 0, 1) := by decide +kernel
theorem dX7_cell_42 : decode cX7_cell 42 = .ok (.iconst 2, 1) := by decide +kernel
theorem dX7_cell_43 : decode cX7_cell 43 = .ok (.invokevirtual 179, 3) := by decide +kernel
theorem dX7_cell_46 : decode cX7_cell 46 = .ok (.lreturn, 1) := by decide +kernel
theorem dX7_cell_47 : decode cX7_cell 47 = .ok (.aload 4, 2) := by decide +kernel
theorem dX7_cell_49 : decode cX7_cell 49 = .ok (.invokevirtual 64, 3) := by decide +kernel
theorem dX7_cell_52 : decode cX7_cell 52 = .ok (.ifCond .eq 9, 3) := by decide +kernel
theorem dX7_cell_55 : decode cX7_cell 55 = .ok (.aload_n 0, 1) := by decide +kernel
theorem dX7_cell_56 : decode cX7_cell 56 = .ok (.iconst 1, 1) := by decide +kernel
theorem dX7_cell_57 : decode cX7_cell 57 = .ok (.invokevirtual 179, 3) := by decide +kernel
theorem dX7_cell_60 : decode cX7_cell 60 = .ok (.lreturn, 1) := by decide +kernel
theorem dX7_cell_61 : decode cX7_cell 61 = .ok (.aload 4, 2) := by decide +kernel
theorem dX7_cell_63 : decode cX7_cell 63 = .ok (.iload_n 2, 1) := by decide +kernel
theorem dX7_cell_64 : decode cX7_cell 64 = .ok (.invokevirtual 173, 3) := by decide +kernel
theorem dX7_cell_67 : decode cX7_cell 67 = .ok (.ifCond .ne 9, 3) := by decide +kernel
theorem dX7_cell_70 : decode cX7_cell 70 = .ok (.aload_n 0, 1) := by decide +kernel
theorem dX7_cell_71 : decode cX7_cell 71 = .ok (.iconst 3, 1) := by decide +kernel
theorem dX7_cell_72 : decode cX7_cell 72 = .ok (.invokevirtual 179, 3) := by decide +kernel
theorem dX7_cell_75 : decode cX7_cell 75 = .ok (.lreturn, 1) := by decide +kernel
theorem dX7_cell_76 : decode cX7_cell 76 = .ok (.aload 4, 2) := by decide +kernel
theorem dX7_cell_78 : decode cX7_cell 78 = .ok (.iload_n 2, 1) := by decide +kernel
theorem dX7_cell_79 : decode cX7_cell 79 = .ok (.invokevirtual 126, 3) := by decide +kernel
theorem dX7_cell_82 : decode cX7_cell 82 = .ok (.i2l, 1) := by decide +kernel
theorem dX7_cell_83 : decode cX7_cell 83 = .ok (.lreturn, 1) := by decide +kernel
set_option maxRecDepth 20000 in
theorem ggX7_copy_X7_isSheet : GoodIn wsX7_copy wsX7_isSheet := goodIn_r _ [10] (by decide +kernel) (by decide +kernel)
set_option maxRecDepth 20000 in
theorem gX7_copy_X7_isSheet : GoodIn wsX7_copy (va_wsS RX7 49 yX7_isSheet wsX7_isSheet) := goodIn_app (goodIn_of _ (by decide +kernel)) ggX7_copy_X7_isSheet
set_option maxRecDepth 20000 in
theorem ggX7_copy_X4_hasNothing : GoodIn wsX7_copy wsX4_hasNothing := goodIn_r _ [15, 16, 38, 39, 40] (by decide +kernel) (by decide +kernel)
set_option maxRecDepth 20000 in
theorem gX7_copy_X4_hasNothing : GoodIn wsX7_copy (wsV RX7 64 RX4 yX4_hasNothing wsX4_hasNothing) := goodIn_app (goodIn_of _ (by decide +kernel)) ggX7_copy_X4_hasNothing
set_option maxRecDepth 20000 in
theorem ggX7_copy_X7_faulted : GoodIn wsX7_copy wsX7_faulted := goodIn_r _ [20, 1, 31, 32, 33, 34, 35, 36, 37] (by decide +kernel) (by decide +kernel)
set_option maxRecDepth 20000 in
theorem gX7_copy_X7_faulted : GoodIn wsX7_copy (wsV RX7 60 RX7 yX7_faulted wsX7_faulted) := goodIn_app (goodIn_of _ (by decide +kernel)) ggX7_copy_X7_faulted
set_option maxRecDepth 20000 in
theorem ggX7_copy_X4_isOfLane : GoodIn wsX7_copy wsX4_isOfLane := goodIn_r _ [24, 25, 26, 12, 13, 14, 15, 16, 38, 39, 40] (by decide +kernel) (by decide +kernel)
set_option maxRecDepth 20000 in
theorem gX7_copy_X4_isOfLane : GoodIn wsX7_copy (wsV RX7 57 RX4 yX4_isOfLane wsX4_isOfLane) := goodIn_app (goodIn_of _ (by decide +kernel)) ggX7_copy_X4_isOfLane
set_option maxRecDepth 20000 in
theorem ggX7_copy_X4_hasCells : GoodIn wsX7_copy wsX4_hasCells := goodIn_r _ [30, 16, 38, 39, 40] (by decide +kernel) (by decide +kernel)
set_option maxRecDepth 20000 in
theorem gX7_copy_X4_hasCells : GoodIn wsX7_copy (wsV RX7 68 RX4 yX4_hasCells wsX4_hasCells) := goodIn_app (goodIn_of _ (by decide +kernel)) ggX7_copy_X4_hasCells
theorem dX7_copy_0 : decode cX7_copy 0 = .ok (.aload_n 0, 1) := by decide +kernel
theorem dX7_copy_1 : decode cX7_copy 1 = .ok (.iconst 0, 1) := by decide +kernel
theorem dX7_copy_2 : decode cX7_copy 2 = .ok (.putfield 45, 3) := by decide +kernel
theorem dX7_copy_5 : decode cX7_copy 5 = .ok (.iload_n 1, 1) := by decide +kernel
theorem dX7_copy_6 : decode cX7_copy 6 = .ok (.invokestatic 49, 3) := by decide +kernel
theorem dX7_copy_9 : decode cX7_copy 9 = .ok (.ifCond .eq 10, 3) := by decide +kernel
theorem dX7_copy_12 : decode cX7_copy 12 = .ok (.iload_n 3, 1) := by decide +kernel
theorem dX7_copy_13 : decode cX7_copy 13 = .ok (.invokestatic 49, 3) := by decide +kernel
theorem dX7_copy_16 : decode cX7_copy 16 = .ok (.ifCond .ne 5, 3) := by decide +kernel
theorem dX7_copy_19 : decode cX7_copy 19 = .ok (.iconst (-1), 1) := by decide +kernel
theorem dX7_copy_20 : decode cX7_copy 20 = .ok (.ireturn, 1) := by decide +kernel
theorem dX7_copy_21 : decode cX7_copy 21 = .ok (.aload_n 0, 1) := by decide +kernel
theorem dX7_copy_22 : decode cX7_copy 22 = .ok (.getfield 41, 3) := by decide +kernel
theorem dX7_copy_25 : decode cX7_copy 25 = .ok (.iload_n 1, 1) := by decide +kernel
theorem dX7_copy_26 : decode cX7_copy 26 = .ok (.aaload, 1) := by decide +kernel
theorem dX7_copy_27 : decode cX7_copy 27 = .ok (.astore 6, 2) := by decide +kernel
theorem dX7_copy_29 : decode cX7_copy 29 = .ok (.aload_n 0, 1) := by decide +kernel
theorem dX7_copy_30 : decode cX7_copy 30 = .ok (.getfield 41, 3) := by decide +kernel
theorem dX7_copy_33 : decode cX7_copy 33 = .ok (.iload_n 3, 1) := by decide +kernel
theorem dX7_copy_34 : decode cX7_copy 34 = .ok (.aaload, 1) := by decide +kernel
theorem dX7_copy_35 : decode cX7_copy 35 = .ok (.astore 7, 2) := by decide +kernel
theorem dX7_copy_37 : decode cX7_copy 37 = .ok (.aload 6, 2) := by decide +kernel
theorem dX7_copy_39 : decode cX7_copy 39 = .ok (.invokevirtual 64, 3) := by decide +kernel
theorem dX7_copy_42 : decode cX7_copy 42 = .ok (.ifCond .ne 11, 3) := by decide +kernel
theorem dX7_copy_45 : decode cX7_copy 45 = .ok (.aload 7, 2) := by decide +kernel
theorem dX7_copy_47 : decode cX7_copy 47 = .ok (.invokevirtual 64, 3) := by decide +kernel
theorem dX7_copy_50 : decode cX7_copy 50 = .ok (.ifCond .eq 9, 3) := by decide +kernel
theorem dX7_copy_53 : decode cX7_copy 53 = .ok (.aload_n 0, 1) := by decide +kernel
theorem dX7_copy_54 : decode cX7_copy 54 = .ok (.iconst 1, 1) := by decide +kernel
theorem dX7_copy_55 : decode cX7_copy 55 = .ok (.invokevirtual 60, 3) := by decide +kernel
theorem dX7_copy_58 : decode cX7_copy 58 = .ok (.ireturn, 1) := by decide +kernel
theorem dX7_copy_59 : decode cX7_copy 59 = .ok (.aload 6, 2) := by decide +kernel
theorem dX7_copy_61 : decode cX7_copy 61 = .ok (.aload 7, 2) := by decide +kernel
theorem dX7_copy_63 : decode cX7_copy 63 = .ok (.getfield 183, 3) := by decide +kernel
theorem dX7_copy_66 : decode cX7_copy 66 = .ok (.invokevirtual 57, 3) := by decide +kernel
theorem dX7_copy_69 : decode cX7_copy 69 = .ok (.ifCond .ne 9, 3) := by decide +kernel
theorem dX7_copy_72 : decode cX7_copy 72 = .ok (.aload_n 0, 1) := by decide +kernel
theorem dX7_copy_73 : decode cX7_copy 73 = .ok (.iconst 2, 1) := by decide +kernel
theorem dX7_copy_74 : decode cX7_copy 74 = .ok (.invokevirtual 60, 3) := by decide +kernel
theorem dX7_copy_77 : decode cX7_copy 77 = .ok (.ireturn, 1) := by decide +kernel
theorem dX7_copy_78 : decode cX7_copy 78 = .ok (.aload 6, 2) := by decide +kernel
theorem dX7_copy_80 : decode cX7_copy 80 = .ok (.iload_n 2, 1) := by decide +kernel
theorem dX7_copy_81 : decode cX7_copy 81 = .ok (.iload 5, 2) := by decide +kernel
theorem dX7_copy_83 : decode cX7_copy 83 = .ok (.invokevirtual 68, 3) := by decide +kernel
theorem dX7_copy_86 : decode cX7_copy 86 = .ok (.ifCond .eq 15, 3) := by decide +kernel
theorem dX7_copy_89 : decode cX7_copy 89 = .ok (.aload 7, 2) := by decide +kernel
theorem dX7_copy_91 : decode cX7_copy 91 = .ok (.iload 4, 2) := by decide +kernel
theorem dX7_copy_93 : decode cX7_copy 93 = .ok (.iload 5, 2) := by decide +kernel
theorem dX7_copy_95 : decode cX7_copy 95 = .ok (.invokevirtual 68, 3) := by decide +kernel
theorem dX7_copy_98 : decode cX7_copy 98 = .ok (.ifCond .ne 9, 3) := by decide +kernel
theorem dX7_copy_101 : decode cX7_copy 101 = .ok (.aload_n 0, 1) := by decide +kernel
theorem dX7_copy_102 : decode cX7_copy 102 = .ok (.iconst 3, 1) := by decide +kernel
theorem dX7_copy_103 : decode cX7_copy 103 = .ok (.invokevirtual 60, 3) := by decide +kernel
theorem dX7_copy_106 : decode cX7_copy 106 = .ok (.ireturn, 1) := by decide +kernel
theorem dX7_copy_107 : decode cX7_copy 107 = .ok (.aload 6, 2) := by decide +kernel
theorem dX7_copy_109 : decode cX7_copy 109 = .ok (.getfield 186, 3) := by decide +kernel
theorem dX7_copy_112 : decode cX7_copy 112 = .ok (.iload_n 2, 1) := by decide +kernel
theorem dX7_copy_113 : decode cX7_copy 113 = .ok (.aload 7, 2) := by decide +kernel
theorem dX7_copy_115 : decode cX7_copy 115 = .ok (.getfield 186, 3) := by decide +kernel
theorem dX7_copy_118 : decode cX7_copy 118 = .ok (.iload 4, 2) := by decide +kernel
theorem dX7_copy_120 : decode cX7_copy 120 = .ok (.iload 5, 2) := by decide +kernel
theorem dX7_copy_122 : decode cX7_copy 122 = .ok (.invokestatic 189, 3) := by decide +kernel
theorem dX7_copy_125 : decode cX7_copy 125 = .ok (.iload 5, 2) := by decide +kernel
theorem dX7_copy_127 : decode cX7_copy 127 = .ok (.ireturn, 1) := by decide +kernel
set_option maxRecDepth 20000 in
theorem ggX7_tell_X7_isPerson : GoodIn wsX7_tell wsX7_isPerson := goodIn_r _ [7, 1, 63, 64, 65, 66, 67, 68, 69, 70, 71, 72, 73, 74, 75, 76] (by decide +kernel) (by decide +kernel)
set_option maxRecDepth 20000 in
theorem gX7_tell_X7_isPerson : GoodIn wsX7_tell (wsV RX7 86 RX7 yX7_isPerson wsX7_isPerson) := goodIn_app (goodIn_of _ (by decide +kernel)) ggX7_tell_X7_isPerson
set_option maxRecDepth 20000 in
theorem ggX7_tell_X5_bodyOf : GoodIn wsX7_tell wsX5_bodyOf := goodIn_r _ [12, 13, 14, 70, 71, 72, 73, 74, 75, 76] (by decide +kernel) (by decide +kernel)
set_option maxRecDepth 20000 in
theorem gX7_tell_X5_bodyOf : GoodIn wsX7_tell (wsV RX7 195 RX5 yX5_bodyOf wsX5_bodyOf) := goodIn_app (goodIn_of _ (by decide +kernel)) ggX7_tell_X5_bodyOf
set_option maxRecDepth 20000 in
theorem ggX7_tell_X5_penceInAll : GoodIn wsX7_tell wsX5_penceInAll := goodIn_r _ [18, 19, 20, 70, 71, 72, 73, 74, 75, 76] (by decide +kernel) (by decide +kernel)
set_option maxRecDepth 20000 in
theorem gX7_tell_X5_penceInAll : GoodIn wsX7_tell (wsV RX7 93 RX5 yX5_penceInAll wsX5_penceInAll) := goodIn_app (goodIn_of _ (by decide +kernel)) ggX7_tell_X5_penceInAll
set_option maxRecDepth 20000 in
theorem ggX7_tell_X0_telling : GoodIn wsX7_tell wsX0_telling := goodIn_r _ [27, 28, 29, 30, 31, 32, 33, 34, 35, 36, 37, 38, 39, 40, 41, 42, 43, 44, 45, 46, 47, 48, 49, 50, 51, 77] (by decide +kernel) (by decide +kernel)
set_option maxRecDepth 20000 in
theorem gX7_tell_X0_telling_u199X0 : GoodIn wsX7_tell (va_wsO RX7 199 RX0 "DebtLamps$Person" ⟨"DebtLamps$Person", "telling", "(ILDebtLamps$Trail;)I"⟩ yX0_telling wsX0_telling) := goodIn_app (goodIn_of _ (by decide +kernel)) ggX7_tell_X0_telling
set_option maxRecDepth 20000 in
theorem ggX7_tell_X1_telling : GoodIn wsX7_tell wsX1_telling := goodIn_r _ [52, 56, 57, 58, 44, 45, 46, 47, 29, 30, 31, 32, 33, 59, 60, 61, 77] (by decide +kernel) (by decide +kernel)
set_option maxRecDepth 20000 in
theorem gX7_tell_X1_telling : GoodIn wsX7_tell (wsV RX7 199 RX1 yX1_telling wsX1_telling) := goodIn_app (goodIn_of _ (by decide +kernel)) ggX7_tell_X1_telling
set_option maxRecDepth 20000 in
theorem ggX7_tell_X3_telling : GoodIn wsX7_tell wsX3_telling := goodIn_r _ [39, 40, 29, 30, 31, 32, 33, 41, 42, 43, 44, 45, 46, 47, 48, 77] (by decide +kernel) (by decide +kernel)
set_option maxRecDepth 20000 in
theorem gX7_tell_X3_telling_u199X3 : GoodIn wsX7_tell (va_wsO RX7 199 RX3 "DebtLamps$Person" ⟨"DebtLamps$Person", "telling", "(ILDebtLamps$Trail;)I"⟩ yX3_telling wsX3_telling) := goodIn_app (goodIn_of _ (by decide +kernel)) ggX7_tell_X3_telling
theorem dX7_tell_0 : decode cX7_tell 0 = .ok (.aload_n 0, 1) := by decide +kernel
theorem dX7_tell_1 : decode cX7_tell 1 = .ok (.iload_n 1, 1) := by decide +kernel
theorem dX7_tell_2 : decode cX7_tell 2 = .ok (.invokevirtual 86, 3) := by decide +kernel
theorem dX7_tell_5 : decode cX7_tell 5 = .ok (.ifCond .ne 5, 3) := by decide +kernel
theorem dX7_tell_8 : decode cX7_tell 8 = .ok (.iconst (-1), 1) := by decide +kernel
theorem dX7_tell_9 : decode cX7_tell 9 = .ok (.ireturn, 1) := by decide +kernel
theorem dX7_tell_10 : decode cX7_tell 10 = .ok (.aload_n 0, 1) := by decide +kernel
theorem dX7_tell_11 : decode cX7_tell 11 = .ok (.getfield 12, 3) := by decide +kernel
theorem dX7_tell_14 : decode cX7_tell 14 = .ok (.iload_n 1, 1) := by decide +kernel
theorem dX7_tell_15 : decode cX7_tell 15 = .ok (.invokevirtual 195, 3) := by decide +kernel
theorem dX7_tell_18 : decode cX7_tell 18 = .ok (.aload_n 0, 1) := by decide +kernel
theorem dX7_tell_19 : decode cX7_tell 19 = .ok (.getfield 12, 3) := by decide +kernel
theorem dX7_tell_22 : decode cX7_tell 22 = .ok (.iload_n 1, 1) := by decide +kernel
theorem dX7_tell_23 : decode cX7_tell 23 = .ok (.invokevirtual 93, 3) := by decide +kernel
theorem dX7_tell_26 : decode cX7_tell 26 = .ok (.aload_n 0, 1) := by decide +kernel
theorem dX7_tell_27 : decode cX7_tell 27 = .ok (.getfield 27, 3) := by decide +kernel
theorem dX7_tell_30 : decode cX7_tell 30 = .ok (.invokevirtual 199, 3) := by decide +kernel
theorem dX7_tell_33 : decode cX7_tell 33 = .ok (.ireturn, 1) := by decide +kernel
set_option maxRecDepth 20000 in
theorem ggX7_hail_X7_isPerson : GoodIn wsX7_hail wsX7_isPerson := goodIn_r _ [7, 1, 35, 36, 37, 38, 39, 40, 41, 42, 43, 44, 45, 46, 47, 48] (by decide +kernel) (by decide +kernel)
set_option maxRecDepth 20000 in
theorem gX7_hail_X7_isPerson : GoodIn wsX7_hail (wsV RX7 86 RX7 yX7_isPerson wsX7_isPerson) := goodIn_app (goodIn_of _ (by decide +kernel)) ggX7_hail_X7_isPerson
set_option maxRecDepth 20000 in
theorem ggX7_hail_X5_bodyOf : GoodIn wsX7_hail wsX5_bodyOf := goodIn_r _ [12, 13, 14, 42, 43, 44, 45, 46, 47, 48] (by decide +kernel) (by decide +kernel)
set_option maxRecDepth 20000 in
theorem gX7_hail_X5_bodyOf : GoodIn wsX7_hail (wsV RX7 195 RX5 yX5_bodyOf wsX5_bodyOf) := goodIn_app (goodIn_of _ (by decide +kernel)) ggX7_hail_X5_bodyOf
set_option maxRecDepth 20000 in
theorem ggX7_hail_X0_hailing : GoodIn wsX7_hail wsX0_hailing := goodIn_r _ [21, 22, 23, 24, 25, 26, 27, 49] (by decide +kernel) (by decide +kernel)
set_option maxRecDepth 20000 in
theorem gX7_hail_X0_hailing_u205X0 : GoodIn wsX7_hail (va_wsO RX7 205 RX0 "DebtLamps$Person" ⟨"DebtLamps$Person", "hailing", "(ILDebtLamps$Trail;)I"⟩ yX0_hailing wsX0_hailing) := goodIn_app (goodIn_of _ (by decide +kernel)) ggX7_hail_X0_hailing
set_option maxRecDepth 20000 in
theorem ggX7_hail_X1_hailing : GoodIn wsX7_hail wsX1_hailing := goodIn_r _ [28, 33, 23, 24, 25, 26, 27, 49] (by decide +kernel) (by decide +kernel)
set_option maxRecDepth 20000 in
theorem gX7_hail_X1_hailing : GoodIn wsX7_hail (wsV RX7 205 RX1 yX1_hailing wsX1_hailing) := goodIn_app (goodIn_of _ (by decide +kernel)) ggX7_hail_X1_hailing
set_option maxRecDepth 20000 in
theorem gX7_hail_X1_hailing_u205X3 : GoodIn wsX7_hail (va_wsU RX7 205 RX3 "DebtLamps$Person" ⟨"DebtLamps$Person", "hailing", "(ILDebtLamps$Trail;)I"⟩ yX1_hailing wsX1_hailing) := goodIn_app (goodIn_of _ (by decide +kernel)) ggX7_hail_X1_hailing
theorem dX7_hail_0 : decode cX7_hail 0 = .ok (.aload_n 0, 1) := by decide +kernel
theorem dX7_hail_1 : decode cX7_hail 1 = .ok (.iload_n 1, 1) := by decide +kernel
theorem dX7_hail_2 : decode cX7_hail 2 = .ok (.invokevirtual 86, 3) := by decide +kernel
theorem dX7_hail_5 : decode cX7_hail 5 = .ok (.ifCond .ne 5, 3) := by decide +kernel
theorem dX7_hail_8 : decode cX7_hail 8 = .ok (.iconst (-1), 1) := by decide +kernel
theorem dX7_hail_9 : decode cX7_hail 9 = .ok (.ireturn, 1) := by decide +kernel
theorem dX7_hail_10 : decode cX7_hail 10 = .ok (.aload_n 0, 1) := by decide +kernel
theorem dX7_hail_11 : decode cX7_hail 11 = .ok (.getfield 12, 3) := by decide +kernel
theorem dX7_hail_14 : decode cX7_hail 14 = .ok (.iload_n 1, 1) := by decide +kernel
theorem dX7_hail_15 : decode cX7_hail 15 = .ok (.invokevirtual 195, 3) := by decide +kernel
theorem dX7_hail_18 : decode cX7_hail 18 = .ok (.iload_n 1, 1) := by decide +kernel
theorem dX7_hail_19 : decode cX7_hail 19 = .ok (.aload_n 0, 1) := by decide +kernel
theorem dX7_hail_20 : decode cX7_hail 20 = .ok (.getfield 27, 3) := by decide +kernel
theorem dX7_hail_23 : decode cX7_hail 23 = .ok (.invokevirtual 205, 3) := by decide +kernel
theorem dX7_hail_26 : decode cX7_hail 26 = .ok (.ireturn, 1) := by decide +kernel
set_option maxRecDepth 20000 in
theorem ggX7_as_X7_isPerson : GoodIn wsX7_as wsX7_isPerson := goodIn_r _ [7, 2, 15, 16, 17, 18, 19, 20, 21, 22, 23, 24, 25, 26, 27, 28] (by decide +kernel) (by decide +kernel)
set_option maxRecDepth 20000 in
theorem gX7_as_X7_isPerson : GoodIn wsX7_as (wsV RX7 86 RX7 yX7_isPerson wsX7_isPerson) := goodIn_app (goodIn_of _ (by decide +kernel)) ggX7_as_X7_isPerson
set_option maxRecDepth 20000 in
theorem ggX7_as_X7_isWithin : GoodIn wsX7_as wsX7_isWithin := goodIn_r _ [10] (by decide +kernel) (by decide +kernel)
set_option maxRecDepth 20000 in
theorem gX7_as_X7_isWithin : GoodIn wsX7_as (va_wsS RX7 53 yX7_isWithin wsX7_isWithin) := goodIn_app (goodIn_of _ (by decide +kernel)) ggX7_as_X7_isWithin
set_option maxRecDepth 20000 in
theorem ggX7_as_X7_faulted : GoodIn wsX7_as wsX7_faulted := goodIn_r _ [14, 1, 15, 16, 17, 18, 19, 20, 21] (by decide +kernel) (by decide +kernel)
set_option maxRecDepth 20000 in
theorem gX7_as_X7_faulted : GoodIn wsX7_as (wsV RX7 60 RX7 yX7_faulted wsX7_faulted) := goodIn_app (goodIn_of _ (by decide +kernel)) ggX7_as_X7_faulted
theorem dX7_as_0 : decode cX7_as 0 = .ok (.aload_n 0, 1) := by decide +kernel
theorem dX7_as_1 : decode cX7_as 1 = .ok (.iconst 0, 1) := by decide +kernel
theorem dX7_as_2 : decode cX7_as 2 = .ok (.putfield 45, 3) := by decide +kernel
theorem dX7_as_5 : decode cX7_as 5 = .ok (.aload_n 0, 1) := by decide +kernel
theorem dX7_as_6 : decode cX7_as 6 = .ok (.iload_n 1, 1) := by decide +kernel
theorem dX7_as_7 : decode cX7_as 7 = .ok (.invokevirtual 86, 3) := by decide +kernel
theorem dX7_as_10 : decode cX7_as 10 = .ok (.ifCond .ne 5, 3) := by decide +kernel
theorem dX7_as_13 : decode cX7_as 13 = .ok (.iconst (-1), 1) := by decide +kernel
theorem dX7_as_14 : decode cX7_as 14 = .ok (.ireturn, 1) := by decide +kernel
theorem dX7_as_15 : decode cX7_as 15 = .ok (.iload_n 2, 1) := by decide +kernel
theorem dX7_as_16 : decode cX7_as 16 = .ok (.iconst 2, 1) := by decide +kernel
theorem dX7_as_17 : decode cX7_as 17 = .ok (.invokestatic 53, 3) := by decide +kernel
theorem dX7_as_20 : decode cX7_as 20 = .ok (.ifCond .ne 6, 3) := by decide +kernel
theorem dX7_as_23 : decode cX7_as 23 = .ok (.bipush (-2), 2) := by decide +kernel
theorem dX7_as_25 : decode cX7_as 25 = .ok (.ireturn, 1) := by decide +kernel
theorem dX7_as_26 : decode cX7_as 26 = .ok (.aload_n 0, 1) := by decide +kernel
theorem dX7_as_27 : decode cX7_as 27 = .ok (.getfield 12, 3) := by decide +kernel
theorem dX7_as_30 : decode cX7_as 30 = .ok (.getfield 89, 3) := by decide +kernel
theorem dX7_as_33 : decode cX7_as 33 = .ok (.iload_n 1, 1) := by decide +kernel
theorem dX7_as_34 : decode cX7_as 34 = .ok (.iaload, 1) := by decide +kernel
theorem dX7_as_35 : decode cX7_as 35 = .ok (.iload_n 2, 1) := by decide +kernel
theorem dX7_as_36 : decode cX7_as 36 = .ok (.if_icmp .ge 9, 3) := by decide +kernel
theorem dX7_as_39 : decode cX7_as 39 = .ok (.aload_n 0, 1) := by decide +kernel
theorem dX7_as_40 : decode cX7_as 40 = .ok (.iconst 2, 1) := by decide +kernel
theorem dX7_as_41 : decode cX7_as 41 = .ok (.invokevirtual 60, 3) := by decide +kernel
theorem dX7_as_44 : decode cX7_as 44 = .ok (.ireturn, 1) := by decide +kernel
theorem dX7_as_45 : decode cX7_as 45 = .ok (.iconst 1, 1) := by decide +kernel
theorem dX7_as_46 : decode cX7_as 46 = .ok (.ireturn, 1) := by decide +kernel
theorem dX7_trace_0 : decode cX7_trace 0 = .ok (.aload_n 0, 1) := by decide +kernel
theorem dX7_trace_1 : decode cX7_trace 1 = .ok (.getfield 27, 3) := by decide +kernel
theorem dX7_trace_4 : decode cX7_trace 4 = .ok (.getfield 208, 3) := by decide +kernel
theorem dX7_trace_7 : decode cX7_trace 7 = .ok (.ireturn, 1) := by decide +kernel
theorem dX7_fault_0 : decode cX7_fault 0 = .ok (.aload_n 0, 1) := by decide +kernel
theorem dX7_fault_1 : decode cX7_fault 1 = .ok (.getfield 45, 3) := by decide +kernel
theorem dX7_fault_4 : decode cX7_fault 4 = .ok (.ireturn, 1) := by decide +kernel
set_option maxRecDepth 20000 in
theorem ggX7_many_X5_litLamps : GoodIn wsX7_many wsX5_litLamps := goodIn_r _ [7, 8, 9, 10, 11, 6, 12, 13, 14, 15, 16, 17, 18, 19, 20, 21, 22, 23, 24, 25, 26, 27, 28, 29, 30, 31, 32, 33, 34, 35, 50, 51, 52, 53, 54, 55, 56] (by decide +kernel) (by decide +kernel)
set_option maxRecDepth 20000 in
theorem gX7_many_X5_litLamps : GoodIn wsX7_many (wsV RX7 122 RX5 yX5_litLamps wsX5_litLamps) := goodIn_app (goodIn_of _ (by decide +kernel)) ggX7_many_X5_litLamps
set_option maxRecDepth 20000 in
theorem ggX7_many_J6_bitCount_0f7a4 : GoodIn wsX7_many wsJ6_bitCount_0f7a4 := goodIn_r _ [39, 40, 41, 42] (by decide +kernel) (by decide +kernel)
set_option maxRecDepth 20000 in
theorem gX7_many_J6_bitCount_0f7a4 : GoodIn wsX7_many (va_wsS RX7 211 yJ6_bitCount_0f7a4 wsJ6_bitCount_0f7a4) := goodIn_app (goodIn_of _ (by decide +kernel)) ggX7_many_J6_bitCount_0f7a4
theorem dX7_many_0 : decode cX7_many 0 = .ok (.iload_n 1, 1) := by decide +kernel
theorem dX7_many_1 : decode cX7_many 1 = .ok (.tableswitch 66 0 3 #[31, 39, 47, 58], 31) := by decide +kernel
theorem dX7_many_32 : decode cX7_many 32 = .ok (.aload_n 0, 1) := by decide +kernel
theorem dX7_many_33 : decode cX7_many 33 = .ok (.getfield 12, 3) := by decide +kernel
theorem dX7_many_36 : decode cX7_many 36 = .ok (.getfield 83, 3) := by decide +kernel
theorem dX7_many_39 : decode cX7_many 39 = .ok (.ireturn, 1) := by decide +kernel
theorem dX7_many_40 : decode cX7_many 40 = .ok (.aload_n 0, 1) := by decide +kernel
theorem dX7_many_41 : decode cX7_many 41 = .ok (.getfield 12, 3) := by decide +kernel
theorem dX7_many_44 : decode cX7_many 44 = .ok (.getfield 102, 3) := by decide +kernel
theorem dX7_many_47 : decode cX7_many 47 = .ok (.ireturn, 1) := by decide +kernel
theorem dX7_many_48 : decode cX7_many 48 = .ok (.aload_n 0, 1) := by decide +kernel
theorem dX7_many_49 : decode cX7_many 49 = .ok (.getfield 12, 3) := by decide +kernel
theorem dX7_many_52 : decode cX7_many 52 = .ok (.invokevirtual 122, 3) := by decide +kernel
theorem dX7_many_55 : decode cX7_many 55 = .ok (.invokestatic 211, 3) := by decide +kernel
theorem dX7_many_58 : decode cX7_many 58 = .ok (.ireturn, 1) := by decide +kernel
theorem dX7_many_59 : decode cX7_many 59 = .ok (.aload_n 0, 1) := by decide +kernel
theorem dX7_many_60 : decode cX7_many 60 = .ok (.getfield 34, 3) := by decide +kernel
theorem dX7_many_63 : decode cX7_many 63 = .ok (.getfield 150, 3) := by decide +kernel
theorem dX7_many_66 : decode cX7_many 66 = .ok (.ireturn, 1) := by decide +kernel
theorem dX7_many_67 : decode cX7_many 67 = .ok (.bipush (-2), 2) := by decide +kernel
theorem dX7_many_69 : decode cX7_many 69 = .ok (.ireturn, 1) := by decide +kernel
theorem dX7_hasTown_0 : decode cX7_hasTown 0 = .ok (.aload_n 0, 1) := by decide +kernel
theorem dX7_hasTown_1 : decode cX7_hasTown 1 = .ok (.getfield 12, 3) := by decide +kernel
theorem dX7_hasTown_4 : decode cX7_hasTown 4 = .ok (.getfield 83, 3) := by decide +kernel
theorem dX7_hasTown_7 : decode cX7_hasTown 7 = .ok (.ifCond .le 7, 3) := by decide +kernel
theorem dX7_hasTown_10 : decode cX7_hasTown 10 = .ok (.iconst 1, 1) := by decide +kernel
theorem dX7_hasTown_11 : decode cX7_hasTown 11 = .ok (.goto 4, 3) := by decide +kernel
theorem dX7_hasTown_14 : decode cX7_hasTown 14 = .ok (.iconst 0, 1) := by decide +kernel
theorem dX7_hasTown_15 : decode cX7_hasTown 15 = .ok (.ireturn, 1) := by decide +kernel
theorem dX7_isPerson_0 : decode cX7_isPerson 0 = .ok (.iload_n 1, 1) := by decide +kernel
theorem dX7_isPerson_1 : decode cX7_isPerson 1 = .ok (.ifCond .lt 18, 3) := by decide +kernel
theorem dX7_isPerson_4 : decode cX7_isPerson 4 = .ok (.iload_n 1, 1) := by decide +kernel
theorem dX7_isPerson_5 : decode cX7_isPerson 5 = .ok (.aload_n 0, 1) := by decide +kernel
theorem dX7_isPerson_6 : decode cX7_isPerson 6 = .ok (.getfield 12, 3) := by decide +kernel
theorem dX7_isPerson_9 : decode cX7_isPerson 9 = .ok (.getfield 83, 3) := by decide +kernel
theorem dX7_isPerson_12 : decode cX7_isPerson 12 = .ok (.if_icmp .ge 7, 3) := by decide +kernel
theorem dX7_isPerson_15 : decode cX7_isPerson 15 = .ok (.iconst 1, 1) := by decide +kernel
theorem dX7_isPerson_16 : decode cX7_isPerson 16 = .ok (.goto 4, 3) := by decide +kernel
theorem dX7_isPerson_19 : decode cX7_isPerson 19 = .ok (.iconst 0, 1) := by decide +kernel
theorem dX7_isPerson_20 : decode cX7_isPerson 20 = .ok (.ireturn, 1) := by decide +kernel
theorem dX7_isSheet_0 : decode cX7_isSheet 0 = .ok (.iload_n 0, 1) := by decide +kernel
theorem dX7_isSheet_1 : decode cX7_isSheet 1 = .ok (.ifCond .lt 12, 3) := by decide +kernel
theorem dX7_isSheet_4 : decode cX7_isSheet 4 = .ok (.iload_n 0, 1) := by decide +kernel
theorem dX7_isSheet_5 : decode cX7_isSheet 5 = .ok (.iconst 4, 1) := by decide +kernel
theorem dX7_isSheet_6 : decode cX7_isSheet 6 = .ok (.if_icmp .ge 7, 3) := by decide +kernel
theorem dX7_isSheet_9 : decode cX7_isSheet 9 = .ok (.iconst 1, 1) := by decide +kernel
theorem dX7_isSheet_10 : decode cX7_isSheet 10 = .ok (.goto 4, 3) := by decide +kernel
theorem dX7_isSheet_13 : decode cX7_isSheet 13 = .ok (.iconst 0, 1) := by decide +kernel
theorem dX7_isSheet_14 : decode cX7_isSheet 14 = .ok (.ireturn, 1) := by decide +kernel
theorem dX7_isWithin_0 : decode cX7_isWithin 0 = .ok (.iload_n 0, 1) := by decide +kernel
theorem dX7_isWithin_1 : decode cX7_isWithin 1 = .ok (.ifCond .lt 12, 3) := by decide +kernel
theorem dX7_isWithin_4 : decode cX7_isWithin 4 = .ok (.iload_n 0, 1) := by decide +kernel
theorem dX7_isWithin_5 : decode cX7_isWithin 5 = .ok (.iload_n 1, 1) := by decide +kernel
theorem dX7_isWithin_6 : decode cX7_isWithin 6 = .ok (.if_icmp .gt 7, 3) := by decide +kernel
theorem dX7_isWithin_9 : decode cX7_isWithin 9 = .ok (.iconst 1, 1) := by decide +kernel
theorem dX7_isWithin_10 : decode cX7_isWithin 10 = .ok (.goto 4, 3) := by decide +kernel
theorem dX7_isWithin_13 : decode cX7_isWithin 13 = .ok (.iconst 0, 1) := by decide +kernel
theorem dX7_isWithin_14 : decode cX7_isWithin 14 = .ok (.ireturn, 1) := by decide +kernel
theorem dX7_faulted_0 : decode cX7_faulted 0 = .ok (.aload_n 0, 1) := by decide +kernel
theorem dX7_faulted_1 : decode cX7_faulted 1 = .ok (.iload_n 1, 1) := by decide +kernel
theorem dX7_faulted_2 : decode cX7_faulted 2 = .ok (.putfield 45, 3) := by decide +kernel
theorem dX7_faulted_5 : decode cX7_faulted 5 = .ok (.bipush (-10), 2) := by decide +kernel
theorem dX7_faulted_7 : decode cX7_faulted 7 = .ok (.iload_n 1, 1) := by decide +kernel
theorem dX7_faulted_8 : decode cX7_faulted 8 = .ok (.isub, 1) := by decide +kernel
theorem dX7_faulted_9 : decode cX7_faulted 9 = .ok (.ireturn, 1) := by decide +kernel
theorem dX7_lostBy_0 : decode cX7_lostBy 0 = .ok (.aload_n 0, 1) := by decide +kernel
theorem dX7_lostBy_1 : decode cX7_lostBy 1 = .ok (.iload_n 1, 1) := by decide +kernel
theorem dX7_lostBy_2 : decode cX7_lostBy 2 = .ok (.putfield 45, 3) := by decide +kernel
theorem dX7_lostBy_5 : decode cX7_lostBy 5 = .ok (.ldc2_w 161, 3) := by decide +kernel
theorem dX7_lostBy_8 : decode cX7_lostBy 8 = .ok (.lreturn, 1) := by decide +kernel
end
section
theorem dX8_init_0 : decode cX8_init 0 = .ok (.aload_n 0, 1) := by decide +kernel
theorem dX8_init_1 : decode cX8_init 1 = .ok (.invokespecial 1, 3) := by decide +kernel
theorem dX8_init_4 : decode cX8_init 4 = .ok (.aload_n 0, 1) := by decide +kernel
theorem dX8_init_5 : decode cX8_init 5 = .ok (.iconst 4, 1) := by decide +kernel
theorem dX8_init_6 : decode cX8_init 6 = .ok (.newarray .int, 2) := by decide +kernel
theorem dX8_init_8 : decode cX8_init 8 = .ok (.dup, 1) := by decide +kernel
theorem dX8_init_9 : decode cX8_init 9 = .ok (.iconst 0, 1) := by decide +kernel
theorem dX8_init_10 : decode cX8_init 10 = .ok (.bipush (-9), 2) := by decide +kernel
theorem dX8_init_12 : decode cX8_init 12 = .ok (.iastore, 1) := by decide +kernel
theorem dX8_init_13 : decode cX8_init 13 = .ok (.dup, 1) := by decide +kernel
theorem dX8_init_14 : decode cX8_init 14 = .ok (.iconst 1, 1) := by decide +kernel
theorem dX8_init_15 : decode cX8_init 15 = .ok (.bipush (-9), 2) := by decide +kernel
theorem dX8_init_17 : decode cX8_init 17 = .ok (.iastore, 1) := by decide +kernel
theorem dX8_init_18 : decode cX8_init 18 = .ok (.dup, 1) := by decide +kernel
theorem dX8_init_19 : decode cX8_init 19 = .ok (.iconst 2, 1) := by decide +kernel
theorem dX8_init_20 : decode cX8_init 20 = .ok (.bipush (-9), 2) := by decide +kernel
theorem dX8_init_22 : decode cX8_init 22 = .ok (.iastore, 1) := by decide +kernel
theorem dX8_init_23 : decode cX8_init 23 = .ok (.dup, 1) := by decide +kernel
theorem dX8_init_24 : decode cX8_init 24 = .ok (.iconst 3, 1) := by decide +kernel
theorem dX8_init_25 : decode cX8_init 25 = .ok (.bipush (-9), 2) := by decide +kernel
theorem dX8_init_27 : decode cX8_init 27 = .ok (.iastore, 1) := by decide +kernel
theorem dX8_init_28 : decode cX8_init 28 = .ok (.putfield 9, 3) := by decide +kernel
theorem dX8_init_31 : decode cX8_init 31 = .ok (.aload_n 0, 1) := by decide +kernel
theorem dX8_init_32 : decode cX8_init 32 = .ok (.iconst 4, 1) := by decide +kernel
theorem dX8_init_33 : decode cX8_init 33 = .ok (.newarray .int, 2) := by decide +kernel
theorem dX8_init_35 : decode cX8_init 35 = .ok (.putfield 13, 3) := by decide +kernel
theorem dX8_init_38 : decode cX8_init 38 = .ok (.aload_n 0, 1) := by decide +kernel
theorem dX8_init_39 : decode cX8_init 39 = .ok (.sipush 240, 3) := by decide +kernel
theorem dX8_init_42 : decode cX8_init 42 = .ok (.newarray .int, 2) := by decide +kernel
theorem dX8_init_44 : decode cX8_init 44 = .ok (.putfield 16, 3) := by decide +kernel
theorem dX8_init_47 : decode cX8_init 47 = .ok (.aload_n 0, 1) := by decide +kernel
theorem dX8_init_48 : decode cX8_init 48 = .ok (.bipush 6, 2) := by decide +kernel
theorem dX8_init_50 : decode cX8_init 50 = .ok (.newarray .int, 2) := by decide +kernel
theorem dX8_init_52 : decode cX8_init 52 = .ok (.putfield 19, 3) := by decide +kernel
theorem dX8_init_55 : decode cX8_init 55 = .ok (.aload_n 0, 1) := by decide +kernel
theorem dX8_init_56 : decode cX8_init 56 = .ok (.bipush 36, 2) := by decide +kernel
theorem dX8_init_58 : decode cX8_init 58 = .ok (.newarray .int, 2) := by decide +kernel
theorem dX8_init_60 : decode cX8_init 60 = .ok (.putfield 22, 3) := by decide +kernel
theorem dX8_init_63 : decode cX8_init 63 = .ok (.aload_n 0, 1) := by decide +kernel
theorem dX8_init_64 : decode cX8_init 64 = .ok (.bipush 6, 2) := by decide +kernel
theorem dX8_init_66 : decode cX8_init 66 = .ok (.newarray .int, 2) := by decide +kernel
theorem dX8_init_68 : decode cX8_init 68 = .ok (.putfield 25, 3) := by decide +kernel
theorem dX8_init_71 : decode cX8_init 71 = .ok (.aload_n 0, 1) := by decide +kernel
theorem dX8_init_72 : decode cX8_init 72 = .ok (.bipush 36, 2) := by decide +kernel
theorem dX8_init_74 : decode cX8_init 74 = .ok (.newarray .int, 2) := by decide +kernel
theorem dX8_init_76 : decode cX8_init 76 = .ok (.putfield 28, 3) := by decide +kernel
theorem dX8_init_79 : decode cX8_init 79 = .ok (.aload_n 0, 1) := by decide +kernel
theorem dX8_init_80 : decode cX8_init 80 = .ok (.bipush 6, 2) := by decide +kernel
theorem dX8_init_82 : decode cX8_init 82 = .ok (.newarray .int, 2) := by decide +kernel
theorem dX8_init_84 : decode cX8_init 84 = .ok (.putfield 31, 3) := by decide +kernel
theorem dX8_init_87 : decode cX8_init 87 = .ok (.aload_n 0, 1) := by decide +kernel
theorem dX8_init_88 : decode cX8_init 88 = .ok (.bipush 6, 2) := by decide +kernel
theorem dX8_init_90 : decode cX8_init 90 = .ok (.newarray .boolean, 2) := by decide +kernel
theorem dX8_init_92 : decode cX8_init 92 = .ok (.putfield 34, 3) := by decide +kernel
theorem dX8_init_95 : decode cX8_init 95 = .ok (.aload_n 0, 1) := by decide +kernel
theorem dX8_init_96 : decode cX8_init 96 = .ok (.bipush 36, 2) := by decide +kernel
theorem dX8_init_98 : decode cX8_init 98 = .ok (.newarray .int, 2) := by decide +kernel
theorem dX8_init_100 : decode cX8_init 100 = .ok (.putfield 38, 3) := by decide +kernel
theorem dX8_init_103 : decode cX8_init 103 = .ok (.aload_n 0, 1) := by decide +kernel
theorem dX8_init_104 : decode cX8_init 104 = .ok (.bipush 8, 2) := by decide +kernel
theorem dX8_init_106 : decode cX8_init 106 = .ok (.newarray .int, 2) := by decide +kernel
theorem dX8_init_108 : decode cX8_init 108 = .ok (.putfield 41, 3) := by decide +kernel
theorem dX8_init_111 : decode cX8_init 111 = .ok (.aload_n 0, 1) := by decide +kernel
theorem dX8_init_112 : decode cX8_init 112 = .ok (.bipush 8, 2) := by decide +kernel
theorem dX8_init_114 : decode cX8_init 114 = .ok (.newarray .int, 2) := by decide +kernel
theorem dX8_init_116 : decode cX8_init 116 = .ok (.putfield 44, 3) := by decide +kernel
theorem dX8_init_119 : decode cX8_init 119 = .ok (.aload_n 0, 1) := by decide +kernel
theorem dX8_init_120 : decode cX8_init 120 = .ok (.bipush 8, 2) := by decide +kernel
theorem dX8_init_122 : decode cX8_init 122 = .ok (.newarray .int, 2) := by decide +kernel
theorem dX8_init_124 : decode cX8_init 124 = .ok (.putfield 47, 3) := by decide +kernel
theorem dX8_init_127 : decode cX8_init 127 = .ok (.return_, 1) := by decide +kernel
theorem dX8_fails_0 : decode cX8_fails 0 = .ok (.aload_n 0, 1) := by decide +kernel
theorem dX8_fails_1 : decode cX8_fails 1 = .ok (.iload_n 1, 1) := by decide +kernel
theorem dX8_fails_2 : decode cX8_fails 2 = .ok (.putfield 50, 3) := by decide +kernel
theorem dX8_fails_5 : decode cX8_fails 5 = .ok (.bipush (-10), 2) := by decide +kernel
theorem dX8_fails_7 : decode cX8_fails 7 = .ok (.iload_n 1, 1) := by decide +kernel
theorem dX8_fails_8 : decode cX8_fails 8 = .ok (.isub, 1) := by decide +kernel
theorem dX8_fails_9 : decode cX8_fails 9 = .ok (.ireturn, 1) := by decide +kernel
theorem dX8_lost_0 : decode cX8_lost 0 = .ok (.aload_n 0, 1) := by decide +kernel
theorem dX8_lost_1 : decode cX8_lost 1 = .ok (.iload_n 1, 1) := by decide +kernel
theorem dX8_lost_2 : decode cX8_lost 2 = .ok (.putfield 50, 3) := by decide +kernel
theorem dX8_lost_5 : decode cX8_lost 5 = .ok (.ldc2_w 54, 3) := by decide +kernel
theorem dX8_lost_8 : decode cX8_lost 8 = .ok (.lreturn, 1) := by decide +kernel
theorem dX8_within_0 : decode cX8_within 0 = .ok (.iload_n 0, 1) := by decide +kernel
theorem dX8_within_1 : decode cX8_within 1 = .ok (.iload_n 1, 1) := by decide +kernel
theorem dX8_within_2 : decode cX8_within 2 = .ok (.if_icmp .lt 12, 3) := by decide +kernel
theorem dX8_within_5 : decode cX8_within 5 = .ok (.iload_n 0, 1) := by decide +kernel
theorem dX8_within_6 : decode cX8_within 6 = .ok (.iload_n 2, 1) := by decide +kernel
theorem dX8_within_7 : decode cX8_within 7 = .ok (.if_icmp .gt 7, 3) := by decide +kernel
theorem dX8_within_10 : decode cX8_within 10 = .ok (.iconst 1, 1) := by decide +kernel
theorem dX8_within_11 : decode cX8_within 11 = .ok (.goto 4, 3) := by decide +kernel
theorem dX8_within_14 : decode cX8_within 14 = .ok (.iconst 0, 1) := by decide +kernel
theorem dX8_within_15 : decode cX8_within 15 = .ok (.ireturn, 1) := by decide +kernel
set_option maxRecDepth 20000 in
theorem ggX8_isSheet_X8_within : GoodIn wsX8_isSheet wsX8_within := goodIn_r _ [4] (by decide +kernel) (by decide +kernel)
set_option maxRecDepth 20000 in
theorem gX8_isSheet_X8_within : GoodIn wsX8_isSheet (va_wsS RX8 56 yX8_within wsX8_within) := goodIn_app (goodIn_of _ (by decide +kernel)) ggX8_isSheet_X8_within
theorem dX8_isSheet_0 : decode cX8_isSheet 0 = .ok (.iload_n 0, 1) := by decide +kernel
theorem dX8_isSheet_1 : decode cX8_isSheet 1 = .ok (.iconst 0, 1) := by decide +kernel
theorem dX8_isSheet_2 : decode cX8_isSheet 2 = .ok (.iconst 3, 1) := by decide +kernel
theorem dX8_isSheet_3 : decode cX8_isSheet 3 = .ok (.invokestatic 56, 3) := by decide +kernel
theorem dX8_isSheet_6 : decode cX8_isSheet 6 = .ok (.ireturn, 1) := by decide +kernel
set_option maxRecDepth 20000 in
theorem ggX8_isSort_X8_within : GoodIn wsX8_isSort wsX8_within := goodIn_r _ [4] (by decide +kernel) (by decide +kernel)
set_option maxRecDepth 20000 in
theorem gX8_isSort_X8_within : GoodIn wsX8_isSort (va_wsS RX8 56 yX8_within wsX8_within) := goodIn_app (goodIn_of _ (by decide +kernel)) ggX8_isSort_X8_within
theorem dX8_isSort_0 : decode cX8_isSort 0 = .ok (.iload_n 0, 1) := by decide +kernel
theorem dX8_isSort_1 : decode cX8_isSort 1 = .ok (.iconst 0, 1) := by decide +kernel
theorem dX8_isSort_2 : decode cX8_isSort 2 = .ok (.iconst 2, 1) := by decide +kernel
theorem dX8_isSort_3 : decode cX8_isSort 3 = .ok (.invokestatic 56, 3) := by decide +kernel
theorem dX8_isSort_6 : decode cX8_isSort 6 = .ok (.ireturn, 1) := by decide +kernel
theorem dX8_against_0 : decode cX8_against 0 = .ok (.aload_n 0, 1) := by decide +kernel
theorem dX8_against_1 : decode cX8_against 1 = .ok (.getfield 9, 3) := by decide +kernel
theorem dX8_against_4 : decode cX8_against 4 = .ok (.iload_n 1, 1) := by decide +kernel
theorem dX8_against_5 : decode cX8_against 5 = .ok (.iaload, 1) := by decide +kernel
theorem dX8_against_6 : decode cX8_against 6 = .ok (.bipush (-9), 2) := by decide +kernel
theorem dX8_against_8 : decode cX8_against 8 = .ok (.if_icmp .eq 15, 3) := by decide +kernel
theorem dX8_against_11 : decode cX8_against 11 = .ok (.aload_n 0, 1) := by decide +kernel
theorem dX8_against_12 : decode cX8_against 12 = .ok (.getfield 9, 3) := by decide +kernel
theorem dX8_against_15 : decode cX8_against 15 = .ok (.iload_n 1, 1) := by decide +kernel
theorem dX8_against_16 : decode cX8_against 16 = .ok (.iaload, 1) := by decide +kernel
theorem dX8_against_17 : decode cX8_against 17 = .ok (.iload_n 2, 1) := by decide +kernel
theorem dX8_against_18 : decode cX8_against 18 = .ok (.if_icmp .eq 5, 3) := by decide +kernel
theorem dX8_against_21 : decode cX8_against 21 = .ok (.iconst 2, 1) := by decide +kernel
theorem dX8_against_22 : decode cX8_against 22 = .ok (.ireturn, 1) := by decide +kernel
theorem dX8_against_23 : decode cX8_against 23 = .ok (.aload_n 0, 1) := by decide +kernel
theorem dX8_against_24 : decode cX8_against 24 = .ok (.getfield 9, 3) := by decide +kernel
theorem dX8_against_27 : decode cX8_against 27 = .ok (.iload_n 1, 1) := by decide +kernel
theorem dX8_against_28 : decode cX8_against 28 = .ok (.iaload, 1) := by decide +kernel
theorem dX8_against_29 : decode cX8_against 29 = .ok (.bipush (-9), 2) := by decide +kernel
theorem dX8_against_31 : decode cX8_against 31 = .ok (.if_icmp .ne 5, 3) := by decide +kernel
theorem dX8_against_34 : decode cX8_against 34 = .ok (.iconst 1, 1) := by decide +kernel
theorem dX8_against_35 : decode cX8_against 35 = .ok (.ireturn, 1) := by decide +kernel
theorem dX8_against_36 : decode cX8_against 36 = .ok (.iload 4, 2) := by decide +kernel
theorem dX8_against_38 : decode cX8_against 38 = .ok (.ifCond .ge 5, 3) := by decide +kernel
theorem dX8_against_41 : decode cX8_against 41 = .ok (.iconst 4, 1) := by decide +kernel
theorem dX8_against_42 : decode cX8_against 42 = .ok (.ireturn, 1) := by decide +kernel
theorem dX8_against_43 : decode cX8_against 43 = .ok (.iload_n 3, 1) := by decide +kernel
theorem dX8_against_44 : decode cX8_against 44 = .ok (.ifCond .lt 26, 3) := by decide +kernel
theorem dX8_against_47 : decode cX8_against 47 = .ok (.iload_n 3, 1) := by decide +kernel
theorem dX8_against_48 : decode cX8_against 48 = .ok (.aload_n 0, 1) := by decide +kernel
theorem dX8_against_49 : decode cX8_against 49 = .ok (.getfield 13, 3) := by decide +kernel
theorem dX8_against_52 : decode cX8_against 52 = .ok (.iload_n 1, 1) := by decide +kernel
theorem dX8_against_53 : decode cX8_against 53 = .ok (.iaload, 1) := by decide +kernel
theorem dX8_against_54 : decode cX8_against 54 = .ok (.if_icmp .gt 16, 3) := by decide +kernel
theorem dX8_against_57 : decode cX8_against 57 = .ok (.iload 4, 2) := by decide +kernel
theorem dX8_against_59 : decode cX8_against 59 = .ok (.aload_n 0, 1) := by decide +kernel
theorem dX8_against_60 : decode cX8_against 60 = .ok (.getfield 13, 3) := by decide +kernel
theorem dX8_against_63 : decode cX8_against 63 = .ok (.iload_n 1, 1) := by decide +kernel
theorem dX8_against_64 : decode cX8_against 64 = .ok (.iaload, 1) := by decide +kernel
theorem dX8_against_65 : decode cX8_against 65 = .ok (.iload_n 3, 1) := by decide +kernel
theorem dX8_against_66 : decode cX8_against 66 = .ok (.isub, 1) := by decide +kernel
theorem dX8_against_67 : decode cX8_against 67 = .ok (.if_icmp .le 7, 3) := by decide +kernel
theorem dX8_against_70 : decode cX8_against 70 = .ok (.iconst 3, 1) := by decide +kernel
theorem dX8_against_71 : decode cX8_against 71 = .ok (.goto 4, 3) := by decide +kernel
theorem dX8_against_74 : decode cX8_against 74 = .ok (.iconst 0, 1) := by decide +kernel
theorem dX8_against_75 : decode cX8_against 75 = .ok (.ireturn, 1) := by decide +kernel
theorem dX8_isPerson_0 : decode cX8_isPerson 0 = .ok (.iload_n 1, 1) := by decide +kernel
theorem dX8_isPerson_1 : decode cX8_isPerson 1 = .ok (.ifCond .lt 15, 3) := by decide +kernel
theorem dX8_isPerson_4 : decode cX8_isPerson 4 = .ok (.iload_n 1, 1) := by decide +kernel
theorem dX8_isPerson_5 : decode cX8_isPerson 5 = .ok (.aload_n 0, 1) := by decide +kernel
theorem dX8_isPerson_6 : decode cX8_isPerson 6 = .ok (.getfield 60, 3) := by decide +kernel
theorem dX8_isPerson_9 : decode cX8_isPerson 9 = .ok (.if_icmp .ge 7, 3) := by decide +kernel
theorem dX8_isPerson_12 : decode cX8_isPerson 12 = .ok (.iconst 1, 1) := by decide +kernel
theorem dX8_isPerson_13 : decode cX8_isPerson 13 = .ok (.goto 4, 3) := by decide +kernel
theorem dX8_isPerson_16 : decode cX8_isPerson 16 = .ok (.iconst 0, 1) := by decide +kernel
theorem dX8_isPerson_17 : decode cX8_isPerson 17 = .ok (.ireturn, 1) := by decide +kernel
set_option maxRecDepth 20000 in
theorem ggX8_areTwo_X8_isPerson : GoodIn wsX8_areTwo wsX8_isPerson := goodIn_r _ [5, 6, 7, 8, 9, 10, 11, 12, 13, 14, 15, 16, 17, 18, 19, 20, 21, 22, 23, 24, 25, 26, 27] (by decide +kernel) (by decide +kernel)
set_option maxRecDepth 20000 in
theorem gX8_areTwo_X8_isPerson : GoodIn wsX8_areTwo (wsV RX8 63 RX8 yX8_isPerson wsX8_isPerson) := goodIn_app (goodIn_of _ (by decide +kernel)) ggX8_areTwo_X8_isPerson
theorem dX8_areTwo_0 : decode cX8_areTwo 0 = .ok (.aload_n 0, 1) := by decide +kernel
theorem dX8_areTwo_1 : decode cX8_areTwo 1 = .ok (.iload_n 1, 1) := by decide +kernel
theorem dX8_areTwo_2 : decode cX8_areTwo 2 = .ok (.invokevirtual 63, 3) := by decide +kernel
theorem dX8_areTwo_5 : decode cX8_areTwo 5 = .ok (.ifCond .eq 20, 3) := by decide +kernel
theorem dX8_areTwo_8 : decode cX8_areTwo 8 = .ok (.aload_n 0, 1) := by decide +kernel
theorem dX8_areTwo_9 : decode cX8_areTwo 9 = .ok (.iload_n 2, 1) := by decide +kernel
theorem dX8_areTwo_10 : decode cX8_areTwo 10 = .ok (.invokevirtual 63, 3) := by decide +kernel
theorem dX8_areTwo_13 : decode cX8_areTwo 13 = .ok (.ifCond .eq 12, 3) := by decide +kernel
theorem dX8_areTwo_16 : decode cX8_areTwo 16 = .ok (.iload_n 1, 1) := by decide +kernel
theorem dX8_areTwo_17 : decode cX8_areTwo 17 = .ok (.iload_n 2, 1) := by decide +kernel
theorem dX8_areTwo_18 : decode cX8_areTwo 18 = .ok (.if_icmp .eq 7, 3) := by decide +kernel
theorem dX8_areTwo_21 : decode cX8_areTwo 21 = .ok (.iconst 1, 1) := by decide +kernel
theorem dX8_areTwo_22 : decode cX8_areTwo 22 = .ok (.goto 4, 3) := by decide +kernel
theorem dX8_areTwo_25 : decode cX8_areTwo 25 = .ok (.iconst 0, 1) := by decide +kernel
theorem dX8_areTwo_26 : decode cX8_areTwo 26 = .ok (.ireturn, 1) := by decide +kernel
theorem dX8_spot_0 : decode cX8_spot 0 = .ok (.bipush 6, 2) := by decide +kernel
theorem dX8_spot_2 : decode cX8_spot 2 = .ok (.iload_n 0, 1) := by decide +kernel
theorem dX8_spot_3 : decode cX8_spot 3 = .ok (.imul, 1) := by decide +kernel
theorem dX8_spot_4 : decode cX8_spot 4 = .ok (.iload_n 1, 1) := by decide +kernel
theorem dX8_spot_5 : decode cX8_spot 5 = .ok (.iadd, 1) := by decide +kernel
theorem dX8_spot_6 : decode cX8_spot 6 = .ok (.ireturn, 1) := by decide +kernel
set_option maxRecDepth 20000 in
theorem ggX8_digit_X8_within : GoodIn wsX8_digit wsX8_within := goodIn_r _ [6] (by decide +kernel) (by decide +kernel)
set_option maxRecDepth 20000 in
theorem gX8_digit_X8_within : GoodIn wsX8_digit (va_wsS RX8 56 yX8_within wsX8_within) := goodIn_app (goodIn_of _ (by decide +kernel)) ggX8_digit_X8_within
theorem dX8_digit_0 : decode cX8_digit 0 = .ok (.aload_n 0, 1) := by decide +kernel
theorem dX8_digit_1 : decode cX8_digit 1 = .ok (.getfield 67, 3) := by decide +kernel
theorem dX8_digit_4 : decode cX8_digit 4 = .ok (.iload_n 1, 1) := by decide +kernel
theorem dX8_digit_5 : decode cX8_digit 5 = .ok (.if_icmp .ge 26, 3) := by decide +kernel
theorem dX8_digit_8 : decode cX8_digit 8 = .ok (.aload_n 0, 1) := by decide +kernel
theorem dX8_digit_9 : decode cX8_digit 9 = .ok (.getfield 16, 3) := by decide +kernel
theorem dX8_digit_12 : decode cX8_digit 12 = .ok (.aload_n 0, 1) := by decide +kernel
theorem dX8_digit_13 : decode cX8_digit 13 = .ok (.getfield 67, 3) := by decide +kernel
theorem dX8_digit_16 : decode cX8_digit 16 = .ok (.iaload, 1) := by decide +kernel
theorem dX8_digit_17 : decode cX8_digit 17 = .ok (.bipush 48, 2) := by decide +kernel
theorem dX8_digit_19 : decode cX8_digit 19 = .ok (.iload_n 2, 1) := by decide +kernel
theorem dX8_digit_20 : decode cX8_digit 20 = .ok (.iadd, 1) := by decide +kernel
theorem dX8_digit_21 : decode cX8_digit 21 = .ok (.bipush 48, 2) := by decide +kernel
theorem dX8_digit_23 : decode cX8_digit 23 = .ok (.iload_n 3, 1) := by decide +kernel
theorem dX8_digit_24 : decode cX8_digit 24 = .ok (.iadd, 1) := by decide +kernel
theorem dX8_digit_25 : decode cX8_digit 25 = .ok (.invokestatic 56, 3) := by decide +kernel
theorem dX8_digit_28 : decode cX8_digit 28 = .ok (.ifCond .ne 6, 3) := by decide +kernel
theorem dX8_digit_31 : decode cX8_digit 31 = .ok (.bipush (-9), 2) := by decide +kernel
theorem dX8_digit_33 : decode cX8_digit 33 = .ok (.ireturn, 1) := by decide +kernel
theorem dX8_digit_34 : decode cX8_digit 34 = .ok (.aload_n 0, 1) := by decide +kernel
theorem dX8_digit_35 : decode cX8_digit 35 = .ok (.dup, 1) := by decide +kernel
theorem dX8_digit_36 : decode cX8_digit 36 = .ok (.getfield 67, 3) := by decide +kernel
theorem dX8_digit_39 : decode cX8_digit 39 = .ok (.iconst 1, 1) := by decide +kernel
theorem dX8_digit_40 : decode cX8_digit 40 = .ok (.iadd, 1) := by decide +kernel
theorem dX8_digit_41 : decode cX8_digit 41 = .ok (.putfield 67, 3) := by decide +kernel
theorem dX8_digit_44 : decode cX8_digit 44 = .ok (.aload_n 0, 1) := by decide +kernel
theorem dX8_digit_45 : decode cX8_digit 45 = .ok (.getfield 16, 3) := by decide +kernel
theorem dX8_digit_48 : decode cX8_digit 48 = .ok (.aload_n 0, 1) := by decide +kernel
theorem dX8_digit_49 : decode cX8_digit 49 = .ok (.getfield 67, 3) := by decide +kernel
theorem dX8_digit_52 : decode cX8_digit 52 = .ok (.iconst 1, 1) := by decide +kernel
theorem dX8_digit_53 : decode cX8_digit 53 = .ok (.isub, 1) := by decide +kernel
theorem dX8_digit_54 : decode cX8_digit 54 = .ok (.iaload, 1) := by decide +kernel
theorem dX8_digit_55 : decode cX8_digit 55 = .ok (.bipush 48, 2) := by decide +kernel
theorem dX8_digit_57 : decode cX8_digit 57 = .ok (.isub, 1) := by decide +kernel
theorem dX8_digit_58 : decode cX8_digit 58 = .ok (.ireturn, 1) := by decide +kernel
theorem dX8_isSign_0 : decode cX8_isSign 0 = .ok (.aload_n 0, 1) := by decide +kernel
theorem dX8_isSign_1 : decode cX8_isSign 1 = .ok (.getfield 67, 3) := by decide +kernel
theorem dX8_isSign_4 : decode cX8_isSign 4 = .ok (.iload_n 1, 1) := by decide +kernel
theorem dX8_isSign_5 : decode cX8_isSign 5 = .ok (.if_icmp .ge 16, 3) := by decide +kernel
theorem dX8_isSign_8 : decode cX8_isSign 8 = .ok (.aload_n 0, 1) := by decide +kernel
theorem dX8_isSign_9 : decode cX8_isSign 9 = .ok (.getfield 16, 3) := by decide +kernel
theorem dX8_isSign_12 : decode cX8_isSign 12 = .ok (.aload_n 0, 1) := by decide +kernel
theorem dX8_isSign_13 : decode cX8_isSign 13 = .ok (.getfield 67, 3) := by decide +kernel
theorem dX8_isSign_16 : decode cX8_isSign 16 = .ok (.iaload, 1) := by decide +kernel
theorem dX8_isSign_17 : decode cX8_isSign 17 = .ok (.iload_n 2, 1) := by decide +kernel
theorem dX8_isSign_18 : decode cX8_isSign 18 = .ok (.if_icmp .eq 5, 3) := by decide +kernel
theorem dX8_isSign_21 : decode cX8_isSign 21 = .ok (.iconst 0, 1) := by decide +kernel
theorem dX8_isSign_22 : decode cX8_isSign 22 = .ok (.ireturn, 1) := by decide +kernel
theorem dX8_isSign_23 : decode cX8_isSign 23 = .ok (.aload_n 0, 1) := by decide +kernel
theorem dX8_isSign_24 : decode cX8_isSign 24 = .ok (.dup, 1) := by decide +kernel
theorem dX8_isSign_25 : decode cX8_isSign 25 = .ok (.getfield 67, 3) := by decide +kernel
theorem dX8_isSign_28 : decode cX8_isSign 28 = .ok (.iconst 1, 1) := by decide +kernel
theorem dX8_isSign_29 : decode cX8_isSign 29 = .ok (.iadd, 1) := by decide +kernel
theorem dX8_isSign_30 : decode cX8_isSign 30 = .ok (.putfield 67, 3) := by decide +kernel
theorem dX8_isSign_33 : decode cX8_isSign 33 = .ok (.iconst 1, 1) := by decide +kernel
theorem dX8_isSign_34 : decode cX8_isSign 34 = .ok (.ireturn, 1) := by decide +kernel
set_option maxRecDepth 20000 in
theorem ggX8_town_X8_isSheet : GoodIn wsX8_town wsX8_isSheet := goodIn_r _ [15, 16, 17, 14, 18] (by decide +kernel) (by decide +kernel)
set_option maxRecDepth 20000 in
theorem gX8_town_X8_isSheet : GoodIn wsX8_town (va_wsS RX8 70 yX8_isSheet wsX8_isSheet) := goodIn_app (goodIn_of _ (by decide +kernel)) ggX8_town_X8_isSheet
set_option maxRecDepth 20000 in
theorem ggX8_town_X8_isSort : GoodIn wsX8_town wsX8_isSort := goodIn_r _ [21, 16, 17, 14, 18] (by decide +kernel) (by decide +kernel)
set_option maxRecDepth 20000 in
theorem gX8_town_X8_isSort : GoodIn wsX8_town (va_wsS RX8 73 yX8_isSort wsX8_isSort) := goodIn_app (goodIn_of _ (by decide +kernel)) ggX8_town_X8_isSort
set_option maxRecDepth 20000 in
theorem ggX8_town_X8_against : GoodIn wsX8_town wsX8_against := goodIn_r _ [25, 26, 27, 52, 53, 54, 55, 56, 57, 58, 59, 60, 61, 62, 63, 64, 65, 66, 67, 68, 69, 70, 71, 72] (by decide +kernel) (by decide +kernel)
set_option maxRecDepth 20000 in
theorem gX8_town_X8_against : GoodIn wsX8_town (wsV RX8 76 RX8 yX8_against wsX8_against) := goodIn_app (goodIn_of _ (by decide +kernel)) ggX8_town_X8_against
set_option maxRecDepth 20000 in
theorem ggX8_town_X8_fails : GoodIn wsX8_town wsX8_fails := goodIn_r _ [31, 1, 52, 53, 54, 55, 56, 57, 58, 59, 60, 61, 62, 63, 64, 65, 66, 67, 68, 69, 70, 71, 72] (by decide +kernel) (by decide +kernel)
set_option maxRecDepth 20000 in
theorem gX8_town_X8_fails : GoodIn wsX8_town (wsV RX8 80 RX8 yX8_fails wsX8_fails) := goodIn_app (goodIn_of _ (by decide +kernel)) ggX8_town_X8_fails
set_option maxRecDepth 20000 in
theorem ggX8_town_X8_readTown : GoodIn wsX8_town wsX8_readTown := goodIn_r _ [35, 3, 5, 2, 36, 37, 38, 14, 39, 40, 41, 42, 43, 44, 16, 17, 18, 45, 46, 47, 48, 8, 10, 49, 50, 51, 52, 53, 54, 55, 56, 57, 58, 59, 60, 61, 62, 63, 64, 65, 66, 67, 68, 69, 70, 71, 72] (by decide +kernel) (by decide +kernel)
set_option maxRecDepth 20000 in
theorem gX8_town_X8_readTown : GoodIn wsX8_town (wsV RX8 84 RX8 yX8_readTown wsX8_readTown) := goodIn_app (goodIn_of _ (by decide +kernel)) ggX8_town_X8_readTown
theorem dX8_town_0 : decode cX8_town 0 = .ok (.aload_n 0, 1) := by decide +kernel
theorem dX8_town_1 : decode cX8_town 1 = .ok (.iconst 0, 1) := by decide +kernel
theorem dX8_town_2 : decode cX8_town 2 = .ok (.putfield 50, 3) := by decide +kernel
theorem dX8_town_5 : decode cX8_town 5 = .ok (.iload_n 1, 1) := by decide +kernel
theorem dX8_town_6 : decode cX8_town 6 = .ok (.invokestatic 70, 3) := by decide +kernel
theorem dX8_town_9 : decode cX8_town 9 = .ok (.ifCond .ne 5, 3) := by decide +kernel
theorem dX8_town_12 : decode cX8_town 12 = .ok (.iconst (-1), 1) := by decide +kernel
theorem dX8_town_13 : decode cX8_town 13 = .ok (.ireturn, 1) := by decide +kernel
theorem dX8_town_14 : decode cX8_town 14 = .ok (.iload_n 2, 1) := by decide +kernel
theorem dX8_town_15 : decode cX8_town 15 = .ok (.invokestatic 73, 3) := by decide +kernel
theorem dX8_town_18 : decode cX8_town 18 = .ok (.ifCond .ne 6, 3) := by decide +kernel
theorem dX8_town_21 : decode cX8_town 21 = .ok (.bipush (-2), 2) := by decide +kernel
theorem dX8_town_23 : decode cX8_town 23 = .ok (.ireturn, 1) := by decide +kernel
theorem dX8_town_24 : decode cX8_town 24 = .ok (.aload_n 0, 1) := by decide +kernel
theorem dX8_town_25 : decode cX8_town 25 = .ok (.iload_n 1, 1) := by decide +kernel
theorem dX8_town_26 : decode cX8_town 26 = .ok (.iload_n 2, 1) := by decide +kernel
theorem dX8_town_27 : decode cX8_town 27 = .ok (.iload_n 3, 1) := by decide +kernel
theorem dX8_town_28 : decode cX8_town 28 = .ok (.iload 4, 2) := by decide +kernel
theorem dX8_town_30 : decode cX8_town 30 = .ok (.invokevirtual 76, 3) := by decide +kernel
theorem dX8_town_33 : decode cX8_town 33 = .ok (.istore 5, 2) := by decide +kernel
theorem dX8_town_35 : decode cX8_town 35 = .ok (.iload 5, 2) := by decide +kernel
theorem dX8_town_37 : decode cX8_town 37 = .ok (.ifCond .eq 10, 3) := by decide +kernel
theorem dX8_town_40 : decode cX8_town 40 = .ok (.aload_n 0, 1) := by decide +kernel
theorem dX8_town_41 : decode cX8_town 41 = .ok (.iload 5, 2) := by decide +kernel
theorem dX8_town_43 : decode cX8_town 43 = .ok (.invokevirtual 80, 3) := by decide +kernel
theorem dX8_town_46 : decode cX8_town 46 = .ok (.ireturn, 1) := by decide +kernel
theorem dX8_town_47 : decode cX8_town 47 = .ok (.bipush 60, 2) := by decide +kernel
theorem dX8_town_49 : decode cX8_town 49 = .ok (.iload_n 1, 1) := by decide +kernel
theorem dX8_town_50 : decode cX8_town 50 = .ok (.imul, 1) := by decide +kernel
theorem dX8_town_51 : decode cX8_town 51 = .ok (.iload_n 3, 1) := by decide +kernel
theorem dX8_town_52 : decode cX8_town 52 = .ok (.iadd, 1) := by decide +kernel
theorem dX8_town_53 : decode cX8_town 53 = .ok (.istore 6, 2) := by decide +kernel
theorem dX8_town_55 : decode cX8_town 55 = .ok (.aload_n 0, 1) := by decide +kernel
theorem dX8_town_56 : decode cX8_town 56 = .ok (.iload 6, 2) := by decide +kernel
theorem dX8_town_58 : decode cX8_town 58 = .ok (.putfield 67, 3) := by decide +kernel
theorem dX8_town_61 : decode cX8_town 61 = .ok (.aload_n 0, 1) := by decide +kernel
theorem dX8_town_62 : decode cX8_town 62 = .ok (.iload 6, 2) := by decide +kernel
theorem dX8_town_64 : decode cX8_town 64 = .ok (.iload 4, 2) := by decide +kernel
theorem dX8_town_66 : decode cX8_town 66 = .ok (.iadd, 1) := by decide +kernel
theorem dX8_town_67 : decode cX8_town 67 = .ok (.invokevirtual 84, 3) := by decide +kernel
theorem dX8_town_70 : decode cX8_town 70 = .ok (.ifCond .ne 14, 3) := by decide +kernel
theorem dX8_town_73 : decode cX8_town 73 = .ok (.bipush (-100), 2) := by decide +kernel
theorem dX8_town_75 : decode cX8_town 75 = .ok (.aload_n 0, 1) := by decide +kernel
theorem dX8_town_76 : decode cX8_town 76 = .ok (.getfield 67, 3) := by decide +kernel
theorem dX8_town_79 : decode cX8_town 79 = .ok (.iload 6, 2) := by decide +kernel
theorem dX8_town_81 : decode cX8_town 81 = .ok (.isub, 1) := by decide +kernel
theorem dX8_town_82 : decode cX8_town 82 = .ok (.isub, 1) := by decide +kernel
theorem dX8_town_83 : decode cX8_town 83 = .ok (.ireturn, 1) := by decide +kernel
theorem dX8_town_84 : decode cX8_town 84 = .ok (.aload_n 0, 1) := by decide +kernel
theorem dX8_town_85 : decode cX8_town 85 = .ok (.aload_n 0, 1) := by decide +kernel
theorem dX8_town_86 : decode cX8_town 86 = .ok (.getfield 87, 3) := by decide +kernel
theorem dX8_town_89 : decode cX8_town 89 = .ok (.putfield 60, 3) := by decide +kernel
theorem dX8_town_92 : decode cX8_town 92 = .ok (.aload_n 0, 1) := by decide +kernel
theorem dX8_town_93 : decode cX8_town 93 = .ok (.aload_n 0, 1) := by decide +kernel
theorem dX8_town_94 : decode cX8_town 94 = .ok (.getfield 90, 3) := by decide +kernel
theorem dX8_town_97 : decode cX8_town 97 = .ok (.putfield 93, 3) := by decide +kernel
theorem dX8_town_100 : decode cX8_town 100 = .ok (.iconst 0, 1) := by decide +kernel
theorem dX8_town_101 : decode cX8_town 101 = .ok (.istore 7, 2) := by decide +kernel
theorem dX8_town_103 : decode cX8_town 103 = .ok (.iload 7, 2) := by decide +kernel
theorem dX8_town_105 : decode cX8_town 105 = .ok (.aload_n 0, 1) := by decide +kernel
theorem dX8_town_106 : decode cX8_town 106 = .ok (.getfield 60, 3) := by decide +kernel
theorem dX8_town_109 : decode cX8_town 109 = .ok (.if_icmp .ge 23, 3) := by decide +kernel
theorem dX8_town_112 : decode cX8_town 112 = .ok (.aload_n 0, 1) := by decide +kernel
theorem dX8_town_113 : decode cX8_town 113 = .ok (.getfield 19, 3) := by decide +kernel
theorem dX8_town_116 : decode cX8_town 116 = .ok (.iload 7, 2) := by decide +kernel
theorem dX8_town_118 : decode cX8_town 118 = .ok (.aload_n 0, 1) := by decide +kernel
theorem dX8_town_119 : decode cX8_town 119 = .ok (.getfield 25, 3) := by decide +kernel
theorem dX8_town_122 : decode cX8_town 122 = .ok (.iload 7, 2) := by decide +kernel
theorem dX8_town_124 : decode cX8_town 124 = .ok (.iaload, 1) := by decide +kernel
theorem dX8_town_125 : decode cX8_town 125 = .ok (.iastore, 1) := by decide +kernel
theorem dX8_town_126 : decode cX8_town 126 = .ok (.iinc 7 1, 3) := by decide +kernel
theorem dX8_town_129 : decode cX8_town 129 = .ok (.goto (-26), 3) := by decide +kernel
theorem dX8_town_132 : decode cX8_town 132 = .ok (.iconst 0, 1) := by decide +kernel
theorem dX8_town_133 : decode cX8_town 133 = .ok (.istore 7, 2) := by decide +kernel
theorem dX8_town_135 : decode cX8_town 135 = .ok (.iload 7, 2) := by decide +kernel
theorem dX8_town_137 : decode cX8_town 137 = .ok (.bipush 36, 2) := by decide +kernel
theorem dX8_town_139 : decode cX8_town 139 = .ok (.if_icmp .ge 23, 3) := by decide +kernel
theorem dX8_town_142 : decode cX8_town 142 = .ok (.aload_n 0, 1) := by decide +kernel
theorem dX8_town_143 : decode cX8_town 143 = .ok (.getfield 22, 3) := by decide +kernel
theorem dX8_town_146 : decode cX8_town 146 = .ok (.iload 7, 2) := by decide +kernel
theorem dX8_town_148 : decode cX8_town 148 = .ok (.aload_n 0, 1) := by decide +kernel
theorem dX8_town_149 : decode cX8_town 149 = .ok (.getfield 28, 3) := by decide +kernel
theorem dX8_town_152 : decode cX8_town 152 = .ok (.iload 7, 2) := by decide +kernel
theorem dX8_town_154 : decode cX8_town 154 = .ok (.iaload, 1) := by decide +kernel
theorem dX8_town_155 : decode cX8_town 155 = .ok (.iastore, 1) := by decide +kernel
theorem dX8_town_156 : decode cX8_town 156 = .ok (.iinc 7 1, 3) := by decide +kernel
theorem dX8_town_159 : decode cX8_town 159 = .ok (.goto (-24), 3) := by decide +kernel
theorem dX8_town_162 : decode cX8_town 162 = .ok (.aload_n 0, 1) := by decide +kernel
theorem dX8_town_163 : decode cX8_town 163 = .ok (.iconst 0, 1) := by decide +kernel
theorem dX8_town_164 : decode cX8_town 164 = .ok (.putfield 96, 3) := by decide +kernel
theorem dX8_town_167 : decode cX8_town 167 = .ok (.aload_n 0, 1) := by decide +kernel
theorem dX8_town_168 : decode cX8_town 168 = .ok (.getfield 60, 3) := by decide +kernel
theorem dX8_town_171 : decode cX8_town 171 = .ok (.ireturn, 1) := by decide +kernel
set_option maxRecDepth 20000 in
theorem ggX8_readTown_X8_isSign : GoodIn wsX8_readTown wsX8_isSign := goodIn_r _ [8, 3, 9, 26, 27, 28, 29, 30, 31, 32, 33, 34, 35, 36, 37, 38, 39, 40, 41, 42, 43, 44, 45, 46] (by decide +kernel) (by decide +kernel)
set_option maxRecDepth 20000 in
theorem gX8_readTown_X8_isSign : GoodIn wsX8_readTown (wsV RX8 99 RX8 yX8_isSign wsX8_isSign) := goodIn_app (goodIn_of _ (by decide +kernel)) ggX8_readTown_X8_isSign
set_option maxRecDepth 20000 in
theorem ggX8_readTown_X8_digit : GoodIn wsX8_readTown wsX8_digit := goodIn_r _ [13, 3, 9, 14, 15, 7, 16, 26, 27, 28, 29, 30, 31, 32, 33, 34, 35, 36, 37, 38, 39, 40, 41, 42, 43, 44, 45, 46] (by decide +kernel) (by decide +kernel)
set_option maxRecDepth 20000 in
theorem gX8_readTown_X8_digit : GoodIn wsX8_readTown (wsV RX8 103 RX8 yX8_digit wsX8_digit) := goodIn_app (goodIn_of _ (by decide +kernel)) ggX8_readTown_X8_digit
set_option maxRecDepth 20000 in
theorem ggX8_readTown_X8_readPerson : GoodIn wsX8_readTown wsX8_readPerson := goodIn_r _ [20, 3, 9, 21, 1, 22, 23, 24, 7, 25, 10, 11, 12, 13, 14, 15, 16, 26, 27, 28, 29, 30, 31, 32, 33, 34, 35, 36, 37, 38, 39, 40, 41, 42, 43, 44, 45, 46] (by decide +kernel) (by decide +kernel)
set_option maxRecDepth 20000 in
theorem gX8_readTown_X8_readPerson : GoodIn wsX8_readTown (wsV RX8 107 RX8 yX8_readPerson wsX8_readPerson) := goodIn_app (goodIn_of _ (by decide +kernel)) ggX8_readTown_X8_readPerson
theorem dX8_readTown_0 : decode cX8_readTown 0 = .ok (.aload_n 0, 1) := by decide +kernel
theorem dX8_readTown_1 : decode cX8_readTown 1 = .ok (.iload_n 1, 1) := by decide +kernel
theorem dX8_readTown_2 : decode cX8_readTown 2 = .ok (.bipush 108, 2) := by decide +kernel
theorem dX8_readTown_4 : decode cX8_readTown 4 = .ok (.invokevirtual 99, 3) := by decide +kernel
theorem dX8_readTown_7 : decode cX8_readTown 7 = .ok (.ifCond .ne 5, 3) := by decide +kernel
theorem dX8_readTown_10 : decode cX8_readTown 10 = .ok (.iconst 0, 1) := by decide +kernel
theorem dX8_readTown_11 : decode cX8_readTown 11 = .ok (.ireturn, 1) := by decide +kernel
theorem dX8_readTown_12 : decode cX8_readTown 12 = .ok (.aload_n 0, 1) := by decide +kernel
theorem dX8_readTown_13 : decode cX8_readTown 13 = .ok (.aload_n 0, 1) := by decide +kernel
theorem dX8_readTown_14 : decode cX8_readTown 14 = .ok (.iload_n 1, 1) := by decide +kernel
theorem dX8_readTown_15 : decode cX8_readTown 15 = .ok (.iconst 2, 1) := by decide +kernel
theorem dX8_readTown_16 : decode cX8_readTown 16 = .ok (.bipush 6, 2) := by decide +kernel
theorem dX8_readTown_18 : decode cX8_readTown 18 = .ok (.invokevirtual 103, 3) := by decide +kernel
theorem dX8_readTown_21 : decode cX8_readTown 21 = .ok (.putfield 87, 3) := by decide +kernel
theorem dX8_readTown_24 : decode cX8_readTown 24 = .ok (.aload_n 0, 1) := by decide +kernel
theorem dX8_readTown_25 : decode cX8_readTown 25 = .ok (.getfield 87, 3) := by decide +kernel
theorem dX8_readTown_28 : decode cX8_readTown 28 = .ok (.bipush (-9), 2) := by decide +kernel
theorem dX8_readTown_30 : decode cX8_readTown 30 = .ok (.if_icmp .ne 5, 3) := by decide +kernel
theorem dX8_readTown_33 : decode cX8_readTown 33 = .ok (.iconst 0, 1) := by decide +kernel
theorem dX8_readTown_34 : decode cX8_readTown 34 = .ok (.ireturn, 1) := by decide +kernel
theorem dX8_readTown_35 : decode cX8_readTown 35 = .ok (.aload_n 0, 1) := by decide +kernel
theorem dX8_readTown_36 : decode cX8_readTown 36 = .ok (.aload_n 0, 1) := by decide +kernel
theorem dX8_readTown_37 : decode cX8_readTown 37 = .ok (.iload_n 1, 1) := by decide +kernel
theorem dX8_readTown_38 : decode cX8_readTown 38 = .ok (.iconst 0, 1) := by decide +kernel
theorem dX8_readTown_39 : decode cX8_readTown 39 = .ok (.bipush 9, 2) := by decide +kernel
theorem dX8_readTown_41 : decode cX8_readTown 41 = .ok (.invokevirtual 103, 3) := by decide +kernel
theorem dX8_readTown_44 : decode cX8_readTown 44 = .ok (.putfield 90, 3) := by decide +kernel
theorem dX8_readTown_47 : decode cX8_readTown 47 = .ok (.aload_n 0, 1) := by decide +kernel
theorem dX8_readTown_48 : decode cX8_readTown 48 = .ok (.getfield 90, 3) := by decide +kernel
theorem dX8_readTown_51 : decode cX8_readTown 51 = .ok (.bipush (-9), 2) := by decide +kernel
theorem dX8_readTown_53 : decode cX8_readTown 53 = .ok (.if_icmp .ne 5, 3) := by decide +kernel
theorem dX8_readTown_56 : decode cX8_readTown 56 = .ok (.iconst 0, 1) := by decide +kernel
theorem dX8_readTown_57 : decode cX8_readTown 57 = .ok (.ireturn, 1) := by decide +kernel
theorem dX8_readTown_58 : decode cX8_readTown 58 = .ok (.iconst 0, 1) := by decide +kernel
theorem dX8_readTown_59 : decode cX8_readTown 59 = .ok (.istore_n 2, 1) := by decide +kernel
theorem dX8_readTown_60 : decode cX8_readTown 60 = .ok (.iload_n 2, 1) := by decide +kernel
theorem dX8_readTown_61 : decode cX8_readTown 61 = .ok (.aload_n 0, 1) := by decide +kernel
theorem dX8_readTown_62 : decode cX8_readTown 62 = .ok (.getfield 87, 3) := by decide +kernel
theorem dX8_readTown_65 : decode cX8_readTown 65 = .ok (.if_icmp .ge 30, 3) := by decide +kernel
theorem dX8_readTown_68 : decode cX8_readTown 68 = .ok (.aload_n 0, 1) := by decide +kernel
theorem dX8_readTown_69 : decode cX8_readTown 69 = .ok (.iload_n 1, 1) := by decide +kernel
theorem dX8_readTown_70 : decode cX8_readTown 70 = .ok (.bipush 44, 2) := by decide +kernel
theorem dX8_readTown_72 : decode cX8_readTown 72 = .ok (.invokevirtual 99, 3) := by decide +kernel
theorem dX8_readTown_75 : decode cX8_readTown 75 = .ok (.ifCond .eq 12, 3) := by decide +kernel
theorem dX8_readTown_78 : decode cX8_readTown 78 = .ok (.aload_n 0, 1) := by decide +kernel
theorem dX8_readTown_79 : decode cX8_readTown 79 = .ok (.iload_n 1, 1) := by decide +kernel
theorem dX8_readTown_80 : decode cX8_readTown 80 = .ok (.iload_n 2, 1) := by decide +kernel
theorem dX8_readTown_81 : decode cX8_readTown 81 = .ok (.invokevirtual 107, 3) := by decide +kernel
theorem dX8_readTown_84 : decode cX8_readTown 84 = .ok (.ifCond .ne 5, 3) := by decide +kernel
theorem dX8_readTown_87 : decode cX8_readTown 87 = .ok (.iconst 0, 1) := by decide +kernel
theorem dX8_readTown_88 : decode cX8_readTown 88 = .ok (.ireturn, 1) := by decide +kernel
theorem dX8_readTown_89 : decode cX8_readTown 89 = .ok (.iinc 2 1, 3) := by decide +kernel
theorem dX8_readTown_92 : decode cX8_readTown 92 = .ok (.goto (-32), 3) := by decide +kernel
theorem dX8_readTown_95 : decode cX8_readTown 95 = .ok (.aload_n 0, 1) := by decide +kernel
theorem dX8_readTown_96 : decode cX8_readTown 96 = .ok (.getfield 67, 3) := by decide +kernel
theorem dX8_readTown_99 : decode cX8_readTown 99 = .ok (.iload_n 1, 1) := by decide +kernel
theorem dX8_readTown_100 : decode cX8_readTown 100 = .ok (.if_icmp .ne 7, 3) := by decide +kernel
theorem dX8_readTown_103 : decode cX8_readTown 103 = .ok (.iconst 1, 1) := by decide +kernel
theorem dX8_readTown_104 : decode cX8_readTown 104 = .ok (.goto 4, 3) := by decide +kernel
theorem dX8_readTown_107 : decode cX8_readTown 107 = .ok (.iconst 0, 1) := by decide +kernel
theorem dX8_readTown_108 : decode cX8_readTown 108 = .ok (.ireturn, 1) := by decide +kernel
set_option maxRecDepth 20000 in
theorem ggX8_readPerson_X8_spot : GoodIn wsX8_readPerson wsX8_spot := goodIn_r _ [9] (by decide +kernel) (by decide +kernel)
set_option maxRecDepth 20000 in
theorem gX8_readPerson_X8_spot : GoodIn wsX8_readPerson (va_wsS RX8 110 yX8_spot wsX8_spot) := goodIn_app (goodIn_of _ (by decide +kernel)) ggX8_readPerson_X8_spot
set_option maxRecDepth 20000 in
theorem ggX8_readPerson_X8_digit : GoodIn wsX8_readPerson wsX8_digit := goodIn_r _ [13, 1, 2, 14, 15, 8, 16, 17, 18, 19, 20, 21, 22, 23, 24, 25, 26, 27, 28, 29, 30, 31, 32, 33, 34, 35, 36, 37] (by decide +kernel) (by decide +kernel)
set_option maxRecDepth 20000 in
theorem gX8_readPerson_X8_digit : GoodIn wsX8_readPerson (wsV RX8 103 RX8 yX8_digit wsX8_digit) := goodIn_app (goodIn_of _ (by decide +kernel)) ggX8_readPerson_X8_digit
theorem dX8_readPerson_0 : decode cX8_readPerson 0 = .ok (.aload_n 0, 1) := by decide +kernel
theorem dX8_readPerson_1 : decode cX8_readPerson 1 = .ok (.getfield 67, 3) := by decide +kernel
theorem dX8_readPerson_4 : decode cX8_readPerson 4 = .ok (.iload_n 1, 1) := by decide +kernel
theorem dX8_readPerson_5 : decode cX8_readPerson 5 = .ok (.if_icmp .ge 15, 3) := by decide +kernel
theorem dX8_readPerson_8 : decode cX8_readPerson 8 = .ok (.aload_n 0, 1) := by decide +kernel
theorem dX8_readPerson_9 : decode cX8_readPerson 9 = .ok (.getfield 16, 3) := by decide +kernel
theorem dX8_readPerson_12 : decode cX8_readPerson 12 = .ok (.aload_n 0, 1) := by decide +kernel
theorem dX8_readPerson_13 : decode cX8_readPerson 13 = .ok (.getfield 67, 3) := by decide +kernel
theorem dX8_readPerson_16 : decode cX8_readPerson 16 = .ok (.iaload, 1) := by decide +kernel
theorem dX8_readPerson_17 : decode cX8_readPerson 17 = .ok (.goto 4, 3) := by decide +kernel
theorem dX8_readPerson_20 : decode cX8_readPerson 20 = .ok (.iconst 0, 1) := by decide +kernel
theorem dX8_readPerson_21 : decode cX8_readPerson 21 = .ok (.istore_n 3, 1) := by decide +kernel
theorem dX8_readPerson_22 : decode cX8_readPerson 22 = .ok (.aload_n 0, 1) := by decide +kernel
theorem dX8_readPerson_23 : decode cX8_readPerson 23 = .ok (.getfield 25, 3) := by decide +kernel
theorem dX8_readPerson_26 : decode cX8_readPerson 26 = .ok (.iload_n 2, 1) := by decide +kernel
theorem dX8_readPerson_27 : decode cX8_readPerson 27 = .ok (.iload_n 3, 1) := by decide +kernel
theorem dX8_readPerson_28 : decode cX8_readPerson 28 = .ok (.bipush 112, 2) := by decide +kernel
theorem dX8_readPerson_30 : decode cX8_readPerson 30 = .ok (.if_icmp .ne 7, 3) := by decide +kernel
theorem dX8_readPerson_33 : decode cX8_readPerson 33 = .ok (.iconst 0, 1) := by decide +kernel
theorem dX8_readPerson_34 : decode cX8_readPerson 34 = .ok (.goto 25, 3) := by decide +kernel
theorem dX8_readPerson_37 : decode cX8_readPerson 37 = .ok (.iload_n 3, 1) := by decide +kernel
theorem dX8_readPerson_38 : decode cX8_readPerson 38 = .ok (.bipush 114, 2) := by decide +kernel
theorem dX8_readPerson_40 : decode cX8_readPerson 40 = .ok (.if_icmp .ne 7, 3) := by decide +kernel
theorem dX8_readPerson_43 : decode cX8_readPerson 43 = .ok (.iconst 1, 1) := by decide +kernel
theorem dX8_readPerson_44 : decode cX8_readPerson 44 = .ok (.goto 15, 3) := by decide +kernel
theorem dX8_readPerson_47 : decode cX8_readPerson 47 = .ok (.iload_n 3, 1) := by decide +kernel
theorem dX8_readPerson_48 : decode cX8_readPerson 48 = .ok (.bipush 98, 2) := by decide +kernel
theorem dX8_readPerson_50 : decode cX8_readPerson 50 = .ok (.if_icmp .ne 7, 3) := by decide +kernel
theorem dX8_readPerson_53 : decode cX8_readPerson 53 = .ok (.iconst 2, 1) := by decide +kernel
theorem dX8_readPerson_54 : decode cX8_readPerson 54 = .ok (.goto 5, 3) := by decide +kernel
theorem dX8_readPerson_57 : decode cX8_readPerson 57 = .ok (.bipush (-9), 2) := by decide +kernel
theorem dX8_readPerson_59 : decode cX8_readPerson 59 = .ok (.iastore, 1) := by decide +kernel
theorem dX8_readPerson_60 : decode cX8_readPerson 60 = .ok (.aload_n 0, 1) := by decide +kernel
theorem dX8_readPerson_61 : decode cX8_readPerson 61 = .ok (.getfield 25, 3) := by decide +kernel
theorem dX8_readPerson_64 : decode cX8_readPerson 64 = .ok (.iload_n 2, 1) := by decide +kernel
theorem dX8_readPerson_65 : decode cX8_readPerson 65 = .ok (.iaload, 1) := by decide +kernel
theorem dX8_readPerson_66 : decode cX8_readPerson 66 = .ok (.bipush (-9), 2) := by decide +kernel
theorem dX8_readPerson_68 : decode cX8_readPerson 68 = .ok (.if_icmp .ne 5, 3) := by decide +kernel
theorem dX8_readPerson_71 : decode cX8_readPerson 71 = .ok (.iconst 0, 1) := by decide +kernel
theorem dX8_readPerson_72 : decode cX8_readPerson 72 = .ok (.ireturn, 1) := by decide +kernel
theorem dX8_readPerson_73 : decode cX8_readPerson 73 = .ok (.aload_n 0, 1) := by decide +kernel
theorem dX8_readPerson_74 : decode cX8_readPerson 74 = .ok (.dup, 1) := by decide +kernel
theorem dX8_readPerson_75 : decode cX8_readPerson 75 = .ok (.getfield 67, 3) := by decide +kernel
theorem dX8_readPerson_78 : decode cX8_readPerson 78 = .ok (.iconst 1, 1) := by decide +kernel
theorem dX8_readPerson_79 : decode cX8_readPerson 79 = .ok (.iadd, 1) := by decide +kernel
theorem dX8_readPerson_80 : decode cX8_readPerson 80 = .ok (.putfield 67, 3) := by decide +kernel
theorem dX8_readPerson_83 : decode cX8_readPerson 83 = .ok (.iconst 0, 1) := by decide +kernel
theorem dX8_readPerson_84 : decode cX8_readPerson 84 = .ok (.istore 4, 2) := by decide +kernel
theorem dX8_readPerson_86 : decode cX8_readPerson 86 = .ok (.iload 4, 2) := by decide +kernel
theorem dX8_readPerson_88 : decode cX8_readPerson 88 = .ok (.aload_n 0, 1) := by decide +kernel
theorem dX8_readPerson_89 : decode cX8_readPerson 89 = .ok (.getfield 87, 3) := by decide +kernel
theorem dX8_readPerson_92 : decode cX8_readPerson 92 = .ok (.if_icmp .ge 56, 3) := by decide +kernel
theorem dX8_readPerson_95 : decode cX8_readPerson 95 = .ok (.aload_n 0, 1) := by decide +kernel
theorem dX8_readPerson_96 : decode cX8_readPerson 96 = .ok (.getfield 28, 3) := by decide +kernel
theorem dX8_readPerson_99 : decode cX8_readPerson 99 = .ok (.iload_n 2, 1) := by decide +kernel
theorem dX8_readPerson_100 : decode cX8_readPerson 100 = .ok (.iload 4, 2) := by decide +kernel
theorem dX8_readPerson_102 : decode cX8_readPerson 102 = .ok (.invokestatic 110, 3) := by decide +kernel
theorem dX8_readPerson_105 : decode cX8_readPerson 105 = .ok (.aload_n 0, 1) := by decide +kernel
theorem dX8_readPerson_106 : decode cX8_readPerson 106 = .ok (.iload_n 1, 1) := by decide +kernel
theorem dX8_readPerson_107 : decode cX8_readPerson 107 = .ok (.iconst 0, 1) := by decide +kernel
theorem dX8_readPerson_108 : decode cX8_readPerson 108 = .ok (.iload 4, 2) := by decide +kernel
theorem dX8_readPerson_110 : decode cX8_readPerson 110 = .ok (.iload_n 2, 1) := by decide +kernel
theorem dX8_readPerson_111 : decode cX8_readPerson 111 = .ok (.if_icmp .ne 7, 3) := by decide +kernel
theorem dX8_readPerson_114 : decode cX8_readPerson 114 = .ok (.iconst 0, 1) := by decide +kernel
theorem dX8_readPerson_115 : decode cX8_readPerson 115 = .ok (.goto 5, 3) := by decide +kernel
theorem dX8_readPerson_118 : decode cX8_readPerson 118 = .ok (.bipush 9, 2) := by decide +kernel
theorem dX8_readPerson_120 : decode cX8_readPerson 120 = .ok (.invokevirtual 103, 3) := by decide +kernel
theorem dX8_readPerson_123 : decode cX8_readPerson 123 = .ok (.iastore, 1) := by decide +kernel
theorem dX8_readPerson_124 : decode cX8_readPerson 124 = .ok (.aload_n 0, 1) := by decide +kernel
theorem dX8_readPerson_125 : decode cX8_readPerson 125 = .ok (.getfield 28, 3) := by decide +kernel
theorem dX8_readPerson_128 : decode cX8_readPerson 128 = .ok (.iload_n 2, 1) := by decide +kernel
theorem dX8_readPerson_129 : decode cX8_readPerson 129 = .ok (.iload 4, 2) := by decide +kernel
theorem dX8_readPerson_131 : decode cX8_readPerson 131 = .ok (.invokestatic 110, 3) := by decide +kernel
theorem dX8_readPerson_134 : decode cX8_readPerson 134 = .ok (.iaload, 1) := by decide +kernel
theorem dX8_readPerson_135 : decode cX8_readPerson 135 = .ok (.bipush (-9), 2) := by decide +kernel
theorem dX8_readPerson_137 : decode cX8_readPerson 137 = .ok (.if_icmp .ne 5, 3) := by decide +kernel
theorem dX8_readPerson_140 : decode cX8_readPerson 140 = .ok (.iconst 0, 1) := by decide +kernel
theorem dX8_readPerson_141 : decode cX8_readPerson 141 = .ok (.ireturn, 1) := by decide +kernel
theorem dX8_readPerson_142 : decode cX8_readPerson 142 = .ok (.iinc 4 1, 3) := by decide +kernel
theorem dX8_readPerson_145 : decode cX8_readPerson 145 = .ok (.goto (-59), 3) := by decide +kernel
theorem dX8_readPerson_148 : decode cX8_readPerson 148 = .ok (.iconst 1, 1) := by decide +kernel
theorem dX8_readPerson_149 : decode cX8_readPerson 149 = .ok (.ireturn, 1) := by decide +kernel
set_option maxRecDepth 20000 in
theorem ggX8_weightOf_X8_spot : GoodIn wsX8_weightOf wsX8_spot := goodIn_r _ [6] (by decide +kernel) (by decide +kernel)
set_option maxRecDepth 20000 in
theorem gX8_weightOf_X8_spot : GoodIn wsX8_weightOf (va_wsS RX8 110 yX8_spot wsX8_spot) := goodIn_app (goodIn_of _ (by decide +kernel)) ggX8_weightOf_X8_spot
theorem dX8_weightOf_0 : decode cX8_weightOf 0 = .ok (.aload_n 0, 1) := by decide +kernel
theorem dX8_weightOf_1 : decode cX8_weightOf 1 = .ok (.getfield 22, 3) := by decide +kernel
theorem dX8_weightOf_4 : decode cX8_weightOf 4 = .ok (.iload_n 1, 1) := by decide +kernel
theorem dX8_weightOf_5 : decode cX8_weightOf 5 = .ok (.iload_n 2, 1) := by decide +kernel
theorem dX8_weightOf_6 : decode cX8_weightOf 6 = .ok (.invokestatic 110, 3) := by decide +kernel
theorem dX8_weightOf_9 : decode cX8_weightOf 9 = .ok (.iaload, 1) := by decide +kernel
theorem dX8_weightOf_10 : decode cX8_weightOf 10 = .ok (.istore_n 3, 1) := by decide +kernel
theorem dX8_weightOf_11 : decode cX8_weightOf 11 = .ok (.aload_n 0, 1) := by decide +kernel
theorem dX8_weightOf_12 : decode cX8_weightOf 12 = .ok (.getfield 19, 3) := by decide +kernel
theorem dX8_weightOf_15 : decode cX8_weightOf 15 = .ok (.iload_n 1, 1) := by decide +kernel
theorem dX8_weightOf_16 : decode cX8_weightOf 16 = .ok (.iaload, 1) := by decide +kernel
theorem dX8_weightOf_17 : decode cX8_weightOf 17 = .ok (.ifCond .eq 7, 3) := by decide +kernel
theorem dX8_weightOf_20 : decode cX8_weightOf 20 = .ok (.iload_n 3, 1) := by decide +kernel
theorem dX8_weightOf_21 : decode cX8_weightOf 21 = .ok (.ifCond .ne 7, 3) := by decide +kernel
theorem dX8_weightOf_24 : decode cX8_weightOf 24 = .ok (.iload_n 3, 1) := by decide +kernel
theorem dX8_weightOf_25 : decode cX8_weightOf 25 = .ok (.goto 22, 3) := by decide +kernel
theorem dX8_weightOf_28 : decode cX8_weightOf 28 = .ok (.aload_n 0, 1) := by decide +kernel
theorem dX8_weightOf_29 : decode cX8_weightOf 29 = .ok (.getfield 19, 3) := by decide +kernel
theorem dX8_weightOf_32 : decode cX8_weightOf 32 = .ok (.iload_n 1, 1) := by decide +kernel
theorem dX8_weightOf_33 : decode cX8_weightOf 33 = .ok (.iaload, 1) := by decide +kernel
theorem dX8_weightOf_34 : decode cX8_weightOf 34 = .ok (.iconst 1, 1) := by decide +kernel
theorem dX8_weightOf_35 : decode cX8_weightOf 35 = .ok (.if_icmp .ne 9, 3) := by decide +kernel
theorem dX8_weightOf_38 : decode cX8_weightOf 38 = .ok (.iload_n 3, 1) := by decide +kernel
theorem dX8_weightOf_39 : decode cX8_weightOf 39 = .ok (.iconst 1, 1) := by decide +kernel
theorem dX8_weightOf_40 : decode cX8_weightOf 40 = .ok (.iadd, 1) := by decide +kernel
theorem dX8_weightOf_41 : decode cX8_weightOf 41 = .ok (.goto 6, 3) := by decide +kernel
theorem dX8_weightOf_44 : decode cX8_weightOf 44 = .ok (.iconst 2, 1) := by decide +kernel
theorem dX8_weightOf_45 : decode cX8_weightOf 45 = .ok (.iload_n 3, 1) := by decide +kernel
theorem dX8_weightOf_46 : decode cX8_weightOf 46 = .ok (.imul, 1) := by decide +kernel
theorem dX8_weightOf_47 : decode cX8_weightOf 47 = .ok (.ireturn, 1) := by decide +kernel
set_option maxRecDepth 20000 in
theorem ggX8_lighterOf_X8_weightOf : GoodIn wsX8_lighterOf wsX8_weightOf := goodIn_r _ [6, 7, 8, 9, 10, 5, 11, 12, 13, 14, 15, 16, 17, 18, 19, 20, 21, 22, 23, 24, 25, 26, 27, 28, 29, 30, 31, 32] (by decide +kernel) (by decide +kernel)
set_option maxRecDepth 20000 in
theorem gX8_lighterOf_X8_weightOf : GoodIn wsX8_lighterOf (wsV RX8 114 RX8 yX8_weightOf wsX8_weightOf) := goodIn_app (goodIn_of _ (by decide +kernel)) ggX8_lighterOf_X8_weightOf
theorem dX8_lighterOf_0 : decode cX8_lighterOf 0 = .ok (.bipush (-9), 2) := by decide +kernel
theorem dX8_lighterOf_2 : decode cX8_lighterOf 2 = .ok (.istore_n 2, 1) := by decide +kernel
theorem dX8_lighterOf_3 : decode cX8_lighterOf 3 = .ok (.iconst 0, 1) := by decide +kernel
theorem dX8_lighterOf_4 : decode cX8_lighterOf 4 = .ok (.istore_n 3, 1) := by decide +kernel
theorem dX8_lighterOf_5 : decode cX8_lighterOf 5 = .ok (.iload_n 3, 1) := by decide +kernel
theorem dX8_lighterOf_6 : decode cX8_lighterOf 6 = .ok (.aload_n 0, 1) := by decide +kernel
theorem dX8_lighterOf_7 : decode cX8_lighterOf 7 = .ok (.getfield 60, 3) := by decide +kernel
theorem dX8_lighterOf_10 : decode cX8_lighterOf 10 = .ok (.if_icmp .ge 46, 3) := by decide +kernel
theorem dX8_lighterOf_13 : decode cX8_lighterOf 13 = .ok (.iload_n 3, 1) := by decide +kernel
theorem dX8_lighterOf_14 : decode cX8_lighterOf 14 = .ok (.iload_n 1, 1) := by decide +kernel
theorem dX8_lighterOf_15 : decode cX8_lighterOf 15 = .ok (.if_icmp .eq 35, 3) := by decide +kernel
theorem dX8_lighterOf_18 : decode cX8_lighterOf 18 = .ok (.aload_n 0, 1) := by decide +kernel
theorem dX8_lighterOf_19 : decode cX8_lighterOf 19 = .ok (.iload_n 3, 1) := by decide +kernel
theorem dX8_lighterOf_20 : decode cX8_lighterOf 20 = .ok (.iload_n 1, 1) := by decide +kernel
theorem dX8_lighterOf_21 : decode cX8_lighterOf 21 = .ok (.invokevirtual 114, 3) := by decide +kernel
theorem dX8_lighterOf_24 : decode cX8_lighterOf 24 = .ok (.ifCond .le 26, 3) := by decide +kernel
theorem dX8_lighterOf_27 : decode cX8_lighterOf 27 = .ok (.iload_n 2, 1) := by decide +kernel
theorem dX8_lighterOf_28 : decode cX8_lighterOf 28 = .ok (.bipush (-9), 2) := by decide +kernel
theorem dX8_lighterOf_30 : decode cX8_lighterOf 30 = .ok (.if_icmp .eq 18, 3) := by decide +kernel
theorem dX8_lighterOf_33 : decode cX8_lighterOf 33 = .ok (.aload_n 0, 1) := by decide +kernel
theorem dX8_lighterOf_34 : decode cX8_lighterOf 34 = .ok (.iload_n 3, 1) := by decide +kernel
theorem dX8_lighterOf_35 : decode cX8_lighterOf 35 = .ok (.iload_n 1, 1) := by decide +kernel
theorem dX8_lighterOf_36 : decode cX8_lighterOf 36 = .ok (.invokevirtual 114, 3) := by decide +kernel
theorem dX8_lighterOf_39 : decode cX8_lighterOf 39 = .ok (.aload_n 0, 1) := by decide +kernel
theorem dX8_lighterOf_40 : decode cX8_lighterOf 40 = .ok (.iload_n 2, 1) := by decide +kernel
theorem dX8_lighterOf_41 : decode cX8_lighterOf 41 = .ok (.iload_n 1, 1) := by decide +kernel
theorem dX8_lighterOf_42 : decode cX8_lighterOf 42 = .ok (.invokevirtual 114, 3) := by decide +kernel
theorem dX8_lighterOf_45 : decode cX8_lighterOf 45 = .ok (.if_icmp .le 5, 3) := by decide +kernel
theorem dX8_lighterOf_48 : decode cX8_lighterOf 48 = .ok (.iload_n 3, 1) := by decide +kernel
theorem dX8_lighterOf_49 : decode cX8_lighterOf 49 = .ok (.istore_n 2, 1) := by decide +kernel
theorem dX8_lighterOf_50 : decode cX8_lighterOf 50 = .ok (.iinc 3 1, 3) := by decide +kernel
theorem dX8_lighterOf_53 : decode cX8_lighterOf 53 = .ok (.goto (-48), 3) := by decide +kernel
theorem dX8_lighterOf_56 : decode cX8_lighterOf 56 = .ok (.iload_n 2, 1) := by decide +kernel
theorem dX8_lighterOf_57 : decode cX8_lighterOf 57 = .ok (.ireturn, 1) := by decide +kernel
set_option maxRecDepth 20000 in
theorem ggX8_roundOf_X8_lighterOf : GoodIn wsX8_roundOf wsX8_lighterOf := goodIn_r _ [6, 1, 7, 8, 9, 5, 10, 11, 12, 13, 14, 15, 16, 17, 18, 19, 20, 21, 22, 23, 24, 25, 26, 27, 28, 29, 30, 31, 32, 33, 34, 35, 36] (by decide +kernel) (by decide +kernel)
set_option maxRecDepth 20000 in
theorem gX8_roundOf_X8_lighterOf : GoodIn wsX8_roundOf (wsV RX8 117 RX8 yX8_lighterOf wsX8_lighterOf) := goodIn_app (goodIn_of _ (by decide +kernel)) ggX8_roundOf_X8_lighterOf
theorem dX8_roundOf_0 : decode cX8_roundOf 0 = .ok (.iconst 0, 1) := by decide +kernel
theorem dX8_roundOf_1 : decode cX8_roundOf 1 = .ok (.istore_n 2, 1) := by decide +kernel
theorem dX8_roundOf_2 : decode cX8_roundOf 2 = .ok (.iconst 0, 1) := by decide +kernel
theorem dX8_roundOf_3 : decode cX8_roundOf 3 = .ok (.istore_n 3, 1) := by decide +kernel
theorem dX8_roundOf_4 : decode cX8_roundOf 4 = .ok (.iload_n 3, 1) := by decide +kernel
theorem dX8_roundOf_5 : decode cX8_roundOf 5 = .ok (.aload_n 0, 1) := by decide +kernel
theorem dX8_roundOf_6 : decode cX8_roundOf 6 = .ok (.getfield 60, 3) := by decide +kernel
theorem dX8_roundOf_9 : decode cX8_roundOf 9 = .ok (.if_icmp .ge 28, 3) := by decide +kernel
theorem dX8_roundOf_12 : decode cX8_roundOf 12 = .ok (.iload_n 2, 1) := by decide +kernel
theorem dX8_roundOf_13 : decode cX8_roundOf 13 = .ok (.aload_n 0, 1) := by decide +kernel
theorem dX8_roundOf_14 : decode cX8_roundOf 14 = .ok (.iload_n 3, 1) := by decide +kernel
theorem dX8_roundOf_15 : decode cX8_roundOf 15 = .ok (.invokevirtual 117, 3) := by decide +kernel
theorem dX8_roundOf_18 : decode cX8_roundOf 18 = .ok (.iload_n 1, 1) := by decide +kernel
theorem dX8_roundOf_19 : decode cX8_roundOf 19 = .ok (.if_icmp .ne 9, 3) := by decide +kernel
theorem dX8_roundOf_22 : decode cX8_roundOf 22 = .ok (.iconst 1, 1) := by decide +kernel
theorem dX8_roundOf_23 : decode cX8_roundOf 23 = .ok (.iload_n 3, 1) := by decide +kernel
theorem dX8_roundOf_24 : decode cX8_roundOf 24 = .ok (.ishl, 1) := by decide +kernel
theorem dX8_roundOf_25 : decode cX8_roundOf 25 = .ok (.goto 4, 3) := by decide +kernel
theorem dX8_roundOf_28 : decode cX8_roundOf 28 = .ok (.iconst 0, 1) := by decide +kernel
theorem dX8_roundOf_29 : decode cX8_roundOf 29 = .ok (.ior, 1) := by decide +kernel
theorem dX8_roundOf_30 : decode cX8_roundOf 30 = .ok (.istore_n 2, 1) := by decide +kernel
theorem dX8_roundOf_31 : decode cX8_roundOf 31 = .ok (.iinc 3 1, 3) := by decide +kernel
theorem dX8_roundOf_34 : decode cX8_roundOf 34 = .ok (.goto (-30), 3) := by decide +kernel
theorem dX8_roundOf_37 : decode cX8_roundOf 37 = .ok (.iload_n 2, 1) := by decide +kernel
theorem dX8_roundOf_38 : decode cX8_roundOf 38 = .ok (.ireturn, 1) := by decide +kernel
theorem dX8_steps_0 : decode cX8_steps 0 = .ok (.iconst 0, 1) := by decide +kernel
theorem dX8_steps_1 : decode cX8_steps 1 = .ok (.istore_n 3, 1) := by decide +kernel
theorem dX8_steps_2 : decode cX8_steps 2 = .ok (.iconst 0, 1) := by decide +kernel
theorem dX8_steps_3 : decode cX8_steps 3 = .ok (.istore 4, 2) := by decide +kernel
theorem dX8_steps_5 : decode cX8_steps 5 = .ok (.iconst 0, 1) := by decide +kernel
theorem dX8_steps_6 : decode cX8_steps 6 = .ok (.istore 5, 2) := by decide +kernel
theorem dX8_steps_8 : decode cX8_steps 8 = .ok (.iload 5, 2) := by decide +kernel
theorem dX8_steps_10 : decode cX8_steps 10 = .ok (.aload_n 0, 1) := by decide +kernel
theorem dX8_steps_11 : decode cX8_steps 11 = .ok (.getfield 60, 3) := by decide +kernel
theorem dX8_steps_14 : decode cX8_steps 14 = .ok (.if_icmp .ge 56, 3) := by decide +kernel
theorem dX8_steps_17 : decode cX8_steps 17 = .ok (.iload_n 2, 1) := by decide +kernel
theorem dX8_steps_18 : decode cX8_steps 18 = .ok (.iload 5, 2) := by decide +kernel
theorem dX8_steps_20 : decode cX8_steps 20 = .ok (.ishr, 1) := by decide +kernel
theorem dX8_steps_21 : decode cX8_steps 21 = .ok (.iconst 1, 1) := by decide +kernel
theorem dX8_steps_22 : decode cX8_steps 22 = .ok (.iand, 1) := by decide +kernel
theorem dX8_steps_23 : decode cX8_steps 23 = .ok (.iconst 1, 1) := by decide +kernel
theorem dX8_steps_24 : decode cX8_steps 24 = .ok (.if_icmp .ne 40, 3) := by decide +kernel
theorem dX8_steps_27 : decode cX8_steps 27 = .ok (.iload_n 1, 1) := by decide +kernel
theorem dX8_steps_28 : decode cX8_steps 28 = .ok (.iload 5, 2) := by decide +kernel
theorem dX8_steps_30 : decode cX8_steps 30 = .ok (.isub, 1) := by decide +kernel
theorem dX8_steps_31 : decode cX8_steps 31 = .ok (.iload_n 3, 1) := by decide +kernel
theorem dX8_steps_32 : decode cX8_steps 32 = .ok (.if_icmp .le 10, 3) := by decide +kernel
theorem dX8_steps_35 : decode cX8_steps 35 = .ok (.iload_n 1, 1) := by decide +kernel
theorem dX8_steps_36 : decode cX8_steps 36 = .ok (.iload 5, 2) := by decide +kernel
theorem dX8_steps_38 : decode cX8_steps 38 = .ok (.isub, 1) := by decide +kernel
theorem dX8_steps_39 : decode cX8_steps 39 = .ok (.goto 4, 3) := by decide +kernel
theorem dX8_steps_42 : decode cX8_steps 42 = .ok (.iload_n 3, 1) := by decide +kernel
theorem dX8_steps_43 : decode cX8_steps 43 = .ok (.istore_n 3, 1) := by decide +kernel
theorem dX8_steps_44 : decode cX8_steps 44 = .ok (.iload 5, 2) := by decide +kernel
theorem dX8_steps_46 : decode cX8_steps 46 = .ok (.iload_n 1, 1) := by decide +kernel
theorem dX8_steps_47 : decode cX8_steps 47 = .ok (.isub, 1) := by decide +kernel
theorem dX8_steps_48 : decode cX8_steps 48 = .ok (.iload 4, 2) := by decide +kernel
theorem dX8_steps_50 : decode cX8_steps 50 = .ok (.if_icmp .le 10, 3) := by decide +kernel
theorem dX8_steps_53 : decode cX8_steps 53 = .ok (.iload 5, 2) := by decide +kernel
theorem dX8_steps_55 : decode cX8_steps 55 = .ok (.iload_n 1, 1) := by decide +kernel
theorem dX8_steps_56 : decode cX8_steps 56 = .ok (.isub, 1) := by decide +kernel
theorem dX8_steps_57 : decode cX8_steps 57 = .ok (.goto 5, 3) := by decide +kernel
theorem dX8_steps_60 : decode cX8_steps 60 = .ok (.iload 4, 2) := by decide +kernel
theorem dX8_steps_62 : decode cX8_steps 62 = .ok (.istore 4, 2) := by decide +kernel
theorem dX8_steps_64 : decode cX8_steps 64 = .ok (.iinc 5 1, 3) := by decide +kernel
theorem dX8_steps_67 : decode cX8_steps 67 = .ok (.goto (-59), 3) := by decide +kernel
theorem dX8_steps_70 : decode cX8_steps 70 = .ok (.iload_n 3, 1) := by decide +kernel
theorem dX8_steps_71 : decode cX8_steps 71 = .ok (.iload 4, 2) := by decide +kernel
theorem dX8_steps_73 : decode cX8_steps 73 = .ok (.iadd, 1) := by decide +kernel
theorem dX8_steps_74 : decode cX8_steps 74 = .ok (.iload_n 3, 1) := by decide +kernel
theorem dX8_steps_75 : decode cX8_steps 75 = .ok (.iload 4, 2) := by decide +kernel
theorem dX8_steps_77 : decode cX8_steps 77 = .ok (.if_icmp .ge 7, 3) := by decide +kernel
theorem dX8_steps_80 : decode cX8_steps 80 = .ok (.iload_n 3, 1) := by decide +kernel
theorem dX8_steps_81 : decode cX8_steps 81 = .ok (.goto 5, 3) := by decide +kernel
theorem dX8_steps_84 : decode cX8_steps 84 = .ok (.iload 4, 2) := by decide +kernel
theorem dX8_steps_86 : decode cX8_steps 86 = .ok (.iadd, 1) := by decide +kernel
theorem dX8_steps_87 : decode cX8_steps 87 = .ok (.ireturn, 1) := by decide +kernel
set_option maxRecDepth 20000 in
theorem ggX8_isInTime_X8_roundOf : GoodIn wsX8_isInTime wsX8_roundOf := goodIn_r _ [6, 7, 8, 9, 10, 5, 11, 12, 13, 14, 15, 16, 17, 18, 19, 20, 25, 26, 27, 28, 29, 30, 31, 32, 33, 34, 35, 36, 37, 38, 39, 40, 41, 42, 43, 44, 45] (by decide +kernel) (by decide +kernel)
set_option maxRecDepth 20000 in
theorem gX8_isInTime_X8_roundOf : GoodIn wsX8_isInTime (wsV RX8 120 RX8 yX8_roundOf wsX8_roundOf) := goodIn_app (goodIn_of _ (by decide +kernel)) ggX8_isInTime_X8_roundOf
set_option maxRecDepth 20000 in
theorem ggX8_isInTime_X8_steps : GoodIn wsX8_isInTime wsX8_steps := goodIn_r _ [24, 7, 25, 26, 27, 28, 29, 30, 31, 32, 33, 34, 35, 36, 37, 38, 39, 40, 41, 42, 43, 44, 45] (by decide +kernel) (by decide +kernel)
set_option maxRecDepth 20000 in
theorem gX8_isInTime_X8_steps : GoodIn wsX8_isInTime (wsV RX8 123 RX8 yX8_steps wsX8_steps) := goodIn_app (goodIn_of _ (by decide +kernel)) ggX8_isInTime_X8_steps
theorem dX8_isInTime_0 : decode cX8_isInTime 0 = .ok (.aload_n 0, 1) := by decide +kernel
theorem dX8_isInTime_1 : decode cX8_isInTime 1 = .ok (.iload_n 1, 1) := by decide +kernel
theorem dX8_isInTime_2 : decode cX8_isInTime 2 = .ok (.aload_n 0, 1) := by decide +kernel
theorem dX8_isInTime_3 : decode cX8_isInTime 3 = .ok (.iload_n 1, 1) := by decide +kernel
theorem dX8_isInTime_4 : decode cX8_isInTime 4 = .ok (.invokevirtual 120, 3) := by decide +kernel
theorem dX8_isInTime_7 : decode cX8_isInTime 7 = .ok (.invokevirtual 123, 3) := by decide +kernel
theorem dX8_isInTime_10 : decode cX8_isInTime 10 = .ok (.aload_n 0, 1) := by decide +kernel
theorem dX8_isInTime_11 : decode cX8_isInTime 11 = .ok (.getfield 93, 3) := by decide +kernel
theorem dX8_isInTime_14 : decode cX8_isInTime 14 = .ok (.if_icmp .gt 7, 3) := by decide +kernel
theorem dX8_isInTime_17 : decode cX8_isInTime 17 = .ok (.iconst 1, 1) := by decide +kernel
theorem dX8_isInTime_18 : decode cX8_isInTime 18 = .ok (.goto 4, 3) := by decide +kernel
theorem dX8_isInTime_21 : decode cX8_isInTime 21 = .ok (.iconst 0, 1) := by decide +kernel
theorem dX8_isInTime_22 : decode cX8_isInTime 22 = .ok (.ireturn, 1) := by decide +kernel
set_option maxRecDepth 20000 in
theorem ggX8_owesAll_X8_spot : GoodIn wsX8_owesAll wsX8_spot := goodIn_r _ [6] (by decide +kernel) (by decide +kernel)
set_option maxRecDepth 20000 in
theorem gX8_owesAll_X8_spot : GoodIn wsX8_owesAll (va_wsS RX8 110 yX8_spot wsX8_spot) := goodIn_app (goodIn_of _ (by decide +kernel)) ggX8_owesAll_X8_spot
theorem dX8_owesAll_0 : decode cX8_owesAll 0 = .ok (.iconst 0, 1) := by decide +kernel
theorem dX8_owesAll_1 : decode cX8_owesAll 1 = .ok (.istore_n 2, 1) := by decide +kernel
theorem dX8_owesAll_2 : decode cX8_owesAll 2 = .ok (.iconst 0, 1) := by decide +kernel
theorem dX8_owesAll_3 : decode cX8_owesAll 3 = .ok (.istore_n 3, 1) := by decide +kernel
theorem dX8_owesAll_4 : decode cX8_owesAll 4 = .ok (.iload_n 3, 1) := by decide +kernel
theorem dX8_owesAll_5 : decode cX8_owesAll 5 = .ok (.aload_n 0, 1) := by decide +kernel
theorem dX8_owesAll_6 : decode cX8_owesAll 6 = .ok (.getfield 60, 3) := by decide +kernel
theorem dX8_owesAll_9 : decode cX8_owesAll 9 = .ok (.if_icmp .ge 22, 3) := by decide +kernel
theorem dX8_owesAll_12 : decode cX8_owesAll 12 = .ok (.iload_n 2, 1) := by decide +kernel
theorem dX8_owesAll_13 : decode cX8_owesAll 13 = .ok (.aload_n 0, 1) := by decide +kernel
theorem dX8_owesAll_14 : decode cX8_owesAll 14 = .ok (.getfield 22, 3) := by decide +kernel
theorem dX8_owesAll_17 : decode cX8_owesAll 17 = .ok (.iload_n 1, 1) := by decide +kernel
theorem dX8_owesAll_18 : decode cX8_owesAll 18 = .ok (.iload_n 3, 1) := by decide +kernel
theorem dX8_owesAll_19 : decode cX8_owesAll 19 = .ok (.invokestatic 110, 3) := by decide +kernel
theorem dX8_owesAll_22 : decode cX8_owesAll 22 = .ok (.iaload, 1) := by decide +kernel
theorem dX8_owesAll_23 : decode cX8_owesAll 23 = .ok (.iadd, 1) := by decide +kernel
theorem dX8_owesAll_24 : decode cX8_owesAll 24 = .ok (.istore_n 2, 1) := by decide +kernel
theorem dX8_owesAll_25 : decode cX8_owesAll 25 = .ok (.iinc 3 1, 3) := by decide +kernel
theorem dX8_owesAll_28 : decode cX8_owesAll 28 = .ok (.goto (-24), 3) := by decide +kernel
theorem dX8_owesAll_31 : decode cX8_owesAll 31 = .ok (.iload_n 2, 1) := by decide +kernel
theorem dX8_owesAll_32 : decode cX8_owesAll 32 = .ok (.ireturn, 1) := by decide +kernel
set_option maxRecDepth 20000 in
theorem ggX8_ofPerson_X8_isPerson : GoodIn wsX8_ofPerson wsX8_isPerson := goodIn_r _ [6, 7, 37, 38, 39, 40, 41, 42, 43, 44, 45, 46, 47, 48, 49, 50, 51, 52, 53, 54, 55, 56, 57] (by decide +kernel) (by decide +kernel)
set_option maxRecDepth 20000 in
theorem gX8_ofPerson_X8_isPerson : GoodIn wsX8_ofPerson (wsV RX8 63 RX8 yX8_isPerson wsX8_isPerson) := goodIn_app (goodIn_of _ (by decide +kernel)) ggX8_ofPerson_X8_isPerson
set_option maxRecDepth 20000 in
theorem ggX8_ofPerson_X8_owesAll : GoodIn wsX8_ofPerson wsX8_owesAll := goodIn_r _ [11, 7, 12, 13, 14, 5, 15, 37, 38, 39, 40, 41, 42, 43, 44, 45, 46, 47, 48, 49, 50, 51, 52, 53, 54, 55, 56, 57] (by decide +kernel) (by decide +kernel)
set_option maxRecDepth 20000 in
theorem gX8_ofPerson_X8_owesAll : GoodIn wsX8_ofPerson (wsV RX8 126 RX8 yX8_owesAll wsX8_owesAll) := goodIn_app (goodIn_of _ (by decide +kernel)) ggX8_ofPerson_X8_owesAll
set_option maxRecDepth 20000 in
theorem ggX8_ofPerson_X8_roundOf : GoodIn wsX8_ofPerson wsX8_roundOf := goodIn_r _ [19, 7, 20, 21, 22, 5, 23, 24, 25, 26, 27, 12, 1, 13, 14, 15, 37, 38, 39, 40, 41, 42, 43, 44, 45, 46, 47, 48, 49, 50, 51, 52, 53, 54, 55, 56, 57] (by decide +kernel) (by decide +kernel)
set_option maxRecDepth 20000 in
theorem gX8_ofPerson_X8_roundOf : GoodIn wsX8_ofPerson (wsV RX8 120 RX8 yX8_roundOf wsX8_roundOf) := goodIn_app (goodIn_of _ (by decide +kernel)) ggX8_ofPerson_X8_roundOf
set_option maxRecDepth 20000 in
theorem ggX8_ofPerson_X8_steps : GoodIn wsX8_ofPerson wsX8_steps := goodIn_r _ [31, 7, 37, 38, 39, 40, 41, 42, 43, 44, 45, 46, 47, 48, 49, 50, 51, 52, 53, 54, 55, 56, 57] (by decide +kernel) (by decide +kernel)
set_option maxRecDepth 20000 in
theorem gX8_ofPerson_X8_steps : GoodIn wsX8_ofPerson (wsV RX8 123 RX8 yX8_steps wsX8_steps) := goodIn_app (goodIn_of _ (by decide +kernel)) ggX8_ofPerson_X8_steps
set_option maxRecDepth 20000 in
theorem ggX8_ofPerson_X8_isInTime : GoodIn wsX8_ofPerson wsX8_isInTime := goodIn_r _ [35, 36, 16, 17, 18, 5, 19, 7, 20, 21, 22, 23, 24, 25, 26, 27, 12, 1, 13, 14, 15, 28, 29, 30, 31, 37, 38, 39, 40, 41, 42, 43, 44, 45, 46, 47, 48, 49, 50, 51, 52, 53, 54, 55, 56, 57] (by decide +kernel) (by decide +kernel)
set_option maxRecDepth 20000 in
theorem gX8_ofPerson_X8_isInTime : GoodIn wsX8_ofPerson (wsV RX8 129 RX8 yX8_isInTime wsX8_isInTime) := goodIn_app (goodIn_of _ (by decide +kernel)) ggX8_ofPerson_X8_isInTime
theorem dX8_ofPerson_0 : decode cX8_ofPerson 0 = .ok (.aload_n 0, 1) := by decide +kernel
theorem dX8_ofPerson_1 : decode cX8_ofPerson 1 = .ok (.iload_n 1, 1) := by decide +kernel
theorem dX8_ofPerson_2 : decode cX8_ofPerson 2 = .ok (.invokevirtual 63, 3) := by decide +kernel
theorem dX8_ofPerson_5 : decode cX8_ofPerson 5 = .ok (.ifCond .ne 5, 3) := by decide +kernel
theorem dX8_ofPerson_8 : decode cX8_ofPerson 8 = .ok (.iconst (-1), 1) := by decide +kernel
theorem dX8_ofPerson_9 : decode cX8_ofPerson 9 = .ok (.ireturn, 1) := by decide +kernel
theorem dX8_ofPerson_10 : decode cX8_ofPerson 10 = .ok (.iload_n 2, 1) := by decide +kernel
theorem dX8_ofPerson_11 : decode cX8_ofPerson 11 = .ok (.tableswitch 77 0 4 #[33, 40, 46, 52, 63], 33) := by decide +kernel
theorem dX8_ofPerson_44 : decode cX8_ofPerson 44 = .ok (.aload_n 0, 1) := by decide +kernel
theorem dX8_ofPerson_45 : decode cX8_ofPerson 45 = .ok (.getfield 19, 3) := by decide +kernel
theorem dX8_ofPerson_48 : decode cX8_ofPerson 48 = .ok (.iload_n 1, 1) := by decide +kernel
theorem dX8_ofPerson_49 : decode cX8_ofPerson 49 = .ok (.iaload, 1) := by decide +kernel
theorem dX8_ofPerson_50 : decode cX8_ofPerson 50 = .ok (.ireturn, 1) := by decide +kernel
theorem dX8_ofPerson_51 : decode cX8_ofPerson 51 = .ok (.aload_n 0, 1) := by decide +kernel
theorem dX8_ofPerson_52 : decode cX8_ofPerson 52 = .ok (.iload_n 1, 1) := by decide +kernel
theorem dX8_ofPerson_53 : decode cX8_ofPerson 53 = .ok (.invokevirtual 126, 3) := by decide +kernel
theorem dX8_ofPerson_56 : decode cX8_ofPerson 56 = .ok (.ireturn, 1) := by decide +kernel
theorem dX8_ofPerson_57 : decode cX8_ofPerson 57 = .ok (.aload_n 0, 1) := by decide +kernel
theorem dX8_ofPerson_58 : decode cX8_ofPerson 58 = .ok (.iload_n 1, 1) := by decide +kernel
theorem dX8_ofPerson_59 : decode cX8_ofPerson 59 = .ok (.invokevirtual 120, 3) := by decide +kernel
theorem dX8_ofPerson_62 : decode cX8_ofPerson 62 = .ok (.ireturn, 1) := by decide +kernel
theorem dX8_ofPerson_63 : decode cX8_ofPerson 63 = .ok (.aload_n 0, 1) := by decide +kernel
theorem dX8_ofPerson_64 : decode cX8_ofPerson 64 = .ok (.iload_n 1, 1) := by decide +kernel
theorem dX8_ofPerson_65 : decode cX8_ofPerson 65 = .ok (.aload_n 0, 1) := by decide +kernel
theorem dX8_ofPerson_66 : decode cX8_ofPerson 66 = .ok (.iload_n 1, 1) := by decide +kernel
theorem dX8_ofPerson_67 : decode cX8_ofPerson 67 = .ok (.invokevirtual 120, 3) := by decide +kernel
theorem dX8_ofPerson_70 : decode cX8_ofPerson 70 = .ok (.invokevirtual 123, 3) := by decide +kernel
theorem dX8_ofPerson_73 : decode cX8_ofPerson 73 = .ok (.ireturn, 1) := by decide +kernel
theorem dX8_ofPerson_74 : decode cX8_ofPerson 74 = .ok (.aload_n 0, 1) := by decide +kernel
theorem dX8_ofPerson_75 : decode cX8_ofPerson 75 = .ok (.iload_n 1, 1) := by decide +kernel
theorem dX8_ofPerson_76 : decode cX8_ofPerson 76 = .ok (.invokevirtual 129, 3) := by decide +kernel
theorem dX8_ofPerson_79 : decode cX8_ofPerson 79 = .ok (.ifCond .eq 7, 3) := by decide +kernel
theorem dX8_ofPerson_82 : decode cX8_ofPerson 82 = .ok (.iconst 1, 1) := by decide +kernel
theorem dX8_ofPerson_83 : decode cX8_ofPerson 83 = .ok (.goto 4, 3) := by decide +kernel
theorem dX8_ofPerson_86 : decode cX8_ofPerson 86 = .ok (.iconst 0, 1) := by decide +kernel
theorem dX8_ofPerson_87 : decode cX8_ofPerson 87 = .ok (.ireturn, 1) := by decide +kernel
theorem dX8_ofPerson_88 : decode cX8_ofPerson 88 = .ok (.bipush (-2), 2) := by decide +kernel
theorem dX8_ofPerson_90 : decode cX8_ofPerson 90 = .ok (.ireturn, 1) := by decide +kernel
set_option maxRecDepth 20000 in
theorem ggX8_owe_X8_areTwo : GoodIn wsX8_owe wsX8_areTwo := goodIn_r _ [6, 7, 8, 9, 5, 10, 11, 18, 19, 20, 21, 22, 23, 24, 25, 26, 27, 28, 29, 30, 31, 32, 33, 34, 35, 36, 37, 38] (by decide +kernel) (by decide +kernel)
set_option maxRecDepth 20000 in
theorem gX8_owe_X8_areTwo : GoodIn wsX8_owe (wsV RX8 132 RX8 yX8_areTwo wsX8_areTwo) := goodIn_app (goodIn_of _ (by decide +kernel)) ggX8_owe_X8_areTwo
set_option maxRecDepth 20000 in
theorem ggX8_owe_X8_within : GoodIn wsX8_owe wsX8_within := goodIn_r _ [14] (by decide +kernel) (by decide +kernel)
set_option maxRecDepth 20000 in
theorem gX8_owe_X8_within : GoodIn wsX8_owe (va_wsS RX8 56 yX8_within wsX8_within) := goodIn_app (goodIn_of _ (by decide +kernel)) ggX8_owe_X8_within
set_option maxRecDepth 20000 in
theorem ggX8_owe_X8_spot : GoodIn wsX8_owe wsX8_spot := goodIn_r _ [17] (by decide +kernel) (by decide +kernel)
set_option maxRecDepth 20000 in
theorem gX8_owe_X8_spot : GoodIn wsX8_owe (va_wsS RX8 110 yX8_spot wsX8_spot) := goodIn_app (goodIn_of _ (by decide +kernel)) ggX8_owe_X8_spot
theorem dX8_owe_0 : decode cX8_owe 0 = .ok (.aload_n 0, 1) := by decide +kernel
theorem dX8_owe_1 : decode cX8_owe 1 = .ok (.iload_n 1, 1) := by decide +kernel
theorem dX8_owe_2 : decode cX8_owe 2 = .ok (.iload_n 2, 1) := by decide +kernel
theorem dX8_owe_3 : decode cX8_owe 3 = .ok (.invokevirtual 132, 3) := by decide +kernel
theorem dX8_owe_6 : decode cX8_owe 6 = .ok (.ifCond .ne 5, 3) := by decide +kernel
theorem dX8_owe_9 : decode cX8_owe 9 = .ok (.iconst (-1), 1) := by decide +kernel
theorem dX8_owe_10 : decode cX8_owe 10 = .ok (.ireturn, 1) := by decide +kernel
theorem dX8_owe_11 : decode cX8_owe 11 = .ok (.iload_n 3, 1) := by decide +kernel
theorem dX8_owe_12 : decode cX8_owe 12 = .ok (.iconst 0, 1) := by decide +kernel
theorem dX8_owe_13 : decode cX8_owe 13 = .ok (.bipush 9, 2) := by decide +kernel
theorem dX8_owe_15 : decode cX8_owe 15 = .ok (.invokestatic 56, 3) := by decide +kernel
theorem dX8_owe_18 : decode cX8_owe 18 = .ok (.ifCond .ne 6, 3) := by decide +kernel
theorem dX8_owe_21 : decode cX8_owe 21 = .ok (.bipush (-2), 2) := by decide +kernel
theorem dX8_owe_23 : decode cX8_owe 23 = .ok (.ireturn, 1) := by decide +kernel
theorem dX8_owe_24 : decode cX8_owe 24 = .ok (.aload_n 0, 1) := by decide +kernel
theorem dX8_owe_25 : decode cX8_owe 25 = .ok (.getfield 22, 3) := by decide +kernel
theorem dX8_owe_28 : decode cX8_owe 28 = .ok (.iload_n 1, 1) := by decide +kernel
theorem dX8_owe_29 : decode cX8_owe 29 = .ok (.iload_n 2, 1) := by decide +kernel
theorem dX8_owe_30 : decode cX8_owe 30 = .ok (.invokestatic 110, 3) := by decide +kernel
theorem dX8_owe_33 : decode cX8_owe 33 = .ok (.iaload, 1) := by decide +kernel
theorem dX8_owe_34 : decode cX8_owe 34 = .ok (.istore 4, 2) := by decide +kernel
theorem dX8_owe_36 : decode cX8_owe 36 = .ok (.aload_n 0, 1) := by decide +kernel
theorem dX8_owe_37 : decode cX8_owe 37 = .ok (.getfield 22, 3) := by decide +kernel
theorem dX8_owe_40 : decode cX8_owe 40 = .ok (.iload_n 1, 1) := by decide +kernel
theorem dX8_owe_41 : decode cX8_owe 41 = .ok (.iload_n 2, 1) := by decide +kernel
theorem dX8_owe_42 : decode cX8_owe 42 = .ok (.invokestatic 110, 3) := by decide +kernel
theorem dX8_owe_45 : decode cX8_owe 45 = .ok (.iload_n 3, 1) := by decide +kernel
theorem dX8_owe_46 : decode cX8_owe 46 = .ok (.iastore, 1) := by decide +kernel
theorem dX8_owe_47 : decode cX8_owe 47 = .ok (.iload 4, 2) := by decide +kernel
theorem dX8_owe_49 : decode cX8_owe 49 = .ok (.ireturn, 1) := by decide +kernel
set_option maxRecDepth 20000 in
theorem ggX8_owes_X8_isPerson : GoodIn wsX8_owes wsX8_isPerson := goodIn_r _ [6, 7, 11, 12, 13, 14, 15, 16, 17, 18, 19, 20, 21, 22, 23, 24, 25, 26, 27, 28, 29, 30, 31] (by decide +kernel) (by decide +kernel)
set_option maxRecDepth 20000 in
theorem gX8_owes_X8_isPerson : GoodIn wsX8_owes (wsV RX8 63 RX8 yX8_isPerson wsX8_isPerson) := goodIn_app (goodIn_of _ (by decide +kernel)) ggX8_owes_X8_isPerson
set_option maxRecDepth 20000 in
theorem ggX8_owes_X8_spot : GoodIn wsX8_owes wsX8_spot := goodIn_r _ [10] (by decide +kernel) (by decide +kernel)
set_option maxRecDepth 20000 in
theorem gX8_owes_X8_spot : GoodIn wsX8_owes (va_wsS RX8 110 yX8_spot wsX8_spot) := goodIn_app (goodIn_of _ (by decide +kernel)) ggX8_owes_X8_spot
theorem dX8_owes_0 : decode cX8_owes 0 = .ok (.aload_n 0, 1) := by decide +kernel
theorem dX8_owes_1 : decode cX8_owes 1 = .ok (.iload_n 1, 1) := by decide +kernel
theorem dX8_owes_2 : decode cX8_owes 2 = .ok (.invokevirtual 63, 3) := by decide +kernel
theorem dX8_owes_5 : decode cX8_owes 5 = .ok (.ifCond .eq 24, 3) := by decide +kernel
theorem dX8_owes_8 : decode cX8_owes 8 = .ok (.aload_n 0, 1) := by decide +kernel
theorem dX8_owes_9 : decode cX8_owes 9 = .ok (.iload_n 2, 1) := by decide +kernel
theorem dX8_owes_10 : decode cX8_owes 10 = .ok (.invokevirtual 63, 3) := by decide +kernel
theorem dX8_owes_13 : decode cX8_owes 13 = .ok (.ifCond .eq 16, 3) := by decide +kernel
theorem dX8_owes_16 : decode cX8_owes 16 = .ok (.aload_n 0, 1) := by decide +kernel
theorem dX8_owes_17 : decode cX8_owes 17 = .ok (.getfield 22, 3) := by decide +kernel
theorem dX8_owes_20 : decode cX8_owes 20 = .ok (.iload_n 1, 1) := by decide +kernel
theorem dX8_owes_21 : decode cX8_owes 21 = .ok (.iload_n 2, 1) := by decide +kernel
theorem dX8_owes_22 : decode cX8_owes 22 = .ok (.invokestatic 110, 3) := by decide +kernel
theorem dX8_owes_25 : decode cX8_owes 25 = .ok (.iaload, 1) := by decide +kernel
theorem dX8_owes_26 : decode cX8_owes 26 = .ok (.goto 4, 3) := by decide +kernel
theorem dX8_owes_29 : decode cX8_owes 29 = .ok (.iconst (-1), 1) := by decide +kernel
theorem dX8_owes_30 : decode cX8_owes 30 = .ok (.ireturn, 1) := by decide +kernel
set_option maxRecDepth 20000 in
theorem ggX8_weight_X8_isPerson : GoodIn wsX8_weight wsX8_isPerson := goodIn_r _ [5, 6, 16, 17, 18, 19, 20, 21, 22, 23, 24, 25, 26, 27, 28, 29, 30, 31, 32, 33, 34, 35, 36] (by decide +kernel) (by decide +kernel)
set_option maxRecDepth 20000 in
theorem gX8_weight_X8_isPerson : GoodIn wsX8_weight (wsV RX8 63 RX8 yX8_isPerson wsX8_isPerson) := goodIn_app (goodIn_of _ (by decide +kernel)) ggX8_weight_X8_isPerson
set_option maxRecDepth 20000 in
theorem ggX8_weight_X8_weightOf : GoodIn wsX8_weight wsX8_weightOf := goodIn_r _ [10, 11, 12, 13, 14, 4, 15, 16, 17, 18, 19, 20, 21, 22, 23, 24, 25, 26, 27, 28, 29, 30, 31, 32, 33, 34, 35, 36] (by decide +kernel) (by decide +kernel)
set_option maxRecDepth 20000 in
theorem gX8_weight_X8_weightOf : GoodIn wsX8_weight (wsV RX8 114 RX8 yX8_weightOf wsX8_weightOf) := goodIn_app (goodIn_of _ (by decide +kernel)) ggX8_weight_X8_weightOf
theorem dX8_weight_0 : decode cX8_weight 0 = .ok (.aload_n 0, 1) := by decide +kernel
theorem dX8_weight_1 : decode cX8_weight 1 = .ok (.iload_n 1, 1) := by decide +kernel
theorem dX8_weight_2 : decode cX8_weight 2 = .ok (.invokevirtual 63, 3) := by decide +kernel
theorem dX8_weight_5 : decode cX8_weight 5 = .ok (.ifCond .eq 20, 3) := by decide +kernel
theorem dX8_weight_8 : decode cX8_weight 8 = .ok (.aload_n 0, 1) := by decide +kernel
theorem dX8_weight_9 : decode cX8_weight 9 = .ok (.iload_n 2, 1) := by decide +kernel
theorem dX8_weight_10 : decode cX8_weight 10 = .ok (.invokevirtual 63, 3) := by decide +kernel
theorem dX8_weight_13 : decode cX8_weight 13 = .ok (.ifCond .eq 12, 3) := by decide +kernel
theorem dX8_weight_16 : decode cX8_weight 16 = .ok (.aload_n 0, 1) := by decide +kernel
theorem dX8_weight_17 : decode cX8_weight 17 = .ok (.iload_n 1, 1) := by decide +kernel
theorem dX8_weight_18 : decode cX8_weight 18 = .ok (.iload_n 2, 1) := by decide +kernel
theorem dX8_weight_19 : decode cX8_weight 19 = .ok (.invokevirtual 114, 3) := by decide +kernel
theorem dX8_weight_22 : decode cX8_weight 22 = .ok (.goto 4, 3) := by decide +kernel
theorem dX8_weight_25 : decode cX8_weight 25 = .ok (.iconst (-1), 1) := by decide +kernel
theorem dX8_weight_26 : decode cX8_weight 26 = .ok (.ireturn, 1) := by decide +kernel
set_option maxRecDepth 20000 in
theorem ggX8_bell_X8_within : GoodIn wsX8_bell wsX8_within := goodIn_r _ [6] (by decide +kernel) (by decide +kernel)
set_option maxRecDepth 20000 in
theorem gX8_bell_X8_within : GoodIn wsX8_bell (va_wsS RX8 56 yX8_within wsX8_within) := goodIn_app (goodIn_of _ (by decide +kernel)) ggX8_bell_X8_within
theorem dX8_bell_0 : decode cX8_bell 0 = .ok (.iload_n 1, 1) := by decide +kernel
theorem dX8_bell_1 : decode cX8_bell 1 = .ok (.iconst 0, 1) := by decide +kernel
theorem dX8_bell_2 : decode cX8_bell 2 = .ok (.bipush 9, 2) := by decide +kernel
theorem dX8_bell_4 : decode cX8_bell 4 = .ok (.invokestatic 56, 3) := by decide +kernel
theorem dX8_bell_7 : decode cX8_bell 7 = .ok (.ifCond .ne 6, 3) := by decide +kernel
theorem dX8_bell_10 : decode cX8_bell 10 = .ok (.bipush (-2), 2) := by decide +kernel
theorem dX8_bell_12 : decode cX8_bell 12 = .ok (.ireturn, 1) := by decide +kernel
theorem dX8_bell_13 : decode cX8_bell 13 = .ok (.aload_n 0, 1) := by decide +kernel
theorem dX8_bell_14 : decode cX8_bell 14 = .ok (.getfield 60, 3) := by decide +kernel
theorem dX8_bell_17 : decode cX8_bell 17 = .ok (.ifCond .ne 6, 3) := by decide +kernel
theorem dX8_bell_20 : decode cX8_bell 20 = .ok (.bipush (-3), 2) := by decide +kernel
theorem dX8_bell_22 : decode cX8_bell 22 = .ok (.ireturn, 1) := by decide +kernel
theorem dX8_bell_23 : decode cX8_bell 23 = .ok (.aload_n 0, 1) := by decide +kernel
theorem dX8_bell_24 : decode cX8_bell 24 = .ok (.getfield 93, 3) := by decide +kernel
theorem dX8_bell_27 : decode cX8_bell 27 = .ok (.istore_n 2, 1) := by decide +kernel
theorem dX8_bell_28 : decode cX8_bell 28 = .ok (.aload_n 0, 1) := by decide +kernel
theorem dX8_bell_29 : decode cX8_bell 29 = .ok (.iload_n 1, 1) := by decide +kernel
theorem dX8_bell_30 : decode cX8_bell 30 = .ok (.putfield 93, 3) := by decide +kernel
theorem dX8_bell_33 : decode cX8_bell 33 = .ok (.iload_n 2, 1) := by decide +kernel
theorem dX8_bell_34 : decode cX8_bell 34 = .ok (.ireturn, 1) := by decide +kernel
set_option maxRecDepth 20000 in
theorem ggX8_lighter_X8_isPerson : GoodIn wsX8_lighter wsX8_isPerson := goodIn_r _ [5, 6, 20, 21, 22, 23, 24, 25, 26, 27, 28, 29, 30, 31, 32, 33, 34, 35, 36, 37, 38, 39, 40] (by decide +kernel) (by decide +kernel)
set_option maxRecDepth 20000 in
theorem gX8_lighter_X8_isPerson : GoodIn wsX8_lighter (wsV RX8 63 RX8 yX8_isPerson wsX8_isPerson) := goodIn_app (goodIn_of _ (by decide +kernel)) ggX8_lighter_X8_isPerson
set_option maxRecDepth 20000 in
theorem ggX8_lighter_X8_lighterOf : GoodIn wsX8_lighter wsX8_lighterOf := goodIn_r _ [10, 6, 11, 12, 13, 4, 14, 15, 16, 17, 18, 19, 20, 21, 22, 23, 24, 25, 26, 27, 28, 29, 30, 31, 32, 33, 34, 35, 36, 37, 38, 39, 40] (by decide +kernel) (by decide +kernel)
set_option maxRecDepth 20000 in
theorem gX8_lighter_X8_lighterOf : GoodIn wsX8_lighter (wsV RX8 117 RX8 yX8_lighterOf wsX8_lighterOf) := goodIn_app (goodIn_of _ (by decide +kernel)) ggX8_lighter_X8_lighterOf
theorem dX8_lighter_0 : decode cX8_lighter 0 = .ok (.aload_n 0, 1) := by decide +kernel
theorem dX8_lighter_1 : decode cX8_lighter 1 = .ok (.iload_n 1, 1) := by decide +kernel
theorem dX8_lighter_2 : decode cX8_lighter 2 = .ok (.invokevirtual 63, 3) := by decide +kernel
theorem dX8_lighter_5 : decode cX8_lighter 5 = .ok (.ifCond .eq 11, 3) := by decide +kernel
theorem dX8_lighter_8 : decode cX8_lighter 8 = .ok (.aload_n 0, 1) := by decide +kernel
theorem dX8_lighter_9 : decode cX8_lighter 9 = .ok (.iload_n 1, 1) := by decide +kernel
theorem dX8_lighter_10 : decode cX8_lighter 10 = .ok (.invokevirtual 117, 3) := by decide +kernel
theorem dX8_lighter_13 : decode cX8_lighter 13 = .ok (.goto 4, 3) := by decide +kernel
theorem dX8_lighter_16 : decode cX8_lighter 16 = .ok (.iconst (-1), 1) := by decide +kernel
theorem dX8_lighter_17 : decode cX8_lighter 17 = .ok (.ireturn, 1) := by decide +kernel
set_option maxRecDepth 20000 in
theorem ggX8_lit_X8_lighterOf : GoodIn wsX8_lit wsX8_lighterOf := goodIn_r _ [6, 1, 7, 8, 9, 5, 10, 11, 12, 13, 14, 15, 16, 17, 18, 19, 20, 21, 22, 23, 24, 25, 26, 27, 28, 29, 30, 31, 32, 33, 34, 35, 36] (by decide +kernel) (by decide +kernel)
set_option maxRecDepth 20000 in
theorem gX8_lit_X8_lighterOf : GoodIn wsX8_lit (wsV RX8 117 RX8 yX8_lighterOf wsX8_lighterOf) := goodIn_app (goodIn_of _ (by decide +kernel)) ggX8_lit_X8_lighterOf
theorem dX8_lit_0 : decode cX8_lit 0 = .ok (.iconst 0, 1) := by decide +kernel
theorem dX8_lit_1 : decode cX8_lit 1 = .ok (.istore_n 1, 1) := by decide +kernel
theorem dX8_lit_2 : decode cX8_lit 2 = .ok (.iconst 0, 1) := by decide +kernel
theorem dX8_lit_3 : decode cX8_lit 3 = .ok (.istore_n 2, 1) := by decide +kernel
theorem dX8_lit_4 : decode cX8_lit 4 = .ok (.iload_n 2, 1) := by decide +kernel
theorem dX8_lit_5 : decode cX8_lit 5 = .ok (.aload_n 0, 1) := by decide +kernel
theorem dX8_lit_6 : decode cX8_lit 6 = .ok (.getfield 60, 3) := by decide +kernel
theorem dX8_lit_9 : decode cX8_lit 9 = .ok (.if_icmp .ge 29, 3) := by decide +kernel
theorem dX8_lit_12 : decode cX8_lit 12 = .ok (.iload_n 1, 1) := by decide +kernel
theorem dX8_lit_13 : decode cX8_lit 13 = .ok (.aload_n 0, 1) := by decide +kernel
theorem dX8_lit_14 : decode cX8_lit 14 = .ok (.iload_n 2, 1) := by decide +kernel
theorem dX8_lit_15 : decode cX8_lit 15 = .ok (.invokevirtual 117, 3) := by decide +kernel
theorem dX8_lit_18 : decode cX8_lit 18 = .ok (.bipush (-9), 2) := by decide +kernel
theorem dX8_lit_20 : decode cX8_lit 20 = .ok (.if_icmp .ne 7, 3) := by decide +kernel
theorem dX8_lit_23 : decode cX8_lit 23 = .ok (.iconst 0, 1) := by decide +kernel
theorem dX8_lit_24 : decode cX8_lit 24 = .ok (.goto 6, 3) := by decide +kernel
theorem dX8_lit_27 : decode cX8_lit 27 = .ok (.iconst 1, 1) := by decide +kernel
theorem dX8_lit_28 : decode cX8_lit 28 = .ok (.iload_n 2, 1) := by decide +kernel
theorem dX8_lit_29 : decode cX8_lit 29 = .ok (.ishl, 1) := by decide +kernel
theorem dX8_lit_30 : decode cX8_lit 30 = .ok (.ior, 1) := by decide +kernel
theorem dX8_lit_31 : decode cX8_lit 31 = .ok (.istore_n 1, 1) := by decide +kernel
theorem dX8_lit_32 : decode cX8_lit 32 = .ok (.iinc 2 1, 3) := by decide +kernel
theorem dX8_lit_35 : decode cX8_lit 35 = .ok (.goto (-31), 3) := by decide +kernel
theorem dX8_lit_38 : decode cX8_lit 38 = .ok (.iload_n 1, 1) := by decide +kernel
theorem dX8_lit_39 : decode cX8_lit 39 = .ok (.ireturn, 1) := by decide +kernel
set_option maxRecDepth 20000 in
theorem ggX8_goDusk_X8_lighterOf : GoodIn wsX8_goDusk wsX8_lighterOf := goodIn_r _ [9, 1, 10, 11, 12, 8, 13, 4, 14, 15, 16, 17, 31, 32, 33, 34, 35, 36, 37, 38, 39, 40, 41, 42, 43, 44, 45, 46, 47, 48, 49, 50, 51] (by decide +kernel) (by decide +kernel)
set_option maxRecDepth 20000 in
theorem gX8_goDusk_X8_lighterOf : GoodIn wsX8_goDusk (wsV RX8 117 RX8 yX8_lighterOf wsX8_lighterOf) := goodIn_app (goodIn_of _ (by decide +kernel)) ggX8_goDusk_X8_lighterOf
set_option maxRecDepth 20000 in
theorem ggX8_goDusk_X8_isInTime : GoodIn wsX8_goDusk wsX8_isInTime := goodIn_r _ [21, 22, 23, 24, 25, 8, 26, 1, 5, 6, 7, 9, 10, 11, 12, 13, 4, 14, 15, 16, 17, 27, 28, 29, 30, 31, 32, 33, 34, 35, 36, 37, 38, 39, 40, 41, 42, 43, 44, 45, 46, 47, 48, 49, 50, 51] (by decide +kernel) (by decide +kernel)
set_option maxRecDepth 20000 in
theorem gX8_goDusk_X8_isInTime : GoodIn wsX8_goDusk (wsV RX8 129 RX8 yX8_isInTime wsX8_isInTime) := goodIn_app (goodIn_of _ (by decide +kernel)) ggX8_goDusk_X8_isInTime
set_option maxRecDepth 20000 in
theorem ggX8_goDusk_X8_spot : GoodIn wsX8_goDusk wsX8_spot := goodIn_r _ [17] (by decide +kernel) (by decide +kernel)
set_option maxRecDepth 20000 in
theorem gX8_goDusk_X8_spot : GoodIn wsX8_goDusk (va_wsS RX8 110 yX8_spot wsX8_spot) := goodIn_app (goodIn_of _ (by decide +kernel)) ggX8_goDusk_X8_spot
theorem dX8_goDusk_0 : decode cX8_goDusk 0 = .ok (.iconst 0, 1) := by decide +kernel
theorem dX8_goDusk_1 : decode cX8_goDusk 1 = .ok (.istore_n 1, 1) := by decide +kernel
theorem dX8_goDusk_2 : decode cX8_goDusk 2 = .ok (.iload_n 1, 1) := by decide +kernel
theorem dX8_goDusk_3 : decode cX8_goDusk 3 = .ok (.aload_n 0, 1) := by decide +kernel
theorem dX8_goDusk_4 : decode cX8_goDusk 4 = .ok (.getfield 60, 3) := by decide +kernel
theorem dX8_goDusk_7 : decode cX8_goDusk 7 = .ok (.if_icmp .ge 31, 3) := by decide +kernel
theorem dX8_goDusk_10 : decode cX8_goDusk 10 = .ok (.aload_n 0, 1) := by decide +kernel
theorem dX8_goDusk_11 : decode cX8_goDusk 11 = .ok (.getfield 31, 3) := by decide +kernel
theorem dX8_goDusk_14 : decode cX8_goDusk 14 = .ok (.iload_n 1, 1) := by decide +kernel
theorem dX8_goDusk_15 : decode cX8_goDusk 15 = .ok (.aload_n 0, 1) := by decide +kernel
theorem dX8_goDusk_16 : decode cX8_goDusk 16 = .ok (.iload_n 1, 1) := by decide +kernel
theorem dX8_goDusk_17 : decode cX8_goDusk 17 = .ok (.invokevirtual 117, 3) := by decide +kernel
theorem dX8_goDusk_20 : decode cX8_goDusk 20 = .ok (.iastore, 1) := by decide +kernel
theorem dX8_goDusk_21 : decode cX8_goDusk 21 = .ok (.aload_n 0, 1) := by decide +kernel
theorem dX8_goDusk_22 : decode cX8_goDusk 22 = .ok (.getfield 34, 3) := by decide +kernel
theorem dX8_goDusk_25 : decode cX8_goDusk 25 = .ok (.iload_n 1, 1) := by decide +kernel
theorem dX8_goDusk_26 : decode cX8_goDusk 26 = .ok (.aload_n 0, 1) := by decide +kernel
theorem dX8_goDusk_27 : decode cX8_goDusk 27 = .ok (.iload_n 1, 1) := by decide +kernel
theorem dX8_goDusk_28 : decode cX8_goDusk 28 = .ok (.invokevirtual 129, 3) := by decide +kernel
theorem dX8_goDusk_31 : decode cX8_goDusk 31 = .ok (.bastore, 1) := by decide +kernel
theorem dX8_goDusk_32 : decode cX8_goDusk 32 = .ok (.iinc 1 1, 3) := by decide +kernel
theorem dX8_goDusk_35 : decode cX8_goDusk 35 = .ok (.goto (-33), 3) := by decide +kernel
theorem dX8_goDusk_38 : decode cX8_goDusk 38 = .ok (.iconst 0, 1) := by decide +kernel
theorem dX8_goDusk_39 : decode cX8_goDusk 39 = .ok (.istore_n 1, 1) := by decide +kernel
theorem dX8_goDusk_40 : decode cX8_goDusk 40 = .ok (.iload_n 1, 1) := by decide +kernel
theorem dX8_goDusk_41 : decode cX8_goDusk 41 = .ok (.aload_n 0, 1) := by decide +kernel
theorem dX8_goDusk_42 : decode cX8_goDusk 42 = .ok (.getfield 60, 3) := by decide +kernel
theorem dX8_goDusk_45 : decode cX8_goDusk 45 = .ok (.if_icmp .ge 81, 3) := by decide +kernel
theorem dX8_goDusk_48 : decode cX8_goDusk 48 = .ok (.aload_n 0, 1) := by decide +kernel
theorem dX8_goDusk_49 : decode cX8_goDusk 49 = .ok (.getfield 31, 3) := by decide +kernel
theorem dX8_goDusk_52 : decode cX8_goDusk 52 = .ok (.iload_n 1, 1) := by decide +kernel
theorem dX8_goDusk_53 : decode cX8_goDusk 53 = .ok (.iaload, 1) := by decide +kernel
theorem dX8_goDusk_54 : decode cX8_goDusk 54 = .ok (.istore_n 2, 1) := by decide +kernel
theorem dX8_goDusk_55 : decode cX8_goDusk 55 = .ok (.iload_n 2, 1) := by decide +kernel
theorem dX8_goDusk_56 : decode cX8_goDusk 56 = .ok (.bipush (-9), 2) := by decide +kernel
theorem dX8_goDusk_58 : decode cX8_goDusk 58 = .ok (.if_icmp .eq 62, 3) := by decide +kernel
theorem dX8_goDusk_61 : decode cX8_goDusk 61 = .ok (.aload_n 0, 1) := by decide +kernel
theorem dX8_goDusk_62 : decode cX8_goDusk 62 = .ok (.getfield 34, 3) := by decide +kernel
theorem dX8_goDusk_65 : decode cX8_goDusk 65 = .ok (.iload_n 2, 1) := by decide +kernel
theorem dX8_goDusk_66 : decode cX8_goDusk 66 = .ok (.baload, 1) := by decide +kernel
theorem dX8_goDusk_67 : decode cX8_goDusk 67 = .ok (.ifCond .eq 18, 3) := by decide +kernel
theorem dX8_goDusk_70 : decode cX8_goDusk 70 = .ok (.aload_n 0, 1) := by decide +kernel
theorem dX8_goDusk_71 : decode cX8_goDusk 71 = .ok (.getfield 22, 3) := by decide +kernel
theorem dX8_goDusk_74 : decode cX8_goDusk 74 = .ok (.iload_n 2, 1) := by decide +kernel
theorem dX8_goDusk_75 : decode cX8_goDusk 75 = .ok (.iload_n 1, 1) := by decide +kernel
theorem dX8_goDusk_76 : decode cX8_goDusk 76 = .ok (.invokestatic 110, 3) := by decide +kernel
theorem dX8_goDusk_79 : decode cX8_goDusk 79 = .ok (.iaload, 1) := by decide +kernel
theorem dX8_goDusk_80 : decode cX8_goDusk 80 = .ok (.iconst 1, 1) := by decide +kernel
theorem dX8_goDusk_81 : decode cX8_goDusk 81 = .ok (.isub, 1) := by decide +kernel
theorem dX8_goDusk_82 : decode cX8_goDusk 82 = .ok (.goto 15, 3) := by decide +kernel
theorem dX8_goDusk_85 : decode cX8_goDusk 85 = .ok (.iconst 2, 1) := by decide +kernel
theorem dX8_goDusk_86 : decode cX8_goDusk 86 = .ok (.aload_n 0, 1) := by decide +kernel
theorem dX8_goDusk_87 : decode cX8_goDusk 87 = .ok (.getfield 22, 3) := by decide +kernel
theorem dX8_goDusk_90 : decode cX8_goDusk 90 = .ok (.iload_n 2, 1) := by decide +kernel
theorem dX8_goDusk_91 : decode cX8_goDusk 91 = .ok (.iload_n 1, 1) := by decide +kernel
theorem dX8_goDusk_92 : decode cX8_goDusk 92 = .ok (.invokestatic 110, 3) := by decide +kernel
theorem dX8_goDusk_95 : decode cX8_goDusk 95 = .ok (.iaload, 1) := by decide +kernel
theorem dX8_goDusk_96 : decode cX8_goDusk 96 = .ok (.imul, 1) := by decide +kernel
theorem dX8_goDusk_97 : decode cX8_goDusk 97 = .ok (.istore_n 3, 1) := by decide +kernel
theorem dX8_goDusk_98 : decode cX8_goDusk 98 = .ok (.aload_n 0, 1) := by decide +kernel
theorem dX8_goDusk_99 : decode cX8_goDusk 99 = .ok (.getfield 22, 3) := by decide +kernel
theorem dX8_goDusk_102 : decode cX8_goDusk 102 = .ok (.iload_n 2, 1) := by decide +kernel
theorem dX8_goDusk_103 : decode cX8_goDusk 103 = .ok (.iload_n 1, 1) := by decide +kernel
theorem dX8_goDusk_104 : decode cX8_goDusk 104 = .ok (.invokestatic 110, 3) := by decide +kernel
theorem dX8_goDusk_107 : decode cX8_goDusk 107 = .ok (.iload_n 3, 1) := by decide +kernel
theorem dX8_goDusk_108 : decode cX8_goDusk 108 = .ok (.bipush 9, 2) := by decide +kernel
theorem dX8_goDusk_110 : decode cX8_goDusk 110 = .ok (.if_icmp .le 8, 3) := by decide +kernel
theorem dX8_goDusk_113 : decode cX8_goDusk 113 = .ok (.bipush 9, 2) := by decide +kernel
theorem dX8_goDusk_115 : decode cX8_goDusk 115 = .ok (.goto 4, 3) := by decide +kernel
theorem dX8_goDusk_118 : decode cX8_goDusk 118 = .ok (.iload_n 3, 1) := by decide +kernel
theorem dX8_goDusk_119 : decode cX8_goDusk 119 = .ok (.iastore, 1) := by decide +kernel
theorem dX8_goDusk_120 : decode cX8_goDusk 120 = .ok (.iinc 1 1, 3) := by decide +kernel
theorem dX8_goDusk_123 : decode cX8_goDusk 123 = .ok (.goto (-83), 3) := by decide +kernel
theorem dX8_goDusk_126 : decode cX8_goDusk 126 = .ok (.return_, 1) := by decide +kernel
set_option maxRecDepth 20000 in
theorem ggX8_dusks_X8_within : GoodIn wsX8_dusks wsX8_within := goodIn_r _ [5] (by decide +kernel) (by decide +kernel)
set_option maxRecDepth 20000 in
theorem gX8_dusks_X8_within : GoodIn wsX8_dusks (va_wsS RX8 56 yX8_within wsX8_within) := goodIn_app (goodIn_of _ (by decide +kernel)) ggX8_dusks_X8_within
set_option maxRecDepth 20000 in
theorem ggX8_dusks_X8_goDusk : GoodIn wsX8_dusks wsX8_goDusk := goodIn_r _ [9, 1, 10, 11, 12, 13, 14, 15, 4, 16, 17, 18, 19, 20, 21, 22, 23, 24, 25, 26, 27, 28, 29, 30, 31, 32, 33, 34, 35, 36, 37, 42, 43, 44, 45, 46, 47, 48, 49, 50, 51, 52, 53, 54, 55, 56, 57, 58, 59, 60, 61, 62] (by decide +kernel) (by decide +kernel)
set_option maxRecDepth 20000 in
theorem gX8_dusks_X8_goDusk : GoodIn wsX8_dusks (wsV RX8 135 RX8 yX8_goDusk wsX8_goDusk) := goodIn_app (goodIn_of _ (by decide +kernel)) ggX8_dusks_X8_goDusk
set_option maxRecDepth 20000 in
theorem ggX8_dusks_X8_lit : GoodIn wsX8_dusks wsX8_lit := goodIn_r _ [41, 1, 13, 14, 15, 4, 16, 17, 18, 19, 20, 12, 21, 22, 23, 24, 42, 43, 44, 45, 46, 47, 48, 49, 50, 51, 52, 53, 54, 55, 56, 57, 58, 59, 60, 61, 62] (by decide +kernel) (by decide +kernel)
set_option maxRecDepth 20000 in
theorem gX8_dusks_X8_lit : GoodIn wsX8_dusks (wsV RX8 138 RX8 yX8_lit wsX8_lit) := goodIn_app (goodIn_of _ (by decide +kernel)) ggX8_dusks_X8_lit
theorem dX8_dusks_0 : decode cX8_dusks 0 = .ok (.iload_n 1, 1) := by decide +kernel
theorem dX8_dusks_1 : decode cX8_dusks 1 = .ok (.iconst 0, 1) := by decide +kernel
theorem dX8_dusks_2 : decode cX8_dusks 2 = .ok (.bipush 60, 2) := by decide +kernel
theorem dX8_dusks_4 : decode cX8_dusks 4 = .ok (.invokestatic 56, 3) := by decide +kernel
theorem dX8_dusks_7 : decode cX8_dusks 7 = .ok (.ifCond .ne 6, 3) := by decide +kernel
theorem dX8_dusks_10 : decode cX8_dusks 10 = .ok (.bipush (-2), 2) := by decide +kernel
theorem dX8_dusks_12 : decode cX8_dusks 12 = .ok (.ireturn, 1) := by decide +kernel
theorem dX8_dusks_13 : decode cX8_dusks 13 = .ok (.aload_n 0, 1) := by decide +kernel
theorem dX8_dusks_14 : decode cX8_dusks 14 = .ok (.getfield 60, 3) := by decide +kernel
theorem dX8_dusks_17 : decode cX8_dusks 17 = .ok (.ifCond .ne 6, 3) := by decide +kernel
theorem dX8_dusks_20 : decode cX8_dusks 20 = .ok (.bipush (-3), 2) := by decide +kernel
theorem dX8_dusks_22 : decode cX8_dusks 22 = .ok (.ireturn, 1) := by decide +kernel
theorem dX8_dusks_23 : decode cX8_dusks 23 = .ok (.iconst 0, 1) := by decide +kernel
theorem dX8_dusks_24 : decode cX8_dusks 24 = .ok (.istore_n 2, 1) := by decide +kernel
theorem dX8_dusks_25 : decode cX8_dusks 25 = .ok (.iload_n 2, 1) := by decide +kernel
theorem dX8_dusks_26 : decode cX8_dusks 26 = .ok (.iload_n 1, 1) := by decide +kernel
theorem dX8_dusks_27 : decode cX8_dusks 27 = .ok (.if_icmp .ge 13, 3) := by decide +kernel
theorem dX8_dusks_30 : decode cX8_dusks 30 = .ok (.aload_n 0, 1) := by decide +kernel
theorem dX8_dusks_31 : decode cX8_dusks 31 = .ok (.invokevirtual 135, 3) := by decide +kernel
theorem dX8_dusks_34 : decode cX8_dusks 34 = .ok (.iinc 2 1, 3) := by decide +kernel
theorem dX8_dusks_37 : decode cX8_dusks 37 = .ok (.goto (-12), 3) := by decide +kernel
theorem dX8_dusks_40 : decode cX8_dusks 40 = .ok (.aload_n 0, 1) := by decide +kernel
theorem dX8_dusks_41 : decode cX8_dusks 41 = .ok (.invokevirtual 138, 3) := by decide +kernel
theorem dX8_dusks_44 : decode cX8_dusks 44 = .ok (.ireturn, 1) := by decide +kernel
theorem dX8_keep_0 : decode cX8_keep 0 = .ok (.iconst 0, 1) := by decide +kernel
theorem dX8_keep_1 : decode cX8_keep 1 = .ok (.istore_n 1, 1) := by decide +kernel
theorem dX8_keep_2 : decode cX8_keep 2 = .ok (.iload_n 1, 1) := by decide +kernel
theorem dX8_keep_3 : decode cX8_keep 3 = .ok (.bipush 36, 2) := by decide +kernel
theorem dX8_keep_5 : decode cX8_keep 5 = .ok (.if_icmp .ge 21, 3) := by decide +kernel
theorem dX8_keep_8 : decode cX8_keep 8 = .ok (.aload_n 0, 1) := by decide +kernel
theorem dX8_keep_9 : decode cX8_keep 9 = .ok (.getfield 38, 3) := by decide +kernel
theorem dX8_keep_12 : decode cX8_keep 12 = .ok (.iload_n 1, 1) := by decide +kernel
theorem dX8_keep_13 : decode cX8_keep 13 = .ok (.aload_n 0, 1) := by decide +kernel
theorem dX8_keep_14 : decode cX8_keep 14 = .ok (.getfield 22, 3) := by decide +kernel
theorem dX8_keep_17 : decode cX8_keep 17 = .ok (.iload_n 1, 1) := by decide +kernel
theorem dX8_keep_18 : decode cX8_keep 18 = .ok (.iaload, 1) := by decide +kernel
theorem dX8_keep_19 : decode cX8_keep 19 = .ok (.iastore, 1) := by decide +kernel
theorem dX8_keep_20 : decode cX8_keep 20 = .ok (.iinc 1 1, 3) := by decide +kernel
theorem dX8_keep_23 : decode cX8_keep 23 = .ok (.goto (-21), 3) := by decide +kernel
theorem dX8_keep_26 : decode cX8_keep 26 = .ok (.return_, 1) := by decide +kernel
theorem dX8_restore_0 : decode cX8_restore 0 = .ok (.iconst 0, 1) := by decide +kernel
theorem dX8_restore_1 : decode cX8_restore 1 = .ok (.istore_n 1, 1) := by decide +kernel
theorem dX8_restore_2 : decode cX8_restore 2 = .ok (.iload_n 1, 1) := by decide +kernel
theorem dX8_restore_3 : decode cX8_restore 3 = .ok (.bipush 36, 2) := by decide +kernel
theorem dX8_restore_5 : decode cX8_restore 5 = .ok (.if_icmp .ge 21, 3) := by decide +kernel
theorem dX8_restore_8 : decode cX8_restore 8 = .ok (.aload_n 0, 1) := by decide +kernel
theorem dX8_restore_9 : decode cX8_restore 9 = .ok (.getfield 22, 3) := by decide +kernel
theorem dX8_restore_12 : decode cX8_restore 12 = .ok (.iload_n 1, 1) := by decide +kernel
theorem dX8_restore_13 : decode cX8_restore 13 = .ok (.aload_n 0, 1) := by decide +kernel
theorem dX8_restore_14 : decode cX8_restore 14 = .ok (.getfield 38, 3) := by decide +kernel
theorem dX8_restore_17 : decode cX8_restore 17 = .ok (.iload_n 1, 1) := by decide +kernel
theorem dX8_restore_18 : decode cX8_restore 18 = .ok (.iaload, 1) := by decide +kernel
theorem dX8_restore_19 : decode cX8_restore 19 = .ok (.iastore, 1) := by decide +kernel
theorem dX8_restore_20 : decode cX8_restore 20 = .ok (.iinc 1 1, 3) := by decide +kernel
theorem dX8_restore_23 : decode cX8_restore 23 = .ok (.goto (-21), 3) := by decide +kernel
theorem dX8_restore_26 : decode cX8_restore 26 = .ok (.return_, 1) := by decide +kernel
set_option maxRecDepth 20000 in
theorem ggX8_later_X8_isPerson : GoodIn wsX8_later wsX8_isPerson := goodIn_r _ [5, 6, 51, 52, 53, 54, 55, 56, 57, 58, 59, 60, 61, 62, 63, 64, 65, 66, 67, 68, 69, 70, 71] (by decide +kernel) (by decide +kernel)
set_option maxRecDepth 20000 in
theorem gX8_later_X8_isPerson : GoodIn wsX8_later (wsV RX8 63 RX8 yX8_isPerson wsX8_isPerson) := goodIn_app (goodIn_of _ (by decide +kernel)) ggX8_later_X8_isPerson
set_option maxRecDepth 20000 in
theorem ggX8_later_X8_within : GoodIn wsX8_later wsX8_within := goodIn_r _ [9] (by decide +kernel) (by decide +kernel)
set_option maxRecDepth 20000 in
theorem gX8_later_X8_within : GoodIn wsX8_later (va_wsS RX8 56 yX8_within wsX8_within) := goodIn_app (goodIn_of _ (by decide +kernel)) ggX8_later_X8_within
set_option maxRecDepth 20000 in
theorem ggX8_later_X8_keep : GoodIn wsX8_later wsX8_keep := goodIn_r _ [13, 14, 15, 51, 52, 53, 54, 55, 56, 57, 58, 59, 60, 61, 62, 63, 64, 65, 66, 67, 68, 69, 70, 71] (by decide +kernel) (by decide +kernel)
set_option maxRecDepth 20000 in
theorem gX8_later_X8_keep : GoodIn wsX8_later (wsV RX8 142 RX8 yX8_keep wsX8_keep) := goodIn_app (goodIn_of _ (by decide +kernel)) ggX8_later_X8_keep
set_option maxRecDepth 20000 in
theorem ggX8_later_X8_goDusk : GoodIn wsX8_later wsX8_goDusk := goodIn_r _ [19, 6, 20, 21, 15, 22, 23, 24, 4, 25, 26, 27, 28, 29, 30, 31, 32, 33, 34, 35, 36, 37, 38, 39, 40, 41, 42, 43, 44, 45, 46, 51, 52, 53, 54, 55, 56, 57, 58, 59, 60, 61, 62, 63, 64, 65, 66, 67, 68, 69, 70, 71] (by decide +kernel) (by decide +kernel)
set_option maxRecDepth 20000 in
theorem gX8_later_X8_goDusk : GoodIn wsX8_later (wsV RX8 135 RX8 yX8_goDusk wsX8_goDusk) := goodIn_app (goodIn_of _ (by decide +kernel)) ggX8_later_X8_goDusk
set_option maxRecDepth 20000 in
theorem ggX8_later_X8_lighterOf : GoodIn wsX8_later wsX8_lighterOf := goodIn_r _ [25, 6, 26, 27, 28, 4, 29, 15, 30, 31, 32, 33, 51, 52, 53, 54, 55, 56, 57, 58, 59, 60, 61, 62, 63, 64, 65, 66, 67, 68, 69, 70, 71] (by decide +kernel) (by decide +kernel)
set_option maxRecDepth 20000 in
theorem gX8_later_X8_lighterOf : GoodIn wsX8_later (wsV RX8 117 RX8 yX8_lighterOf wsX8_lighterOf) := goodIn_app (goodIn_of _ (by decide +kernel)) ggX8_later_X8_lighterOf
set_option maxRecDepth 20000 in
theorem ggX8_later_X8_restore : GoodIn wsX8_later wsX8_restore := goodIn_r _ [50, 15, 14, 51, 52, 53, 54, 55, 56, 57, 58, 59, 60, 61, 62, 63, 64, 65, 66, 67, 68, 69, 70, 71] (by decide +kernel) (by decide +kernel)
set_option maxRecDepth 20000 in
theorem gX8_later_X8_restore : GoodIn wsX8_later (wsV RX8 145 RX8 yX8_restore wsX8_restore) := goodIn_app (goodIn_of _ (by decide +kernel)) ggX8_later_X8_restore
theorem dX8_later_0 : decode cX8_later 0 = .ok (.aload_n 0, 1) := by decide +kernel
theorem dX8_later_1 : decode cX8_later 1 = .ok (.iload_n 1, 1) := by decide +kernel
theorem dX8_later_2 : decode cX8_later 2 = .ok (.invokevirtual 63, 3) := by decide +kernel
theorem dX8_later_5 : decode cX8_later 5 = .ok (.ifCond .ne 5, 3) := by decide +kernel
theorem dX8_later_8 : decode cX8_later 8 = .ok (.iconst (-1), 1) := by decide +kernel
theorem dX8_later_9 : decode cX8_later 9 = .ok (.ireturn, 1) := by decide +kernel
theorem dX8_later_10 : decode cX8_later 10 = .ok (.iload_n 2, 1) := by decide +kernel
theorem dX8_later_11 : decode cX8_later 11 = .ok (.iconst 0, 1) := by decide +kernel
theorem dX8_later_12 : decode cX8_later 12 = .ok (.bipush 60, 2) := by decide +kernel
theorem dX8_later_14 : decode cX8_later 14 = .ok (.invokestatic 56, 3) := by decide +kernel
theorem dX8_later_17 : decode cX8_later 17 = .ok (.ifCond .ne 6, 3) := by decide +kernel
theorem dX8_later_20 : decode cX8_later 20 = .ok (.bipush (-2), 2) := by decide +kernel
theorem dX8_later_22 : decode cX8_later 22 = .ok (.ireturn, 1) := by decide +kernel
theorem dX8_later_23 : decode cX8_later 23 = .ok (.aload_n 0, 1) := by decide +kernel
theorem dX8_later_24 : decode cX8_later 24 = .ok (.invokevirtual 142, 3) := by decide +kernel
theorem dX8_later_27 : decode cX8_later 27 = .ok (.iconst 0, 1) := by decide +kernel
theorem dX8_later_28 : decode cX8_later 28 = .ok (.istore_n 3, 1) := by decide +kernel
theorem dX8_later_29 : decode cX8_later 29 = .ok (.iload_n 3, 1) := by decide +kernel
theorem dX8_later_30 : decode cX8_later 30 = .ok (.iload_n 2, 1) := by decide +kernel
theorem dX8_later_31 : decode cX8_later 31 = .ok (.if_icmp .ge 13, 3) := by decide +kernel
theorem dX8_later_34 : decode cX8_later 34 = .ok (.aload_n 0, 1) := by decide +kernel
theorem dX8_later_35 : decode cX8_later 35 = .ok (.invokevirtual 135, 3) := by decide +kernel
theorem dX8_later_38 : decode cX8_later 38 = .ok (.iinc 3 1, 3) := by decide +kernel
theorem dX8_later_41 : decode cX8_later 41 = .ok (.goto (-12), 3) := by decide +kernel
theorem dX8_later_44 : decode cX8_later 44 = .ok (.aload_n 0, 1) := by decide +kernel
theorem dX8_later_45 : decode cX8_later 45 = .ok (.iload_n 1, 1) := by decide +kernel
theorem dX8_later_46 : decode cX8_later 46 = .ok (.invokevirtual 117, 3) := by decide +kernel
theorem dX8_later_49 : decode cX8_later 49 = .ok (.istore_n 3, 1) := by decide +kernel
theorem dX8_later_50 : decode cX8_later 50 = .ok (.aload_n 0, 1) := by decide +kernel
theorem dX8_later_51 : decode cX8_later 51 = .ok (.invokevirtual 145, 3) := by decide +kernel
theorem dX8_later_54 : decode cX8_later 54 = .ok (.iload_n 3, 1) := by decide +kernel
theorem dX8_later_55 : decode cX8_later 55 = .ok (.ireturn, 1) := by decide +kernel
set_option maxRecDepth 20000 in
theorem ggX8_dark_X8_keep : GoodIn wsX8_dark wsX8_keep := goodIn_r _ [6, 7, 8, 48, 49, 50, 51, 52, 53, 54, 55, 56, 57, 58, 59, 60, 61, 62, 63, 64, 65, 66, 67, 68] (by decide +kernel) (by decide +kernel)
set_option maxRecDepth 20000 in
theorem gX8_dark_X8_keep : GoodIn wsX8_dark (wsV RX8 142 RX8 yX8_keep wsX8_keep) := goodIn_app (goodIn_of _ (by decide +kernel)) ggX8_dark_X8_keep
set_option maxRecDepth 20000 in
theorem ggX8_dark_X8_lit : GoodIn wsX8_dark wsX8_lit := goodIn_r _ [12, 1, 13, 14, 15, 5, 16, 17, 18, 19, 20, 8, 21, 22, 23, 24, 48, 49, 50, 51, 52, 53, 54, 55, 56, 57, 58, 59, 60, 61, 62, 63, 64, 65, 66, 67, 68] (by decide +kernel) (by decide +kernel)
set_option maxRecDepth 20000 in
theorem gX8_dark_X8_lit : GoodIn wsX8_dark (wsV RX8 138 RX8 yX8_lit wsX8_lit) := goodIn_app (goodIn_of _ (by decide +kernel)) ggX8_dark_X8_lit
set_option maxRecDepth 20000 in
theorem ggX8_dark_X8_goDusk : GoodIn wsX8_dark wsX8_goDusk := goodIn_r _ [28, 1, 29, 30, 8, 13, 14, 15, 5, 16, 17, 18, 19, 20, 21, 22, 23, 24, 31, 32, 33, 34, 35, 36, 37, 38, 39, 40, 41, 42, 43, 48, 49, 50, 51, 52, 53, 54, 55, 56, 57, 58, 59, 60, 61, 62, 63, 64, 65, 66, 67, 68] (by decide +kernel) (by decide +kernel)
set_option maxRecDepth 20000 in
theorem gX8_dark_X8_goDusk : GoodIn wsX8_dark (wsV RX8 135 RX8 yX8_goDusk wsX8_goDusk) := goodIn_app (goodIn_of _ (by decide +kernel)) ggX8_dark_X8_goDusk
set_option maxRecDepth 20000 in
theorem ggX8_dark_X8_restore : GoodIn wsX8_dark wsX8_restore := goodIn_r _ [47, 8, 7, 48, 49, 50, 51, 52, 53, 54, 55, 56, 57, 58, 59, 60, 61, 62, 63, 64, 65, 66, 67, 68] (by decide +kernel) (by decide +kernel)
set_option maxRecDepth 20000 in
theorem gX8_dark_X8_restore : GoodIn wsX8_dark (wsV RX8 145 RX8 yX8_restore wsX8_restore) := goodIn_app (goodIn_of _ (by decide +kernel)) ggX8_dark_X8_restore
theorem dX8_dark_0 : decode cX8_dark 0 = .ok (.aload_n 0, 1) := by decide +kernel
theorem dX8_dark_1 : decode cX8_dark 1 = .ok (.getfield 60, 3) := by decide +kernel
theorem dX8_dark_4 : decode cX8_dark 4 = .ok (.ifCond .ne 6, 3) := by decide +kernel
theorem dX8_dark_7 : decode cX8_dark 7 = .ok (.bipush (-3), 2) := by decide +kernel
theorem dX8_dark_9 : decode cX8_dark 9 = .ok (.ireturn, 1) := by decide +kernel
theorem dX8_dark_10 : decode cX8_dark 10 = .ok (.aload_n 0, 1) := by decide +kernel
theorem dX8_dark_11 : decode cX8_dark 11 = .ok (.invokevirtual 142, 3) := by decide +kernel
theorem dX8_dark_14 : decode cX8_dark 14 = .ok (.iconst 0, 1) := by decide +kernel
theorem dX8_dark_15 : decode cX8_dark 15 = .ok (.istore_n 1, 1) := by decide +kernel
theorem dX8_dark_16 : decode cX8_dark 16 = .ok (.iload_n 1, 1) := by decide +kernel
theorem dX8_dark_17 : decode cX8_dark 17 = .ok (.bipush 60, 2) := by decide +kernel
theorem dX8_dark_19 : decode cX8_dark 19 = .ok (.if_icmp .gt 20, 3) := by decide +kernel
theorem dX8_dark_22 : decode cX8_dark 22 = .ok (.aload_n 0, 1) := by decide +kernel
theorem dX8_dark_23 : decode cX8_dark 23 = .ok (.invokevirtual 138, 3) := by decide +kernel
theorem dX8_dark_26 : decode cX8_dark 26 = .ok (.ifCond .eq 13, 3) := by decide +kernel
theorem dX8_dark_29 : decode cX8_dark 29 = .ok (.aload_n 0, 1) := by decide +kernel
theorem dX8_dark_30 : decode cX8_dark 30 = .ok (.invokevirtual 135, 3) := by decide +kernel
theorem dX8_dark_33 : decode cX8_dark 33 = .ok (.iinc 1 1, 3) := by decide +kernel
theorem dX8_dark_36 : decode cX8_dark 36 = .ok (.goto (-20), 3) := by decide +kernel
theorem dX8_dark_39 : decode cX8_dark 39 = .ok (.aload_n 0, 1) := by decide +kernel
theorem dX8_dark_40 : decode cX8_dark 40 = .ok (.invokevirtual 145, 3) := by decide +kernel
theorem dX8_dark_43 : decode cX8_dark 43 = .ok (.iload_n 1, 1) := by decide +kernel
theorem dX8_dark_44 : decode cX8_dark 44 = .ok (.bipush 60, 2) := by decide +kernel
theorem dX8_dark_46 : decode cX8_dark 46 = .ok (.if_icmp .le 8, 3) := by decide +kernel
theorem dX8_dark_49 : decode cX8_dark 49 = .ok (.bipush (-9), 2) := by decide +kernel
theorem dX8_dark_51 : decode cX8_dark 51 = .ok (.goto 4, 3) := by decide +kernel
theorem dX8_dark_54 : decode cX8_dark 54 = .ok (.iload_n 1, 1) := by decide +kernel
theorem dX8_dark_55 : decode cX8_dark 55 = .ok (.ireturn, 1) := by decide +kernel
set_option maxRecDepth 20000 in
theorem ggX8_ring_X8_isPerson : GoodIn wsX8_ring wsX8_isPerson := goodIn_r _ [6, 1, 20, 21, 22, 23, 24, 25, 26, 27, 28, 29, 30, 31, 32, 33, 34, 35, 36, 37, 38, 39, 40] (by decide +kernel) (by decide +kernel)
set_option maxRecDepth 20000 in
theorem gX8_ring_X8_isPerson : GoodIn wsX8_ring (wsV RX8 63 RX8 yX8_isPerson wsX8_isPerson) := goodIn_app (goodIn_of _ (by decide +kernel)) ggX8_ring_X8_isPerson
set_option maxRecDepth 20000 in
theorem ggX8_ring_X8_lighterOf : GoodIn wsX8_ring wsX8_lighterOf := goodIn_r _ [10, 1, 11, 12, 13, 5, 14, 15, 16, 17, 18, 19, 20, 21, 22, 23, 24, 25, 26, 27, 28, 29, 30, 31, 32, 33, 34, 35, 36, 37, 38, 39, 40] (by decide +kernel) (by decide +kernel)
set_option maxRecDepth 20000 in
theorem gX8_ring_X8_lighterOf : GoodIn wsX8_ring (wsV RX8 117 RX8 yX8_lighterOf wsX8_lighterOf) := goodIn_app (goodIn_of _ (by decide +kernel)) ggX8_ring_X8_lighterOf
theorem dX8_ring_0 : decode cX8_ring 0 = .ok (.aload_n 0, 1) := by decide +kernel
theorem dX8_ring_1 : decode cX8_ring 1 = .ok (.iload_n 1, 1) := by decide +kernel
theorem dX8_ring_2 : decode cX8_ring 2 = .ok (.invokevirtual 63, 3) := by decide +kernel
theorem dX8_ring_5 : decode cX8_ring 5 = .ok (.ifCond .ne 5, 3) := by decide +kernel
theorem dX8_ring_8 : decode cX8_ring 8 = .ok (.iconst (-1), 1) := by decide +kernel
theorem dX8_ring_9 : decode cX8_ring 9 = .ok (.ireturn, 1) := by decide +kernel
theorem dX8_ring_10 : decode cX8_ring 10 = .ok (.iload_n 1, 1) := by decide +kernel
theorem dX8_ring_11 : decode cX8_ring 11 = .ok (.istore_n 2, 1) := by decide +kernel
theorem dX8_ring_12 : decode cX8_ring 12 = .ok (.iconst 0, 1) := by decide +kernel
theorem dX8_ring_13 : decode cX8_ring 13 = .ok (.istore_n 3, 1) := by decide +kernel
theorem dX8_ring_14 : decode cX8_ring 14 = .ok (.iload_n 3, 1) := by decide +kernel
theorem dX8_ring_15 : decode cX8_ring 15 = .ok (.aload_n 0, 1) := by decide +kernel
theorem dX8_ring_16 : decode cX8_ring 16 = .ok (.getfield 60, 3) := by decide +kernel
theorem dX8_ring_19 : decode cX8_ring 19 = .ok (.if_icmp .ge 24, 3) := by decide +kernel
theorem dX8_ring_22 : decode cX8_ring 22 = .ok (.aload_n 0, 1) := by decide +kernel
theorem dX8_ring_23 : decode cX8_ring 23 = .ok (.iload_n 2, 1) := by decide +kernel
theorem dX8_ring_24 : decode cX8_ring 24 = .ok (.invokevirtual 117, 3) := by decide +kernel
theorem dX8_ring_27 : decode cX8_ring 27 = .ok (.istore_n 2, 1) := by decide +kernel
theorem dX8_ring_28 : decode cX8_ring 28 = .ok (.iload_n 2, 1) := by decide +kernel
theorem dX8_ring_29 : decode cX8_ring 29 = .ok (.bipush (-9), 2) := by decide +kernel
theorem dX8_ring_31 : decode cX8_ring 31 = .ok (.if_icmp .ne 6, 3) := by decide +kernel
theorem dX8_ring_34 : decode cX8_ring 34 = .ok (.bipush (-9), 2) := by decide +kernel
theorem dX8_ring_36 : decode cX8_ring 36 = .ok (.ireturn, 1) := by decide +kernel
theorem dX8_ring_37 : decode cX8_ring 37 = .ok (.iinc 3 1, 3) := by decide +kernel
theorem dX8_ring_40 : decode cX8_ring 40 = .ok (.goto (-26), 3) := by decide +kernel
theorem dX8_ring_43 : decode cX8_ring 43 = .ok (.iconst 0, 1) := by decide +kernel
theorem dX8_ring_44 : decode cX8_ring 44 = .ok (.istore_n 3, 1) := by decide +kernel
theorem dX8_ring_45 : decode cX8_ring 45 = .ok (.iload_n 3, 1) := by decide +kernel
theorem dX8_ring_46 : decode cX8_ring 46 = .ok (.iload_n 2, 1) := by decide +kernel
theorem dX8_ring_47 : decode cX8_ring 47 = .ok (.ishr, 1) := by decide +kernel
theorem dX8_ring_48 : decode cX8_ring 48 = .ok (.iconst 1, 1) := by decide +kernel
theorem dX8_ring_49 : decode cX8_ring 49 = .ok (.iand, 1) := by decide +kernel
theorem dX8_ring_50 : decode cX8_ring 50 = .ok (.ifCond .ne 18, 3) := by decide +kernel
theorem dX8_ring_53 : decode cX8_ring 53 = .ok (.iload_n 3, 1) := by decide +kernel
theorem dX8_ring_54 : decode cX8_ring 54 = .ok (.iconst 1, 1) := by decide +kernel
theorem dX8_ring_55 : decode cX8_ring 55 = .ok (.iload_n 2, 1) := by decide +kernel
theorem dX8_ring_56 : decode cX8_ring 56 = .ok (.ishl, 1) := by decide +kernel
theorem dX8_ring_57 : decode cX8_ring 57 = .ok (.ior, 1) := by decide +kernel
theorem dX8_ring_58 : decode cX8_ring 58 = .ok (.istore_n 3, 1) := by decide +kernel
theorem dX8_ring_59 : decode cX8_ring 59 = .ok (.aload_n 0, 1) := by decide +kernel
theorem dX8_ring_60 : decode cX8_ring 60 = .ok (.iload_n 2, 1) := by decide +kernel
theorem dX8_ring_61 : decode cX8_ring 61 = .ok (.invokevirtual 117, 3) := by decide +kernel
theorem dX8_ring_64 : decode cX8_ring 64 = .ok (.istore_n 2, 1) := by decide +kernel
theorem dX8_ring_65 : decode cX8_ring 65 = .ok (.goto (-20), 3) := by decide +kernel
theorem dX8_ring_68 : decode cX8_ring 68 = .ok (.iload_n 3, 1) := by decide +kernel
theorem dX8_ring_69 : decode cX8_ring 69 = .ok (.ireturn, 1) := by decide +kernel
set_option maxRecDepth 20000 in
theorem ggX8_walk_X8_isPerson : GoodIn wsX8_walk wsX8_isPerson := goodIn_r _ [7, 8, 49, 50, 51, 52, 53, 54, 55, 56, 57, 58, 59, 60, 61, 62, 63, 64, 65, 66, 67, 68, 69] (by decide +kernel) (by decide +kernel)
set_option maxRecDepth 20000 in
theorem gX8_walk_X8_isPerson : GoodIn wsX8_walk (wsV RX8 63 RX8 yX8_isPerson wsX8_isPerson) := goodIn_app (goodIn_of _ (by decide +kernel)) ggX8_walk_X8_isPerson
set_option maxRecDepth 20000 in
theorem ggX8_walk_X8_isSheet : GoodIn wsX8_walk wsX8_isSheet := goodIn_r _ [11, 12, 13, 6, 14] (by decide +kernel) (by decide +kernel)
set_option maxRecDepth 20000 in
theorem gX8_walk_X8_isSheet : GoodIn wsX8_walk (va_wsS RX8 70 yX8_isSheet wsX8_isSheet) := goodIn_app (goodIn_of _ (by decide +kernel)) ggX8_walk_X8_isSheet
set_option maxRecDepth 20000 in
theorem ggX8_walk_X8_isSort : GoodIn wsX8_walk wsX8_isSort := goodIn_r _ [17, 12, 13, 6, 14] (by decide +kernel) (by decide +kernel)
set_option maxRecDepth 20000 in
theorem gX8_walk_X8_isSort : GoodIn wsX8_walk (va_wsS RX8 73 yX8_isSort wsX8_isSort) := goodIn_app (goodIn_of _ (by decide +kernel)) ggX8_walk_X8_isSort
set_option maxRecDepth 20000 in
theorem ggX8_walk_X8_within : GoodIn wsX8_walk wsX8_within := goodIn_r _ [14] (by decide +kernel) (by decide +kernel)
set_option maxRecDepth 20000 in
theorem gX8_walk_X8_within : GoodIn wsX8_walk (va_wsS RX8 56 yX8_within wsX8_within) := goodIn_app (goodIn_of _ (by decide +kernel)) ggX8_walk_X8_within
set_option maxRecDepth 20000 in
theorem ggX8_walk_X8_against : GoodIn wsX8_walk wsX8_against := goodIn_r _ [21, 22, 23, 49, 50, 51, 52, 53, 54, 55, 56, 57, 58, 59, 60, 61, 62, 63, 64, 65, 66, 67, 68, 69] (by decide +kernel) (by decide +kernel)
set_option maxRecDepth 20000 in
theorem gX8_walk_X8_against : GoodIn wsX8_walk (wsV RX8 76 RX8 yX8_against wsX8_against) := goodIn_app (goodIn_of _ (by decide +kernel)) ggX8_walk_X8_against
set_option maxRecDepth 20000 in
theorem ggX8_walk_X8_fails : GoodIn wsX8_walk wsX8_fails := goodIn_r _ [27, 1, 49, 50, 51, 52, 53, 54, 55, 56, 57, 58, 59, 60, 61, 62, 63, 64, 65, 66, 67, 68, 69] (by decide +kernel) (by decide +kernel)
set_option maxRecDepth 20000 in
theorem gX8_walk_X8_fails : GoodIn wsX8_walk (wsV RX8 80 RX8 yX8_fails wsX8_fails) := goodIn_app (goodIn_of _ (by decide +kernel)) ggX8_walk_X8_fails
set_option maxRecDepth 20000 in
theorem ggX8_walk_X8_walkOf : GoodIn wsX8_walk wsX8_walkOf := goodIn_r _ [31, 2, 32, 33, 34, 6, 35, 8, 36, 37, 38, 39, 40, 41, 42, 43, 44, 45, 46, 47, 48, 49, 50, 51, 52, 53, 54, 55, 56, 57, 58, 59, 60, 61, 62, 63, 64, 65, 66, 67, 68, 69] (by decide +kernel) (by decide +kernel)
set_option maxRecDepth 20000 in
theorem gX8_walk_X8_walkOf : GoodIn wsX8_walk (wsV RX8 148 RX8 yX8_walkOf wsX8_walkOf) := goodIn_app (goodIn_of _ (by decide +kernel)) ggX8_walk_X8_walkOf
theorem dX8_walk_0 : decode cX8_walk 0 = .ok (.aload_n 0, 1) := by decide +kernel
theorem dX8_walk_1 : decode cX8_walk 1 = .ok (.iconst 0, 1) := by decide +kernel
theorem dX8_walk_2 : decode cX8_walk 2 = .ok (.putfield 50, 3) := by decide +kernel
theorem dX8_walk_5 : decode cX8_walk 5 = .ok (.aload_n 0, 1) := by decide +kernel
theorem dX8_walk_6 : decode cX8_walk 6 = .ok (.iload_n 1, 1) := by decide +kernel
theorem dX8_walk_7 : decode cX8_walk 7 = .ok (.invokevirtual 63, 3) := by decide +kernel
theorem dX8_walk_10 : decode cX8_walk 10 = .ok (.ifCond .eq 10, 3) := by decide +kernel
theorem dX8_walk_13 : decode cX8_walk 13 = .ok (.iload_n 2, 1) := by decide +kernel
theorem dX8_walk_14 : decode cX8_walk 14 = .ok (.invokestatic 70, 3) := by decide +kernel
theorem dX8_walk_17 : decode cX8_walk 17 = .ok (.ifCond .ne 5, 3) := by decide +kernel
theorem dX8_walk_20 : decode cX8_walk 20 = .ok (.iconst (-1), 1) := by decide +kernel
theorem dX8_walk_21 : decode cX8_walk 21 = .ok (.ireturn, 1) := by decide +kernel
theorem dX8_walk_22 : decode cX8_walk 22 = .ok (.iload_n 3, 1) := by decide +kernel
theorem dX8_walk_23 : decode cX8_walk 23 = .ok (.invokestatic 73, 3) := by decide +kernel
theorem dX8_walk_26 : decode cX8_walk 26 = .ok (.ifCond .eq 24, 3) := by decide +kernel
theorem dX8_walk_29 : decode cX8_walk 29 = .ok (.iload 5, 2) := by decide +kernel
theorem dX8_walk_31 : decode cX8_walk 31 = .ok (.iconst 0, 1) := by decide +kernel
theorem dX8_walk_32 : decode cX8_walk 32 = .ok (.bipush 20, 2) := by decide +kernel
theorem dX8_walk_34 : decode cX8_walk 34 = .ok (.invokestatic 56, 3) := by decide +kernel
theorem dX8_walk_37 : decode cX8_walk 37 = .ok (.ifCond .eq 13, 3) := by decide +kernel
theorem dX8_walk_40 : decode cX8_walk 40 = .ok (.iload 6, 2) := by decide +kernel
theorem dX8_walk_42 : decode cX8_walk 42 = .ok (.iconst 0, 1) := by decide +kernel
theorem dX8_walk_43 : decode cX8_walk 43 = .ok (.iconst 2, 1) := by decide +kernel
theorem dX8_walk_44 : decode cX8_walk 44 = .ok (.invokestatic 56, 3) := by decide +kernel
theorem dX8_walk_47 : decode cX8_walk 47 = .ok (.ifCond .ne 6, 3) := by decide +kernel
theorem dX8_walk_50 : decode cX8_walk 50 = .ok (.bipush (-2), 2) := by decide +kernel
theorem dX8_walk_52 : decode cX8_walk 52 = .ok (.ireturn, 1) := by decide +kernel
theorem dX8_walk_53 : decode cX8_walk 53 = .ok (.aload_n 0, 1) := by decide +kernel
theorem dX8_walk_54 : decode cX8_walk 54 = .ok (.iload_n 2, 1) := by decide +kernel
theorem dX8_walk_55 : decode cX8_walk 55 = .ok (.iload_n 3, 1) := by decide +kernel
theorem dX8_walk_56 : decode cX8_walk 56 = .ok (.iload 4, 2) := by decide +kernel
theorem dX8_walk_58 : decode cX8_walk 58 = .ok (.iload 5, 2) := by decide +kernel
theorem dX8_walk_60 : decode cX8_walk 60 = .ok (.invokevirtual 76, 3) := by decide +kernel
theorem dX8_walk_63 : decode cX8_walk 63 = .ok (.istore 7, 2) := by decide +kernel
theorem dX8_walk_65 : decode cX8_walk 65 = .ok (.iload 7, 2) := by decide +kernel
theorem dX8_walk_67 : decode cX8_walk 67 = .ok (.ifCond .eq 10, 3) := by decide +kernel
theorem dX8_walk_70 : decode cX8_walk 70 = .ok (.aload_n 0, 1) := by decide +kernel
theorem dX8_walk_71 : decode cX8_walk 71 = .ok (.iload 7, 2) := by decide +kernel
theorem dX8_walk_73 : decode cX8_walk 73 = .ok (.invokevirtual 80, 3) := by decide +kernel
theorem dX8_walk_76 : decode cX8_walk 76 = .ok (.ireturn, 1) := by decide +kernel
theorem dX8_walk_77 : decode cX8_walk 77 = .ok (.bipush 60, 2) := by decide +kernel
theorem dX8_walk_79 : decode cX8_walk 79 = .ok (.iload_n 2, 1) := by decide +kernel
theorem dX8_walk_80 : decode cX8_walk 80 = .ok (.imul, 1) := by decide +kernel
theorem dX8_walk_81 : decode cX8_walk 81 = .ok (.iload 4, 2) := by decide +kernel
theorem dX8_walk_83 : decode cX8_walk 83 = .ok (.iadd, 1) := by decide +kernel
theorem dX8_walk_84 : decode cX8_walk 84 = .ok (.istore 8, 2) := by decide +kernel
theorem dX8_walk_86 : decode cX8_walk 86 = .ok (.iconst 0, 1) := by decide +kernel
theorem dX8_walk_87 : decode cX8_walk 87 = .ok (.istore 9, 2) := by decide +kernel
theorem dX8_walk_89 : decode cX8_walk 89 = .ok (.iload 9, 2) := by decide +kernel
theorem dX8_walk_91 : decode cX8_walk 91 = .ok (.iload 5, 2) := by decide +kernel
theorem dX8_walk_93 : decode cX8_walk 93 = .ok (.if_icmp .ge 28, 3) := by decide +kernel
theorem dX8_walk_96 : decode cX8_walk 96 = .ok (.aload_n 0, 1) := by decide +kernel
theorem dX8_walk_97 : decode cX8_walk 97 = .ok (.aload_n 0, 1) := by decide +kernel
theorem dX8_walk_98 : decode cX8_walk 98 = .ok (.getfield 16, 3) := by decide +kernel
theorem dX8_walk_101 : decode cX8_walk 101 = .ok (.iload 8, 2) := by decide +kernel
theorem dX8_walk_103 : decode cX8_walk 103 = .ok (.iload 9, 2) := by decide +kernel
theorem dX8_walk_105 : decode cX8_walk 105 = .ok (.iadd, 1) := by decide +kernel
theorem dX8_walk_106 : decode cX8_walk 106 = .ok (.iaload, 1) := by decide +kernel
theorem dX8_walk_107 : decode cX8_walk 107 = .ok (.invokevirtual 63, 3) := by decide +kernel
theorem dX8_walk_110 : decode cX8_walk 110 = .ok (.ifCond .ne 5, 3) := by decide +kernel
theorem dX8_walk_113 : decode cX8_walk 113 = .ok (.iconst (-1), 1) := by decide +kernel
theorem dX8_walk_114 : decode cX8_walk 114 = .ok (.ireturn, 1) := by decide +kernel
theorem dX8_walk_115 : decode cX8_walk 115 = .ok (.iinc 9 1, 3) := by decide +kernel
theorem dX8_walk_118 : decode cX8_walk 118 = .ok (.goto (-29), 3) := by decide +kernel
theorem dX8_walk_121 : decode cX8_walk 121 = .ok (.aload_n 0, 1) := by decide +kernel
theorem dX8_walk_122 : decode cX8_walk 122 = .ok (.iload_n 1, 1) := by decide +kernel
theorem dX8_walk_123 : decode cX8_walk 123 = .ok (.iload 8, 2) := by decide +kernel
theorem dX8_walk_125 : decode cX8_walk 125 = .ok (.iload 5, 2) := by decide +kernel
theorem dX8_walk_127 : decode cX8_walk 127 = .ok (.iload 6, 2) := by decide +kernel
theorem dX8_walk_129 : decode cX8_walk 129 = .ok (.invokevirtual 148, 3) := by decide +kernel
theorem dX8_walk_132 : decode cX8_walk 132 = .ok (.ireturn, 1) := by decide +kernel
set_option maxRecDepth 20000 in
theorem ggX8_walkOf_X8_roundOf : GoodIn wsX8_walkOf wsX8_roundOf := goodIn_r _ [6, 7, 8, 9, 10, 5, 11, 12, 13, 14, 15, 16, 17, 18, 19, 20, 21, 22, 23, 24, 25, 26, 27, 28, 29, 30, 31, 32, 33, 34, 35, 36, 37, 38, 39, 40, 41] (by decide +kernel) (by decide +kernel)
set_option maxRecDepth 20000 in
theorem gX8_walkOf_X8_roundOf : GoodIn wsX8_walkOf (wsV RX8 120 RX8 yX8_roundOf wsX8_roundOf) := goodIn_app (goodIn_of _ (by decide +kernel)) ggX8_walkOf_X8_roundOf
theorem dX8_walkOf_0 : decode cX8_walkOf 0 = .ok (.aload_n 0, 1) := by decide +kernel
theorem dX8_walkOf_1 : decode cX8_walkOf 1 = .ok (.iload_n 1, 1) := by decide +kernel
theorem dX8_walkOf_2 : decode cX8_walkOf 2 = .ok (.invokevirtual 120, 3) := by decide +kernel
theorem dX8_walkOf_5 : decode cX8_walkOf 5 = .ok (.istore 5, 2) := by decide +kernel
theorem dX8_walkOf_7 : decode cX8_walkOf 7 = .ok (.iload 5, 2) := by decide +kernel
theorem dX8_walkOf_9 : decode cX8_walkOf 9 = .ok (.ifCond .ne 7, 3) := by decide +kernel
theorem dX8_walkOf_12 : decode cX8_walkOf 12 = .ok (.iconst 0, 1) := by decide +kernel
theorem dX8_walkOf_13 : decode cX8_walkOf 13 = .ok (.goto 5, 3) := by decide +kernel
end
section
theorem dX8_walkOf_16 : decode cX8_walkOf 16 = .ok (.bipush (-9), 2) := by decide +kernel
theorem dX8_walkOf_18 : decode cX8_walkOf 18 = .ok (.istore 6, 2) := by decide +kernel
theorem dX8_walkOf_20 : decode cX8_walkOf 20 = .ok (.iload_n 1, 1) := by decide +kernel
theorem dX8_walkOf_21 : decode cX8_walkOf 21 = .ok (.istore 7, 2) := by decide +kernel
theorem dX8_walkOf_23 : decode cX8_walkOf 23 = .ok (.iconst 0, 1) := by decide +kernel
theorem dX8_walkOf_24 : decode cX8_walkOf 24 = .ok (.istore 8, 2) := by decide +kernel
theorem dX8_walkOf_26 : decode cX8_walkOf 26 = .ok (.iconst 0, 1) := by decide +kernel
theorem dX8_walkOf_27 : decode cX8_walkOf 27 = .ok (.istore 9, 2) := by decide +kernel
theorem dX8_walkOf_29 : decode cX8_walkOf 29 = .ok (.iload 9, 2) := by decide +kernel
theorem dX8_walkOf_31 : decode cX8_walkOf 31 = .ok (.iload_n 3, 1) := by decide +kernel
theorem dX8_walkOf_32 : decode cX8_walkOf 32 = .ok (.if_icmp .ge 87, 3) := by decide +kernel
theorem dX8_walkOf_35 : decode cX8_walkOf 35 = .ok (.aload_n 0, 1) := by decide +kernel
theorem dX8_walkOf_36 : decode cX8_walkOf 36 = .ok (.getfield 16, 3) := by decide +kernel
theorem dX8_walkOf_39 : decode cX8_walkOf 39 = .ok (.iload_n 2, 1) := by decide +kernel
theorem dX8_walkOf_40 : decode cX8_walkOf 40 = .ok (.iload 9, 2) := by decide +kernel
theorem dX8_walkOf_42 : decode cX8_walkOf 42 = .ok (.iadd, 1) := by decide +kernel
theorem dX8_walkOf_43 : decode cX8_walkOf 43 = .ok (.iaload, 1) := by decide +kernel
theorem dX8_walkOf_44 : decode cX8_walkOf 44 = .ok (.istore 10, 2) := by decide +kernel
theorem dX8_walkOf_46 : decode cX8_walkOf 46 = .ok (.iload 8, 2) := by decide +kernel
theorem dX8_walkOf_48 : decode cX8_walkOf 48 = .ok (.iload 10, 2) := by decide +kernel
theorem dX8_walkOf_50 : decode cX8_walkOf 50 = .ok (.iload 7, 2) := by decide +kernel
theorem dX8_walkOf_52 : decode cX8_walkOf 52 = .ok (.if_icmp .ge 11, 3) := by decide +kernel
theorem dX8_walkOf_55 : decode cX8_walkOf 55 = .ok (.iload 7, 2) := by decide +kernel
theorem dX8_walkOf_57 : decode cX8_walkOf 57 = .ok (.iload 10, 2) := by decide +kernel
theorem dX8_walkOf_59 : decode cX8_walkOf 59 = .ok (.isub, 1) := by decide +kernel
theorem dX8_walkOf_60 : decode cX8_walkOf 60 = .ok (.goto 8, 3) := by decide +kernel
theorem dX8_walkOf_63 : decode cX8_walkOf 63 = .ok (.iload 10, 2) := by decide +kernel
theorem dX8_walkOf_65 : decode cX8_walkOf 65 = .ok (.iload 7, 2) := by decide +kernel
theorem dX8_walkOf_67 : decode cX8_walkOf 67 = .ok (.isub, 1) := by decide +kernel
theorem dX8_walkOf_68 : decode cX8_walkOf 68 = .ok (.iadd, 1) := by decide +kernel
theorem dX8_walkOf_69 : decode cX8_walkOf 69 = .ok (.istore 8, 2) := by decide +kernel
theorem dX8_walkOf_71 : decode cX8_walkOf 71 = .ok (.iload 10, 2) := by decide +kernel
theorem dX8_walkOf_73 : decode cX8_walkOf 73 = .ok (.istore 7, 2) := by decide +kernel
theorem dX8_walkOf_75 : decode cX8_walkOf 75 = .ok (.iload 5, 2) := by decide +kernel
theorem dX8_walkOf_77 : decode cX8_walkOf 77 = .ok (.iload 10, 2) := by decide +kernel
theorem dX8_walkOf_79 : decode cX8_walkOf 79 = .ok (.ishr, 1) := by decide +kernel
theorem dX8_walkOf_80 : decode cX8_walkOf 80 = .ok (.iconst 1, 1) := by decide +kernel
theorem dX8_walkOf_81 : decode cX8_walkOf 81 = .ok (.iand, 1) := by decide +kernel
theorem dX8_walkOf_82 : decode cX8_walkOf 82 = .ok (.iconst 1, 1) := by decide +kernel
theorem dX8_walkOf_83 : decode cX8_walkOf 83 = .ok (.if_icmp .ne 30, 3) := by decide +kernel
theorem dX8_walkOf_86 : decode cX8_walkOf 86 = .ok (.iload 5, 2) := by decide +kernel
theorem dX8_walkOf_88 : decode cX8_walkOf 88 = .ok (.iconst 1, 1) := by decide +kernel
theorem dX8_walkOf_89 : decode cX8_walkOf 89 = .ok (.iload 10, 2) := by decide +kernel
theorem dX8_walkOf_91 : decode cX8_walkOf 91 = .ok (.ishl, 1) := by decide +kernel
theorem dX8_walkOf_92 : decode cX8_walkOf 92 = .ok (.iconst (-1), 1) := by decide +kernel
theorem dX8_walkOf_93 : decode cX8_walkOf 93 = .ok (.ixor, 1) := by decide +kernel
theorem dX8_walkOf_94 : decode cX8_walkOf 94 = .ok (.iand, 1) := by decide +kernel
theorem dX8_walkOf_95 : decode cX8_walkOf 95 = .ok (.istore 5, 2) := by decide +kernel
theorem dX8_walkOf_97 : decode cX8_walkOf 97 = .ok (.iload 5, 2) := by decide +kernel
theorem dX8_walkOf_99 : decode cX8_walkOf 99 = .ok (.ifCond .ne 10, 3) := by decide +kernel
theorem dX8_walkOf_102 : decode cX8_walkOf 102 = .ok (.iload 9, 2) := by decide +kernel
theorem dX8_walkOf_104 : decode cX8_walkOf 104 = .ok (.iconst 1, 1) := by decide +kernel
theorem dX8_walkOf_105 : decode cX8_walkOf 105 = .ok (.iadd, 1) := by decide +kernel
theorem dX8_walkOf_106 : decode cX8_walkOf 106 = .ok (.goto 5, 3) := by decide +kernel
theorem dX8_walkOf_109 : decode cX8_walkOf 109 = .ok (.iload 6, 2) := by decide +kernel
theorem dX8_walkOf_111 : decode cX8_walkOf 111 = .ok (.istore 6, 2) := by decide +kernel
theorem dX8_walkOf_113 : decode cX8_walkOf 113 = .ok (.iinc 9 1, 3) := by decide +kernel
theorem dX8_walkOf_116 : decode cX8_walkOf 116 = .ok (.goto (-87), 3) := by decide +kernel
theorem dX8_walkOf_119 : decode cX8_walkOf 119 = .ok (.iload 4, 2) := by decide +kernel
theorem dX8_walkOf_121 : decode cX8_walkOf 121 = .ok (.ifCond .ne 8, 3) := by decide +kernel
theorem dX8_walkOf_124 : decode cX8_walkOf 124 = .ok (.iload 8, 2) := by decide +kernel
theorem dX8_walkOf_126 : decode cX8_walkOf 126 = .ok (.goto 16, 3) := by decide +kernel
theorem dX8_walkOf_129 : decode cX8_walkOf 129 = .ok (.iload 4, 2) := by decide +kernel
theorem dX8_walkOf_131 : decode cX8_walkOf 131 = .ok (.iconst 1, 1) := by decide +kernel
theorem dX8_walkOf_132 : decode cX8_walkOf 132 = .ok (.if_icmp .ne 8, 3) := by decide +kernel
theorem dX8_walkOf_135 : decode cX8_walkOf 135 = .ok (.iload 5, 2) := by decide +kernel
theorem dX8_walkOf_137 : decode cX8_walkOf 137 = .ok (.goto 5, 3) := by decide +kernel
theorem dX8_walkOf_140 : decode cX8_walkOf 140 = .ok (.iload 6, 2) := by decide +kernel
theorem dX8_walkOf_142 : decode cX8_walkOf 142 = .ok (.ireturn, 1) := by decide +kernel
set_option maxRecDepth 20000 in
theorem ggX8_free_X8_isPerson : GoodIn wsX8_free wsX8_isPerson := goodIn_r _ [7, 1, 20, 21, 22, 23, 24, 25, 26, 27, 28, 29, 30, 31, 32, 33, 34, 35, 36, 37, 38, 39, 40] (by decide +kernel) (by decide +kernel)
set_option maxRecDepth 20000 in
theorem gX8_free_X8_isPerson : GoodIn wsX8_free (wsV RX8 63 RX8 yX8_isPerson wsX8_isPerson) := goodIn_app (goodIn_of _ (by decide +kernel)) ggX8_free_X8_isPerson
set_option maxRecDepth 20000 in
theorem ggX8_free_X8_spot : GoodIn wsX8_free wsX8_spot := goodIn_r _ [10] (by decide +kernel) (by decide +kernel)
set_option maxRecDepth 20000 in
theorem gX8_free_X8_spot : GoodIn wsX8_free (va_wsS RX8 110 yX8_spot wsX8_spot) := goodIn_app (goodIn_of _ (by decide +kernel)) ggX8_free_X8_spot
set_option maxRecDepth 20000 in
theorem ggX8_free_X8_lighterOf : GoodIn wsX8_free wsX8_lighterOf := goodIn_r _ [14, 1, 15, 16, 17, 6, 18, 2, 19, 8, 9, 10, 20, 21, 22, 23, 24, 25, 26, 27, 28, 29, 30, 31, 32, 33, 34, 35, 36, 37, 38, 39, 40] (by decide +kernel) (by decide +kernel)
set_option maxRecDepth 20000 in
theorem gX8_free_X8_lighterOf : GoodIn wsX8_free (wsV RX8 117 RX8 yX8_lighterOf wsX8_lighterOf) := goodIn_app (goodIn_of _ (by decide +kernel)) ggX8_free_X8_lighterOf
theorem dX8_free_0 : decode cX8_free 0 = .ok (.aload_n 0, 1) := by decide +kernel
theorem dX8_free_1 : decode cX8_free 1 = .ok (.iload_n 1, 1) := by decide +kernel
theorem dX8_free_2 : decode cX8_free 2 = .ok (.invokevirtual 63, 3) := by decide +kernel
theorem dX8_free_5 : decode cX8_free 5 = .ok (.ifCond .ne 5, 3) := by decide +kernel
theorem dX8_free_8 : decode cX8_free 8 = .ok (.iconst (-1), 1) := by decide +kernel
theorem dX8_free_9 : decode cX8_free 9 = .ok (.ireturn, 1) := by decide +kernel
theorem dX8_free_10 : decode cX8_free 10 = .ok (.iconst 0, 1) := by decide +kernel
theorem dX8_free_11 : decode cX8_free 11 = .ok (.istore_n 2, 1) := by decide +kernel
theorem dX8_free_12 : decode cX8_free 12 = .ok (.iconst 0, 1) := by decide +kernel
theorem dX8_free_13 : decode cX8_free 13 = .ok (.istore_n 3, 1) := by decide +kernel
theorem dX8_free_14 : decode cX8_free 14 = .ok (.iload_n 3, 1) := by decide +kernel
theorem dX8_free_15 : decode cX8_free 15 = .ok (.aload_n 0, 1) := by decide +kernel
theorem dX8_free_16 : decode cX8_free 16 = .ok (.getfield 60, 3) := by decide +kernel
theorem dX8_free_19 : decode cX8_free 19 = .ok (.if_icmp .ge 62, 3) := by decide +kernel
theorem dX8_free_22 : decode cX8_free 22 = .ok (.aload_n 0, 1) := by decide +kernel
theorem dX8_free_23 : decode cX8_free 23 = .ok (.getfield 22, 3) := by decide +kernel
theorem dX8_free_26 : decode cX8_free 26 = .ok (.iload_n 1, 1) := by decide +kernel
theorem dX8_free_27 : decode cX8_free 27 = .ok (.iload_n 3, 1) := by decide +kernel
theorem dX8_free_28 : decode cX8_free 28 = .ok (.invokestatic 110, 3) := by decide +kernel
theorem dX8_free_31 : decode cX8_free 31 = .ok (.iaload, 1) := by decide +kernel
theorem dX8_free_32 : decode cX8_free 32 = .ok (.istore 4, 2) := by decide +kernel
theorem dX8_free_34 : decode cX8_free 34 = .ok (.aload_n 0, 1) := by decide +kernel
theorem dX8_free_35 : decode cX8_free 35 = .ok (.iload_n 3, 1) := by decide +kernel
theorem dX8_free_36 : decode cX8_free 36 = .ok (.invokevirtual 117, 3) := by decide +kernel
theorem dX8_free_39 : decode cX8_free 39 = .ok (.iload_n 1, 1) := by decide +kernel
theorem dX8_free_40 : decode cX8_free 40 = .ok (.if_icmp .ne 23, 3) := by decide +kernel
theorem dX8_free_43 : decode cX8_free 43 = .ok (.aload_n 0, 1) := by decide +kernel
theorem dX8_free_44 : decode cX8_free 44 = .ok (.getfield 22, 3) := by decide +kernel
theorem dX8_free_47 : decode cX8_free 47 = .ok (.iload_n 1, 1) := by decide +kernel
theorem dX8_free_48 : decode cX8_free 48 = .ok (.iload_n 3, 1) := by decide +kernel
theorem dX8_free_49 : decode cX8_free 49 = .ok (.invokestatic 110, 3) := by decide +kernel
theorem dX8_free_52 : decode cX8_free 52 = .ok (.dup2, 1) := by decide +kernel
theorem dX8_free_53 : decode cX8_free 53 = .ok (.iaload, 1) := by decide +kernel
theorem dX8_free_54 : decode cX8_free 54 = .ok (.iconst 1, 1) := by decide +kernel
theorem dX8_free_55 : decode cX8_free 55 = .ok (.isub, 1) := by decide +kernel
theorem dX8_free_56 : decode cX8_free 56 = .ok (.iastore, 1) := by decide +kernel
theorem dX8_free_57 : decode cX8_free 57 = .ok (.iinc 2 1, 3) := by decide +kernel
theorem dX8_free_60 : decode cX8_free 60 = .ok (.goto (-26), 3) := by decide +kernel
theorem dX8_free_63 : decode cX8_free 63 = .ok (.aload_n 0, 1) := by decide +kernel
theorem dX8_free_64 : decode cX8_free 64 = .ok (.getfield 22, 3) := by decide +kernel
theorem dX8_free_67 : decode cX8_free 67 = .ok (.iload_n 1, 1) := by decide +kernel
theorem dX8_free_68 : decode cX8_free 68 = .ok (.iload_n 3, 1) := by decide +kernel
theorem dX8_free_69 : decode cX8_free 69 = .ok (.invokestatic 110, 3) := by decide +kernel
theorem dX8_free_72 : decode cX8_free 72 = .ok (.iload 4, 2) := by decide +kernel
theorem dX8_free_74 : decode cX8_free 74 = .ok (.iastore, 1) := by decide +kernel
theorem dX8_free_75 : decode cX8_free 75 = .ok (.iinc 3 1, 3) := by decide +kernel
theorem dX8_free_78 : decode cX8_free 78 = .ok (.goto (-64), 3) := by decide +kernel
theorem dX8_free_81 : decode cX8_free 81 = .ok (.iload_n 2, 1) := by decide +kernel
theorem dX8_free_82 : decode cX8_free 82 = .ok (.ireturn, 1) := by decide +kernel
set_option maxRecDepth 20000 in
theorem ggX8_haste_X8_roundOf : GoodIn wsX8_haste wsX8_roundOf := goodIn_r _ [6, 1, 7, 8, 9, 5, 10, 11, 12, 13, 14, 15, 16, 17, 18, 19, 24, 25, 26, 27, 28, 29, 30, 31, 32, 33, 34, 35, 36, 37, 38, 39, 40, 41, 42, 43, 44] (by decide +kernel) (by decide +kernel)
set_option maxRecDepth 20000 in
theorem gX8_haste_X8_roundOf : GoodIn wsX8_haste (wsV RX8 120 RX8 yX8_roundOf wsX8_roundOf) := goodIn_app (goodIn_of _ (by decide +kernel)) ggX8_haste_X8_roundOf
set_option maxRecDepth 20000 in
theorem ggX8_haste_X8_steps : GoodIn wsX8_haste wsX8_steps := goodIn_r _ [23, 1, 24, 25, 26, 27, 28, 29, 30, 31, 32, 33, 34, 35, 36, 37, 38, 39, 40, 41, 42, 43, 44] (by decide +kernel) (by decide +kernel)
set_option maxRecDepth 20000 in
theorem gX8_haste_X8_steps : GoodIn wsX8_haste (wsV RX8 123 RX8 yX8_steps wsX8_steps) := goodIn_app (goodIn_of _ (by decide +kernel)) ggX8_haste_X8_steps
theorem dX8_haste_0 : decode cX8_haste 0 = .ok (.aload_n 0, 1) := by decide +kernel
theorem dX8_haste_1 : decode cX8_haste 1 = .ok (.getfield 60, 3) := by decide +kernel
theorem dX8_haste_4 : decode cX8_haste 4 = .ok (.ifCond .ne 6, 3) := by decide +kernel
theorem dX8_haste_7 : decode cX8_haste 7 = .ok (.bipush (-3), 2) := by decide +kernel
theorem dX8_haste_9 : decode cX8_haste 9 = .ok (.ireturn, 1) := by decide +kernel
theorem dX8_haste_10 : decode cX8_haste 10 = .ok (.iconst 0, 1) := by decide +kernel
theorem dX8_haste_11 : decode cX8_haste 11 = .ok (.istore_n 1, 1) := by decide +kernel
theorem dX8_haste_12 : decode cX8_haste 12 = .ok (.iconst 0, 1) := by decide +kernel
theorem dX8_haste_13 : decode cX8_haste 13 = .ok (.istore_n 2, 1) := by decide +kernel
theorem dX8_haste_14 : decode cX8_haste 14 = .ok (.iload_n 2, 1) := by decide +kernel
theorem dX8_haste_15 : decode cX8_haste 15 = .ok (.aload_n 0, 1) := by decide +kernel
theorem dX8_haste_16 : decode cX8_haste 16 = .ok (.getfield 60, 3) := by decide +kernel
theorem dX8_haste_19 : decode cX8_haste 19 = .ok (.if_icmp .ge 31, 3) := by decide +kernel
theorem dX8_haste_22 : decode cX8_haste 22 = .ok (.aload_n 0, 1) := by decide +kernel
theorem dX8_haste_23 : decode cX8_haste 23 = .ok (.iload_n 2, 1) := by decide +kernel
theorem dX8_haste_24 : decode cX8_haste 24 = .ok (.aload_n 0, 1) := by decide +kernel
theorem dX8_haste_25 : decode cX8_haste 25 = .ok (.iload_n 2, 1) := by decide +kernel
theorem dX8_haste_26 : decode cX8_haste 26 = .ok (.invokevirtual 120, 3) := by decide +kernel
theorem dX8_haste_29 : decode cX8_haste 29 = .ok (.invokevirtual 123, 3) := by decide +kernel
theorem dX8_haste_32 : decode cX8_haste 32 = .ok (.istore_n 3, 1) := by decide +kernel
theorem dX8_haste_33 : decode cX8_haste 33 = .ok (.iload_n 3, 1) := by decide +kernel
theorem dX8_haste_34 : decode cX8_haste 34 = .ok (.iload_n 1, 1) := by decide +kernel
theorem dX8_haste_35 : decode cX8_haste 35 = .ok (.if_icmp .le 7, 3) := by decide +kernel
theorem dX8_haste_38 : decode cX8_haste 38 = .ok (.iload_n 3, 1) := by decide +kernel
theorem dX8_haste_39 : decode cX8_haste 39 = .ok (.goto 4, 3) := by decide +kernel
theorem dX8_haste_42 : decode cX8_haste 42 = .ok (.iload_n 1, 1) := by decide +kernel
theorem dX8_haste_43 : decode cX8_haste 43 = .ok (.istore_n 1, 1) := by decide +kernel
theorem dX8_haste_44 : decode cX8_haste 44 = .ok (.iinc 2 1, 3) := by decide +kernel
theorem dX8_haste_47 : decode cX8_haste 47 = .ok (.goto (-33), 3) := by decide +kernel
theorem dX8_haste_50 : decode cX8_haste 50 = .ok (.iload_n 1, 1) := by decide +kernel
theorem dX8_haste_51 : decode cX8_haste 51 = .ok (.ireturn, 1) := by decide +kernel
set_option maxRecDepth 20000 in
theorem ggX8_reading_X8_isPerson : GoodIn wsX8_reading wsX8_isPerson := goodIn_r _ [9, 10, 14, 15, 16, 17, 18, 19, 20, 21, 22, 23, 24, 25, 26, 27, 28, 29, 30, 31, 32, 33, 34] (by decide +kernel) (by decide +kernel)
set_option maxRecDepth 20000 in
theorem gX8_reading_X8_isPerson : GoodIn wsX8_reading (wsV RX8 63 RX8 yX8_isPerson wsX8_isPerson) := goodIn_app (goodIn_of _ (by decide +kernel)) ggX8_reading_X8_isPerson
set_option maxRecDepth 20000 in
theorem ggX8_reading_X8_within : GoodIn wsX8_reading wsX8_within := goodIn_r _ [13] (by decide +kernel) (by decide +kernel)
set_option maxRecDepth 20000 in
theorem gX8_reading_X8_within : GoodIn wsX8_reading (va_wsS RX8 56 yX8_within wsX8_within) := goodIn_app (goodIn_of _ (by decide +kernel)) ggX8_reading_X8_within
theorem dX8_reading_0 : decode cX8_reading 0 = .ok (.aload_n 0, 1) := by decide +kernel
theorem dX8_reading_1 : decode cX8_reading 1 = .ok (.iload_n 2, 1) := by decide +kernel
theorem dX8_reading_2 : decode cX8_reading 2 = .ok (.invokevirtual 63, 3) := by decide +kernel
theorem dX8_reading_5 : decode cX8_reading 5 = .ok (.ifCond .eq 17, 3) := by decide +kernel
theorem dX8_reading_8 : decode cX8_reading 8 = .ok (.iload_n 3, 1) := by decide +kernel
theorem dX8_reading_9 : decode cX8_reading 9 = .ok (.bipush (-9), 2) := by decide +kernel
theorem dX8_reading_11 : decode cX8_reading 11 = .ok (.if_icmp .eq 13, 3) := by decide +kernel
theorem dX8_reading_14 : decode cX8_reading 14 = .ok (.aload_n 0, 1) := by decide +kernel
theorem dX8_reading_15 : decode cX8_reading 15 = .ok (.iload_n 3, 1) := by decide +kernel
theorem dX8_reading_16 : decode cX8_reading 16 = .ok (.invokevirtual 63, 3) := by decide +kernel
theorem dX8_reading_19 : decode cX8_reading 19 = .ok (.ifCond .ne 5, 3) := by decide +kernel
theorem dX8_reading_22 : decode cX8_reading 22 = .ok (.iconst (-1), 1) := by decide +kernel
theorem dX8_reading_23 : decode cX8_reading 23 = .ok (.ireturn, 1) := by decide +kernel
theorem dX8_reading_24 : decode cX8_reading 24 = .ok (.iload_n 1, 1) := by decide +kernel
theorem dX8_reading_25 : decode cX8_reading 25 = .ok (.iconst 0, 1) := by decide +kernel
theorem dX8_reading_26 : decode cX8_reading 26 = .ok (.bipush 10, 2) := by decide +kernel
theorem dX8_reading_28 : decode cX8_reading 28 = .ok (.invokestatic 56, 3) := by decide +kernel
theorem dX8_reading_31 : decode cX8_reading 31 = .ok (.ifCond .ne 6, 3) := by decide +kernel
theorem dX8_reading_34 : decode cX8_reading 34 = .ok (.bipush (-2), 2) := by decide +kernel
theorem dX8_reading_36 : decode cX8_reading 36 = .ok (.ireturn, 1) := by decide +kernel
theorem dX8_reading_37 : decode cX8_reading 37 = .ok (.aload_n 0, 1) := by decide +kernel
theorem dX8_reading_38 : decode cX8_reading 38 = .ok (.getfield 96, 3) := by decide +kernel
theorem dX8_reading_41 : decode cX8_reading 41 = .ok (.bipush 8, 2) := by decide +kernel
theorem dX8_reading_43 : decode cX8_reading 43 = .ok (.if_icmp .ne 6, 3) := by decide +kernel
theorem dX8_reading_46 : decode cX8_reading 46 = .ok (.bipush (-4), 2) := by decide +kernel
theorem dX8_reading_48 : decode cX8_reading 48 = .ok (.ireturn, 1) := by decide +kernel
theorem dX8_reading_49 : decode cX8_reading 49 = .ok (.aload_n 0, 1) := by decide +kernel
theorem dX8_reading_50 : decode cX8_reading 50 = .ok (.getfield 41, 3) := by decide +kernel
theorem dX8_reading_53 : decode cX8_reading 53 = .ok (.aload_n 0, 1) := by decide +kernel
theorem dX8_reading_54 : decode cX8_reading 54 = .ok (.getfield 96, 3) := by decide +kernel
theorem dX8_reading_57 : decode cX8_reading 57 = .ok (.iload_n 1, 1) := by decide +kernel
theorem dX8_reading_58 : decode cX8_reading 58 = .ok (.iastore, 1) := by decide +kernel
theorem dX8_reading_59 : decode cX8_reading 59 = .ok (.aload_n 0, 1) := by decide +kernel
theorem dX8_reading_60 : decode cX8_reading 60 = .ok (.getfield 44, 3) := by decide +kernel
theorem dX8_reading_63 : decode cX8_reading 63 = .ok (.aload_n 0, 1) := by decide +kernel
theorem dX8_reading_64 : decode cX8_reading 64 = .ok (.getfield 96, 3) := by decide +kernel
theorem dX8_reading_67 : decode cX8_reading 67 = .ok (.iload_n 2, 1) := by decide +kernel
theorem dX8_reading_68 : decode cX8_reading 68 = .ok (.iastore, 1) := by decide +kernel
theorem dX8_reading_69 : decode cX8_reading 69 = .ok (.aload_n 0, 1) := by decide +kernel
theorem dX8_reading_70 : decode cX8_reading 70 = .ok (.getfield 47, 3) := by decide +kernel
theorem dX8_reading_73 : decode cX8_reading 73 = .ok (.aload_n 0, 1) := by decide +kernel
theorem dX8_reading_74 : decode cX8_reading 74 = .ok (.getfield 96, 3) := by decide +kernel
theorem dX8_reading_77 : decode cX8_reading 77 = .ok (.iload_n 3, 1) := by decide +kernel
theorem dX8_reading_78 : decode cX8_reading 78 = .ok (.iastore, 1) := by decide +kernel
theorem dX8_reading_79 : decode cX8_reading 79 = .ok (.aload_n 0, 1) := by decide +kernel
theorem dX8_reading_80 : decode cX8_reading 80 = .ok (.dup, 1) := by decide +kernel
theorem dX8_reading_81 : decode cX8_reading 81 = .ok (.getfield 96, 3) := by decide +kernel
theorem dX8_reading_84 : decode cX8_reading 84 = .ok (.iconst 1, 1) := by decide +kernel
theorem dX8_reading_85 : decode cX8_reading 85 = .ok (.iadd, 1) := by decide +kernel
theorem dX8_reading_86 : decode cX8_reading 86 = .ok (.putfield 96, 3) := by decide +kernel
theorem dX8_reading_89 : decode cX8_reading 89 = .ok (.aload_n 0, 1) := by decide +kernel
theorem dX8_reading_90 : decode cX8_reading 90 = .ok (.getfield 96, 3) := by decide +kernel
theorem dX8_reading_93 : decode cX8_reading 93 = .ok (.iconst 1, 1) := by decide +kernel
theorem dX8_reading_94 : decode cX8_reading 94 = .ok (.isub, 1) := by decide +kernel
theorem dX8_reading_95 : decode cX8_reading 95 = .ok (.ireturn, 1) := by decide +kernel
set_option maxRecDepth 20000 in
theorem ggX8_back_X8_within : GoodIn wsX8_back wsX8_within := goodIn_r _ [5] (by decide +kernel) (by decide +kernel)
set_option maxRecDepth 20000 in
theorem gX8_back_X8_within : GoodIn wsX8_back (va_wsS RX8 56 yX8_within wsX8_within) := goodIn_app (goodIn_of _ (by decide +kernel)) ggX8_back_X8_within
theorem dX8_back_0 : decode cX8_back 0 = .ok (.iload_n 1, 1) := by decide +kernel
theorem dX8_back_1 : decode cX8_back 1 = .ok (.iconst 0, 1) := by decide +kernel
theorem dX8_back_2 : decode cX8_back 2 = .ok (.aload_n 0, 1) := by decide +kernel
theorem dX8_back_3 : decode cX8_back 3 = .ok (.getfield 96, 3) := by decide +kernel
theorem dX8_back_6 : decode cX8_back 6 = .ok (.invokestatic 56, 3) := by decide +kernel
theorem dX8_back_9 : decode cX8_back 9 = .ok (.ifCond .ne 6, 3) := by decide +kernel
theorem dX8_back_12 : decode cX8_back 12 = .ok (.bipush (-2), 2) := by decide +kernel
theorem dX8_back_14 : decode cX8_back 14 = .ok (.ireturn, 1) := by decide +kernel
theorem dX8_back_15 : decode cX8_back 15 = .ok (.aload_n 0, 1) := by decide +kernel
theorem dX8_back_16 : decode cX8_back 16 = .ok (.dup, 1) := by decide +kernel
theorem dX8_back_17 : decode cX8_back 17 = .ok (.getfield 96, 3) := by decide +kernel
theorem dX8_back_20 : decode cX8_back 20 = .ok (.iload_n 1, 1) := by decide +kernel
theorem dX8_back_21 : decode cX8_back 21 = .ok (.isub, 1) := by decide +kernel
theorem dX8_back_22 : decode cX8_back 22 = .ok (.putfield 96, 3) := by decide +kernel
theorem dX8_back_25 : decode cX8_back 25 = .ok (.aload_n 0, 1) := by decide +kernel
theorem dX8_back_26 : decode cX8_back 26 = .ok (.getfield 96, 3) := by decide +kernel
theorem dX8_back_29 : decode cX8_back 29 = .ok (.ireturn, 1) := by decide +kernel
set_option maxRecDepth 20000 in
theorem ggX8_areSo_X8_keep : GoodIn wsX8_areSo wsX8_keep := goodIn_r _ [9, 10, 11, 48, 49, 50, 51, 52, 53, 54, 55, 56, 57, 58, 59, 60, 61, 62, 63, 64, 65, 66, 67, 68] (by decide +kernel) (by decide +kernel)
set_option maxRecDepth 20000 in
theorem gX8_areSo_X8_keep : GoodIn wsX8_areSo (wsV RX8 142 RX8 yX8_keep wsX8_keep) := goodIn_app (goodIn_of _ (by decide +kernel)) ggX8_areSo_X8_keep
set_option maxRecDepth 20000 in
theorem ggX8_areSo_X8_lighterOf : GoodIn wsX8_areSo wsX8_lighterOf := goodIn_r _ [15, 16, 17, 18, 19, 8, 20, 11, 21, 22, 23, 24, 48, 49, 50, 51, 52, 53, 54, 55, 56, 57, 58, 59, 60, 61, 62, 63, 64, 65, 66, 67, 68] (by decide +kernel) (by decide +kernel)
set_option maxRecDepth 20000 in
theorem gX8_areSo_X8_lighterOf : GoodIn wsX8_areSo (wsV RX8 117 RX8 yX8_lighterOf wsX8_lighterOf) := goodIn_app (goodIn_of _ (by decide +kernel)) ggX8_areSo_X8_lighterOf
set_option maxRecDepth 20000 in
theorem ggX8_areSo_X8_goDusk : GoodIn wsX8_areSo wsX8_goDusk := goodIn_r _ [28, 16, 29, 30, 11, 12, 13, 14, 8, 15, 17, 18, 19, 20, 21, 22, 23, 24, 31, 32, 33, 34, 35, 36, 37, 38, 39, 40, 41, 42, 43, 48, 49, 50, 51, 52, 53, 54, 55, 56, 57, 58, 59, 60, 61, 62, 63, 64, 65, 66, 67, 68] (by decide +kernel) (by decide +kernel)
set_option maxRecDepth 20000 in
theorem gX8_areSo_X8_goDusk : GoodIn wsX8_areSo (wsV RX8 135 RX8 yX8_goDusk wsX8_goDusk) := goodIn_app (goodIn_of _ (by decide +kernel)) ggX8_areSo_X8_goDusk
set_option maxRecDepth 20000 in
theorem ggX8_areSo_X8_restore : GoodIn wsX8_areSo wsX8_restore := goodIn_r _ [47, 11, 10, 48, 49, 50, 51, 52, 53, 54, 55, 56, 57, 58, 59, 60, 61, 62, 63, 64, 65, 66, 67, 68] (by decide +kernel) (by decide +kernel)
set_option maxRecDepth 20000 in
theorem gX8_areSo_X8_restore : GoodIn wsX8_areSo (wsV RX8 145 RX8 yX8_restore wsX8_restore) := goodIn_app (goodIn_of _ (by decide +kernel)) ggX8_areSo_X8_restore
theorem dX8_areSo_0 : decode cX8_areSo 0 = .ok (.aload_n 0, 1) := by decide +kernel
theorem dX8_areSo_1 : decode cX8_areSo 1 = .ok (.invokevirtual 142, 3) := by decide +kernel
theorem dX8_areSo_4 : decode cX8_areSo 4 = .ok (.iconst 1, 1) := by decide +kernel
theorem dX8_areSo_5 : decode cX8_areSo 5 = .ok (.istore_n 1, 1) := by decide +kernel
theorem dX8_areSo_6 : decode cX8_areSo 6 = .ok (.iconst 0, 1) := by decide +kernel
theorem dX8_areSo_7 : decode cX8_areSo 7 = .ok (.istore_n 2, 1) := by decide +kernel
theorem dX8_areSo_8 : decode cX8_areSo 8 = .ok (.iload_n 2, 1) := by decide +kernel
theorem dX8_areSo_9 : decode cX8_areSo 9 = .ok (.bipush 10, 2) := by decide +kernel
theorem dX8_areSo_11 : decode cX8_areSo 11 = .ok (.if_icmp .gt 72, 3) := by decide +kernel
theorem dX8_areSo_14 : decode cX8_areSo 14 = .ok (.iload_n 1, 1) := by decide +kernel
theorem dX8_areSo_15 : decode cX8_areSo 15 = .ok (.ifCond .eq 68, 3) := by decide +kernel
theorem dX8_areSo_18 : decode cX8_areSo 18 = .ok (.iconst 0, 1) := by decide +kernel
theorem dX8_areSo_19 : decode cX8_areSo 19 = .ok (.istore_n 3, 1) := by decide +kernel
theorem dX8_areSo_20 : decode cX8_areSo 20 = .ok (.iload_n 3, 1) := by decide +kernel
theorem dX8_areSo_21 : decode cX8_areSo 21 = .ok (.aload_n 0, 1) := by decide +kernel
theorem dX8_areSo_22 : decode cX8_areSo 22 = .ok (.getfield 96, 3) := by decide +kernel
theorem dX8_areSo_25 : decode cX8_areSo 25 = .ok (.if_icmp .ge 48, 3) := by decide +kernel
theorem dX8_areSo_28 : decode cX8_areSo 28 = .ok (.iload_n 1, 1) := by decide +kernel
theorem dX8_areSo_29 : decode cX8_areSo 29 = .ok (.ifCond .eq 36, 3) := by decide +kernel
theorem dX8_areSo_32 : decode cX8_areSo 32 = .ok (.aload_n 0, 1) := by decide +kernel
theorem dX8_areSo_33 : decode cX8_areSo 33 = .ok (.getfield 41, 3) := by decide +kernel
theorem dX8_areSo_36 : decode cX8_areSo 36 = .ok (.iload_n 3, 1) := by decide +kernel
theorem dX8_areSo_37 : decode cX8_areSo 37 = .ok (.iaload, 1) := by decide +kernel
theorem dX8_areSo_38 : decode cX8_areSo 38 = .ok (.iload_n 2, 1) := by decide +kernel
theorem dX8_areSo_39 : decode cX8_areSo 39 = .ok (.if_icmp .ne 22, 3) := by decide +kernel
theorem dX8_areSo_42 : decode cX8_areSo 42 = .ok (.aload_n 0, 1) := by decide +kernel
theorem dX8_areSo_43 : decode cX8_areSo 43 = .ok (.aload_n 0, 1) := by decide +kernel
theorem dX8_areSo_44 : decode cX8_areSo 44 = .ok (.getfield 44, 3) := by decide +kernel
theorem dX8_areSo_47 : decode cX8_areSo 47 = .ok (.iload_n 3, 1) := by decide +kernel
theorem dX8_areSo_48 : decode cX8_areSo 48 = .ok (.iaload, 1) := by decide +kernel
theorem dX8_areSo_49 : decode cX8_areSo 49 = .ok (.invokevirtual 117, 3) := by decide +kernel
theorem dX8_areSo_52 : decode cX8_areSo 52 = .ok (.aload_n 0, 1) := by decide +kernel
theorem dX8_areSo_53 : decode cX8_areSo 53 = .ok (.getfield 47, 3) := by decide +kernel
theorem dX8_areSo_56 : decode cX8_areSo 56 = .ok (.iload_n 3, 1) := by decide +kernel
theorem dX8_areSo_57 : decode cX8_areSo 57 = .ok (.iaload, 1) := by decide +kernel
theorem dX8_areSo_58 : decode cX8_areSo 58 = .ok (.if_icmp .ne 7, 3) := by decide +kernel
theorem dX8_areSo_61 : decode cX8_areSo 61 = .ok (.iconst 1, 1) := by decide +kernel
theorem dX8_areSo_62 : decode cX8_areSo 62 = .ok (.goto 4, 3) := by decide +kernel
theorem dX8_areSo_65 : decode cX8_areSo 65 = .ok (.iconst 0, 1) := by decide +kernel
theorem dX8_areSo_66 : decode cX8_areSo 66 = .ok (.istore_n 1, 1) := by decide +kernel
theorem dX8_areSo_67 : decode cX8_areSo 67 = .ok (.iinc 3 1, 3) := by decide +kernel
theorem dX8_areSo_70 : decode cX8_areSo 70 = .ok (.goto (-50), 3) := by decide +kernel
theorem dX8_areSo_73 : decode cX8_areSo 73 = .ok (.aload_n 0, 1) := by decide +kernel
theorem dX8_areSo_74 : decode cX8_areSo 74 = .ok (.invokevirtual 135, 3) := by decide +kernel
theorem dX8_areSo_77 : decode cX8_areSo 77 = .ok (.iinc 2 1, 3) := by decide +kernel
theorem dX8_areSo_80 : decode cX8_areSo 80 = .ok (.goto (-72), 3) := by decide +kernel
theorem dX8_areSo_83 : decode cX8_areSo 83 = .ok (.aload_n 0, 1) := by decide +kernel
theorem dX8_areSo_84 : decode cX8_areSo 84 = .ok (.invokevirtual 145, 3) := by decide +kernel
theorem dX8_areSo_87 : decode cX8_areSo 87 = .ok (.iload_n 1, 1) := by decide +kernel
theorem dX8_areSo_88 : decode cX8_areSo 88 = .ok (.ireturn, 1) := by decide +kernel
set_option maxRecDepth 20000 in
theorem ggX8_debts_X8_areTwo : GoodIn wsX8_debts wsX8_areTwo := goodIn_r _ [6, 7, 8, 9, 5, 10, 11, 60, 61, 62, 63, 64, 65, 66, 67, 68, 69, 70, 71, 72, 73, 74, 75, 76, 77, 78, 79, 80] (by decide +kernel) (by decide +kernel)
set_option maxRecDepth 20000 in
theorem gX8_debts_X8_areTwo : GoodIn wsX8_debts (wsV RX8 132 RX8 yX8_areTwo wsX8_areTwo) := goodIn_app (goodIn_of _ (by decide +kernel)) ggX8_debts_X8_areTwo
set_option maxRecDepth 20000 in
theorem ggX8_debts_X8_spot : GoodIn wsX8_debts wsX8_spot := goodIn_r _ [14] (by decide +kernel) (by decide +kernel)
set_option maxRecDepth 20000 in
theorem gX8_debts_X8_spot : GoodIn wsX8_debts (va_wsS RX8 110 yX8_spot wsX8_spot) := goodIn_app (goodIn_of _ (by decide +kernel)) ggX8_debts_X8_spot
set_option maxRecDepth 20000 in
theorem ggX8_debts_X8_areSo : GoodIn wsX8_debts wsX8_areSo := goodIn_r _ [18, 19, 20, 21, 22, 23, 24, 25, 5, 26, 27, 1, 28, 29, 30, 31, 11, 32, 33, 34, 35, 36, 12, 13, 14, 37, 38, 39, 40, 41, 42, 43, 44, 45, 46, 47, 48, 49, 50, 51, 52, 53, 54, 55, 56, 57, 58, 59, 60, 61, 62, 63, 64, 65, 66, 67, 68, 69, 70, 71, 72, 73, 74, 75, 76, 77, 78, 79, 80] (by decide +kernel) (by decide +kernel)
set_option maxRecDepth 20000 in
theorem gX8_debts_X8_areSo : GoodIn wsX8_debts (wsV RX8 151 RX8 yX8_areSo wsX8_areSo) := goodIn_app (goodIn_of _ (by decide +kernel)) ggX8_debts_X8_areSo
theorem dX8_debts_0 : decode cX8_debts 0 = .ok (.aload_n 0, 1) := by decide +kernel
theorem dX8_debts_1 : decode cX8_debts 1 = .ok (.iload_n 1, 1) := by decide +kernel
theorem dX8_debts_2 : decode cX8_debts 2 = .ok (.iload_n 2, 1) := by decide +kernel
theorem dX8_debts_3 : decode cX8_debts 3 = .ok (.invokevirtual 132, 3) := by decide +kernel
theorem dX8_debts_6 : decode cX8_debts 6 = .ok (.ifCond .ne 5, 3) := by decide +kernel
theorem dX8_debts_9 : decode cX8_debts 9 = .ok (.iconst (-1), 1) := by decide +kernel
theorem dX8_debts_10 : decode cX8_debts 10 = .ok (.ireturn, 1) := by decide +kernel
theorem dX8_debts_11 : decode cX8_debts 11 = .ok (.aload_n 0, 1) := by decide +kernel
theorem dX8_debts_12 : decode cX8_debts 12 = .ok (.getfield 22, 3) := by decide +kernel
theorem dX8_debts_15 : decode cX8_debts 15 = .ok (.iload_n 1, 1) := by decide +kernel
theorem dX8_debts_16 : decode cX8_debts 16 = .ok (.iload_n 2, 1) := by decide +kernel
theorem dX8_debts_17 : decode cX8_debts 17 = .ok (.invokestatic 110, 3) := by decide +kernel
theorem dX8_debts_20 : decode cX8_debts 20 = .ok (.iaload, 1) := by decide +kernel
theorem dX8_debts_21 : decode cX8_debts 21 = .ok (.istore_n 3, 1) := by decide +kernel
theorem dX8_debts_22 : decode cX8_debts 22 = .ok (.iconst 0, 1) := by decide +kernel
theorem dX8_debts_23 : decode cX8_debts 23 = .ok (.istore 4, 2) := by decide +kernel
theorem dX8_debts_25 : decode cX8_debts 25 = .ok (.iconst 0, 1) := by decide +kernel
theorem dX8_debts_26 : decode cX8_debts 26 = .ok (.istore 5, 2) := by decide +kernel
theorem dX8_debts_28 : decode cX8_debts 28 = .ok (.iload 5, 2) := by decide +kernel
theorem dX8_debts_30 : decode cX8_debts 30 = .ok (.bipush 9, 2) := by decide +kernel
theorem dX8_debts_32 : decode cX8_debts 32 = .ok (.if_icmp .gt 41, 3) := by decide +kernel
theorem dX8_debts_35 : decode cX8_debts 35 = .ok (.aload_n 0, 1) := by decide +kernel
theorem dX8_debts_36 : decode cX8_debts 36 = .ok (.getfield 22, 3) := by decide +kernel
theorem dX8_debts_39 : decode cX8_debts 39 = .ok (.iload_n 1, 1) := by decide +kernel
theorem dX8_debts_40 : decode cX8_debts 40 = .ok (.iload_n 2, 1) := by decide +kernel
theorem dX8_debts_41 : decode cX8_debts 41 = .ok (.invokestatic 110, 3) := by decide +kernel
theorem dX8_debts_44 : decode cX8_debts 44 = .ok (.iload 5, 2) := by decide +kernel
theorem dX8_debts_46 : decode cX8_debts 46 = .ok (.iastore, 1) := by decide +kernel
theorem dX8_debts_47 : decode cX8_debts 47 = .ok (.iload 4, 2) := by decide +kernel
theorem dX8_debts_49 : decode cX8_debts 49 = .ok (.aload_n 0, 1) := by decide +kernel
theorem dX8_debts_50 : decode cX8_debts 50 = .ok (.invokevirtual 151, 3) := by decide +kernel
theorem dX8_debts_53 : decode cX8_debts 53 = .ok (.ifCond .eq 10, 3) := by decide +kernel
theorem dX8_debts_56 : decode cX8_debts 56 = .ok (.iconst 1, 1) := by decide +kernel
theorem dX8_debts_57 : decode cX8_debts 57 = .ok (.iload 5, 2) := by decide +kernel
theorem dX8_debts_59 : decode cX8_debts 59 = .ok (.ishl, 1) := by decide +kernel
theorem dX8_debts_60 : decode cX8_debts 60 = .ok (.goto 4, 3) := by decide +kernel
theorem dX8_debts_63 : decode cX8_debts 63 = .ok (.iconst 0, 1) := by decide +kernel
theorem dX8_debts_64 : decode cX8_debts 64 = .ok (.ior, 1) := by decide +kernel
theorem dX8_debts_65 : decode cX8_debts 65 = .ok (.istore 4, 2) := by decide +kernel
theorem dX8_debts_67 : decode cX8_debts 67 = .ok (.iinc 5 1, 3) := by decide +kernel
theorem dX8_debts_70 : decode cX8_debts 70 = .ok (.goto (-42), 3) := by decide +kernel
theorem dX8_debts_73 : decode cX8_debts 73 = .ok (.aload_n 0, 1) := by decide +kernel
theorem dX8_debts_74 : decode cX8_debts 74 = .ok (.getfield 22, 3) := by decide +kernel
theorem dX8_debts_77 : decode cX8_debts 77 = .ok (.iload_n 1, 1) := by decide +kernel
theorem dX8_debts_78 : decode cX8_debts 78 = .ok (.iload_n 2, 1) := by decide +kernel
theorem dX8_debts_79 : decode cX8_debts 79 = .ok (.invokestatic 110, 3) := by decide +kernel
theorem dX8_debts_82 : decode cX8_debts 82 = .ok (.iload_n 3, 1) := by decide +kernel
theorem dX8_debts_83 : decode cX8_debts 83 = .ok (.iastore, 1) := by decide +kernel
theorem dX8_debts_84 : decode cX8_debts 84 = .ok (.iload 4, 2) := by decide +kernel
theorem dX8_debts_86 : decode cX8_debts 86 = .ok (.ireturn, 1) := by decide +kernel
set_option maxRecDepth 20000 in
theorem ggX8_kinds_X8_isPerson : GoodIn wsX8_kinds wsX8_isPerson := goodIn_r _ [6, 7, 56, 57, 58, 59, 60, 61, 62, 63, 64, 65, 66, 67, 68, 69, 70, 71, 72, 73, 74, 75, 76] (by decide +kernel) (by decide +kernel)
set_option maxRecDepth 20000 in
theorem gX8_kinds_X8_isPerson : GoodIn wsX8_kinds (wsV RX8 63 RX8 yX8_isPerson wsX8_isPerson) := goodIn_app (goodIn_of _ (by decide +kernel)) ggX8_kinds_X8_isPerson
set_option maxRecDepth 20000 in
theorem ggX8_kinds_X8_areSo : GoodIn wsX8_kinds wsX8_areSo := goodIn_r _ [11, 12, 13, 14, 15, 16, 17, 18, 5, 19, 20, 21, 22, 23, 24, 25, 7, 26, 27, 28, 29, 1, 30, 31, 32, 33, 34, 35, 36, 37, 38, 39, 40, 41, 42, 43, 44, 45, 46, 47, 48, 49, 50, 51, 52, 53, 54, 55, 56, 57, 58, 59, 60, 61, 62, 63, 64, 65, 66, 67, 68, 69, 70, 71, 72, 73, 74, 75, 76] (by decide +kernel) (by decide +kernel)
set_option maxRecDepth 20000 in
theorem gX8_kinds_X8_areSo : GoodIn wsX8_kinds (wsV RX8 151 RX8 yX8_areSo wsX8_areSo) := goodIn_app (goodIn_of _ (by decide +kernel)) ggX8_kinds_X8_areSo
theorem dX8_kinds_0 : decode cX8_kinds 0 = .ok (.aload_n 0, 1) := by decide +kernel
theorem dX8_kinds_1 : decode cX8_kinds 1 = .ok (.iload_n 1, 1) := by decide +kernel
theorem dX8_kinds_2 : decode cX8_kinds 2 = .ok (.invokevirtual 63, 3) := by decide +kernel
theorem dX8_kinds_5 : decode cX8_kinds 5 = .ok (.ifCond .ne 5, 3) := by decide +kernel
theorem dX8_kinds_8 : decode cX8_kinds 8 = .ok (.iconst (-1), 1) := by decide +kernel
theorem dX8_kinds_9 : decode cX8_kinds 9 = .ok (.ireturn, 1) := by decide +kernel
theorem dX8_kinds_10 : decode cX8_kinds 10 = .ok (.aload_n 0, 1) := by decide +kernel
theorem dX8_kinds_11 : decode cX8_kinds 11 = .ok (.getfield 19, 3) := by decide +kernel
theorem dX8_kinds_14 : decode cX8_kinds 14 = .ok (.iload_n 1, 1) := by decide +kernel
theorem dX8_kinds_15 : decode cX8_kinds 15 = .ok (.iaload, 1) := by decide +kernel
theorem dX8_kinds_16 : decode cX8_kinds 16 = .ok (.istore_n 2, 1) := by decide +kernel
theorem dX8_kinds_17 : decode cX8_kinds 17 = .ok (.iconst 0, 1) := by decide +kernel
theorem dX8_kinds_18 : decode cX8_kinds 18 = .ok (.istore_n 3, 1) := by decide +kernel
theorem dX8_kinds_19 : decode cX8_kinds 19 = .ok (.iconst 0, 1) := by decide +kernel
theorem dX8_kinds_20 : decode cX8_kinds 20 = .ok (.istore 4, 2) := by decide +kernel
theorem dX8_kinds_22 : decode cX8_kinds 22 = .ok (.iload 4, 2) := by decide +kernel
theorem dX8_kinds_24 : decode cX8_kinds 24 = .ok (.iconst 3, 1) := by decide +kernel
theorem dX8_kinds_25 : decode cX8_kinds 25 = .ok (.if_icmp .ge 35, 3) := by decide +kernel
theorem dX8_kinds_28 : decode cX8_kinds 28 = .ok (.aload_n 0, 1) := by decide +kernel
theorem dX8_kinds_29 : decode cX8_kinds 29 = .ok (.getfield 19, 3) := by decide +kernel
theorem dX8_kinds_32 : decode cX8_kinds 32 = .ok (.iload_n 1, 1) := by decide +kernel
theorem dX8_kinds_33 : decode cX8_kinds 33 = .ok (.iload 4, 2) := by decide +kernel
theorem dX8_kinds_35 : decode cX8_kinds 35 = .ok (.iastore, 1) := by decide +kernel
theorem dX8_kinds_36 : decode cX8_kinds 36 = .ok (.iload_n 3, 1) := by decide +kernel
theorem dX8_kinds_37 : decode cX8_kinds 37 = .ok (.aload_n 0, 1) := by decide +kernel
theorem dX8_kinds_38 : decode cX8_kinds 38 = .ok (.invokevirtual 151, 3) := by decide +kernel
theorem dX8_kinds_41 : decode cX8_kinds 41 = .ok (.ifCond .eq 10, 3) := by decide +kernel
theorem dX8_kinds_44 : decode cX8_kinds 44 = .ok (.iconst 1, 1) := by decide +kernel
theorem dX8_kinds_45 : decode cX8_kinds 45 = .ok (.iload 4, 2) := by decide +kernel
theorem dX8_kinds_47 : decode cX8_kinds 47 = .ok (.ishl, 1) := by decide +kernel
theorem dX8_kinds_48 : decode cX8_kinds 48 = .ok (.goto 4, 3) := by decide +kernel
theorem dX8_kinds_51 : decode cX8_kinds 51 = .ok (.iconst 0, 1) := by decide +kernel
theorem dX8_kinds_52 : decode cX8_kinds 52 = .ok (.ior, 1) := by decide +kernel
theorem dX8_kinds_53 : decode cX8_kinds 53 = .ok (.istore_n 3, 1) := by decide +kernel
theorem dX8_kinds_54 : decode cX8_kinds 54 = .ok (.iinc 4 1, 3) := by decide +kernel
theorem dX8_kinds_57 : decode cX8_kinds 57 = .ok (.goto (-35), 3) := by decide +kernel
theorem dX8_kinds_60 : decode cX8_kinds 60 = .ok (.aload_n 0, 1) := by decide +kernel
theorem dX8_kinds_61 : decode cX8_kinds 61 = .ok (.getfield 19, 3) := by decide +kernel
theorem dX8_kinds_64 : decode cX8_kinds 64 = .ok (.iload_n 1, 1) := by decide +kernel
theorem dX8_kinds_65 : decode cX8_kinds 65 = .ok (.iload_n 2, 1) := by decide +kernel
theorem dX8_kinds_66 : decode cX8_kinds 66 = .ok (.iastore, 1) := by decide +kernel
theorem dX8_kinds_67 : decode cX8_kinds 67 = .ok (.iload_n 3, 1) := by decide +kernel
theorem dX8_kinds_68 : decode cX8_kinds 68 = .ok (.ireturn, 1) := by decide +kernel
set_option maxRecDepth 20000 in
theorem ggX8_bells_X8_areSo : GoodIn wsX8_bells wsX8_areSo := goodIn_r _ [7, 8, 9, 10, 11, 12, 13, 14, 6, 15, 16, 17, 18, 19, 20, 21, 1, 22, 23, 24, 25, 26, 27, 28, 29, 30, 31, 32, 33, 34, 35, 36, 37, 38, 39, 2, 40, 41, 42, 43, 44, 45, 46, 47, 48, 49, 50, 51, 52, 53, 54, 55, 56, 57, 58, 59, 60, 61, 62, 63, 64, 65, 66, 67, 68, 69, 70, 71, 72] (by decide +kernel) (by decide +kernel)
set_option maxRecDepth 20000 in
theorem gX8_bells_X8_areSo : GoodIn wsX8_bells (wsV RX8 151 RX8 yX8_areSo wsX8_areSo) := goodIn_app (goodIn_of _ (by decide +kernel)) ggX8_bells_X8_areSo
theorem dX8_bells_0 : decode cX8_bells 0 = .ok (.aload_n 0, 1) := by decide +kernel
theorem dX8_bells_1 : decode cX8_bells 1 = .ok (.getfield 60, 3) := by decide +kernel
theorem dX8_bells_4 : decode cX8_bells 4 = .ok (.ifCond .ne 6, 3) := by decide +kernel
theorem dX8_bells_7 : decode cX8_bells 7 = .ok (.bipush (-3), 2) := by decide +kernel
theorem dX8_bells_9 : decode cX8_bells 9 = .ok (.ireturn, 1) := by decide +kernel
theorem dX8_bells_10 : decode cX8_bells 10 = .ok (.aload_n 0, 1) := by decide +kernel
theorem dX8_bells_11 : decode cX8_bells 11 = .ok (.getfield 93, 3) := by decide +kernel
theorem dX8_bells_14 : decode cX8_bells 14 = .ok (.istore_n 1, 1) := by decide +kernel
theorem dX8_bells_15 : decode cX8_bells 15 = .ok (.iconst 0, 1) := by decide +kernel
theorem dX8_bells_16 : decode cX8_bells 16 = .ok (.istore_n 2, 1) := by decide +kernel
theorem dX8_bells_17 : decode cX8_bells 17 = .ok (.iconst 0, 1) := by decide +kernel
theorem dX8_bells_18 : decode cX8_bells 18 = .ok (.istore_n 3, 1) := by decide +kernel
theorem dX8_bells_19 : decode cX8_bells 19 = .ok (.iload_n 3, 1) := by decide +kernel
theorem dX8_bells_20 : decode cX8_bells 20 = .ok (.bipush 9, 2) := by decide +kernel
theorem dX8_bells_22 : decode cX8_bells 22 = .ok (.if_icmp .gt 31, 3) := by decide +kernel
theorem dX8_bells_25 : decode cX8_bells 25 = .ok (.aload_n 0, 1) := by decide +kernel
theorem dX8_bells_26 : decode cX8_bells 26 = .ok (.iload_n 3, 1) := by decide +kernel
theorem dX8_bells_27 : decode cX8_bells 27 = .ok (.putfield 93, 3) := by decide +kernel
theorem dX8_bells_30 : decode cX8_bells 30 = .ok (.iload_n 2, 1) := by decide +kernel
theorem dX8_bells_31 : decode cX8_bells 31 = .ok (.aload_n 0, 1) := by decide +kernel
theorem dX8_bells_32 : decode cX8_bells 32 = .ok (.invokevirtual 151, 3) := by decide +kernel
theorem dX8_bells_35 : decode cX8_bells 35 = .ok (.ifCond .eq 9, 3) := by decide +kernel
theorem dX8_bells_38 : decode cX8_bells 38 = .ok (.iconst 1, 1) := by decide +kernel
theorem dX8_bells_39 : decode cX8_bells 39 = .ok (.iload_n 3, 1) := by decide +kernel
theorem dX8_bells_40 : decode cX8_bells 40 = .ok (.ishl, 1) := by decide +kernel
theorem dX8_bells_41 : decode cX8_bells 41 = .ok (.goto 4, 3) := by decide +kernel
theorem dX8_bells_44 : decode cX8_bells 44 = .ok (.iconst 0, 1) := by decide +kernel
theorem dX8_bells_45 : decode cX8_bells 45 = .ok (.ior, 1) := by decide +kernel
theorem dX8_bells_46 : decode cX8_bells 46 = .ok (.istore_n 2, 1) := by decide +kernel
theorem dX8_bells_47 : decode cX8_bells 47 = .ok (.iinc 3 1, 3) := by decide +kernel
theorem dX8_bells_50 : decode cX8_bells 50 = .ok (.goto (-31), 3) := by decide +kernel
theorem dX8_bells_53 : decode cX8_bells 53 = .ok (.aload_n 0, 1) := by decide +kernel
theorem dX8_bells_54 : decode cX8_bells 54 = .ok (.iload_n 1, 1) := by decide +kernel
theorem dX8_bells_55 : decode cX8_bells 55 = .ok (.putfield 93, 3) := by decide +kernel
theorem dX8_bells_58 : decode cX8_bells 58 = .ok (.iload_n 2, 1) := by decide +kernel
theorem dX8_bells_59 : decode cX8_bells 59 = .ok (.ireturn, 1) := by decide +kernel
theorem dX8_inLeastTerms_0 : decode cX8_inLeastTerms 0 = .ok (.lload_n 0, 1) := by decide +kernel
theorem dX8_inLeastTerms_1 : decode cX8_inLeastTerms 1 = .ok (.lstore 5, 2) := by decide +kernel
theorem dX8_inLeastTerms_3 : decode cX8_inLeastTerms 3 = .ok (.lload_n 2, 1) := by decide +kernel
theorem dX8_inLeastTerms_4 : decode cX8_inLeastTerms 4 = .ok (.lstore 7, 2) := by decide +kernel
theorem dX8_inLeastTerms_6 : decode cX8_inLeastTerms 6 = .ok (.lload 7, 2) := by decide +kernel
theorem dX8_inLeastTerms_8 : decode cX8_inLeastTerms 8 = .ok (.lconst 0, 1) := by decide +kernel
theorem dX8_inLeastTerms_9 : decode cX8_inLeastTerms 9 = .ok (.lcmp, 1) := by decide +kernel
theorem dX8_inLeastTerms_10 : decode cX8_inLeastTerms 10 = .ok (.ifCond .eq 21, 3) := by decide +kernel
theorem dX8_inLeastTerms_13 : decode cX8_inLeastTerms 13 = .ok (.lload 5, 2) := by decide +kernel
theorem dX8_inLeastTerms_15 : decode cX8_inLeastTerms 15 = .ok (.lload 7, 2) := by decide +kernel
theorem dX8_inLeastTerms_17 : decode cX8_inLeastTerms 17 = .ok (.lrem, 1) := by decide +kernel
theorem dX8_inLeastTerms_18 : decode cX8_inLeastTerms 18 = .ok (.lstore 9, 2) := by decide +kernel
theorem dX8_inLeastTerms_20 : decode cX8_inLeastTerms 20 = .ok (.lload 7, 2) := by decide +kernel
theorem dX8_inLeastTerms_22 : decode cX8_inLeastTerms 22 = .ok (.lstore 5, 2) := by decide +kernel
theorem dX8_inLeastTerms_24 : decode cX8_inLeastTerms 24 = .ok (.lload 9, 2) := by decide +kernel
theorem dX8_inLeastTerms_26 : decode cX8_inLeastTerms 26 = .ok (.lstore 7, 2) := by decide +kernel
theorem dX8_inLeastTerms_28 : decode cX8_inLeastTerms 28 = .ok (.goto (-22), 3) := by decide +kernel
theorem dX8_inLeastTerms_31 : decode cX8_inLeastTerms 31 = .ok (.iload 4, 2) := by decide +kernel
theorem dX8_inLeastTerms_33 : decode cX8_inLeastTerms 33 = .ok (.ifCond .ne 10, 3) := by decide +kernel
theorem dX8_inLeastTerms_36 : decode cX8_inLeastTerms 36 = .ok (.lload_n 0, 1) := by decide +kernel
theorem dX8_inLeastTerms_37 : decode cX8_inLeastTerms 37 = .ok (.lload 5, 2) := by decide +kernel
theorem dX8_inLeastTerms_39 : decode cX8_inLeastTerms 39 = .ok (.ldiv, 1) := by decide +kernel
theorem dX8_inLeastTerms_40 : decode cX8_inLeastTerms 40 = .ok (.goto 7, 3) := by decide +kernel
theorem dX8_inLeastTerms_43 : decode cX8_inLeastTerms 43 = .ok (.lload_n 2, 1) := by decide +kernel
theorem dX8_inLeastTerms_44 : decode cX8_inLeastTerms 44 = .ok (.lload 5, 2) := by decide +kernel
theorem dX8_inLeastTerms_46 : decode cX8_inLeastTerms 46 = .ok (.ldiv, 1) := by decide +kernel
theorem dX8_inLeastTerms_47 : decode cX8_inLeastTerms 47 = .ok (.lreturn, 1) := by decide +kernel
set_option maxRecDepth 20000 in
theorem ggX8_odds_X8_isPerson : GoodIn wsX8_odds wsX8_isPerson := goodIn_r _ [9, 2, 36, 37, 38, 39, 40, 41, 42, 43, 44, 45, 46, 47, 48, 49, 50, 51, 52, 53, 54, 55, 56] (by decide +kernel) (by decide +kernel)
set_option maxRecDepth 20000 in
theorem gX8_odds_X8_isPerson : GoodIn wsX8_odds (wsV RX8 63 RX8 yX8_isPerson wsX8_isPerson) := goodIn_app (goodIn_of _ (by decide +kernel)) ggX8_odds_X8_isPerson
set_option maxRecDepth 20000 in
theorem ggX8_odds_X8_within : GoodIn wsX8_odds wsX8_within := goodIn_r _ [12] (by decide +kernel) (by decide +kernel)
set_option maxRecDepth 20000 in
theorem gX8_odds_X8_within : GoodIn wsX8_odds (va_wsS RX8 56 yX8_within wsX8_within) := goodIn_app (goodIn_of _ (by decide +kernel)) ggX8_odds_X8_within
set_option maxRecDepth 20000 in
theorem ggX8_odds_X8_spot : GoodIn wsX8_odds wsX8_spot := goodIn_r _ [15] (by decide +kernel) (by decide +kernel)
set_option maxRecDepth 20000 in
theorem gX8_odds_X8_spot : GoodIn wsX8_odds (va_wsS RX8 110 yX8_spot wsX8_spot) := goodIn_app (goodIn_of _ (by decide +kernel)) ggX8_odds_X8_spot
set_option maxRecDepth 20000 in
theorem ggX8_odds_X8_keep : GoodIn wsX8_odds wsX8_keep := goodIn_r _ [19, 4, 3, 36, 37, 38, 39, 40, 41, 42, 43, 44, 45, 46, 47, 48, 49, 50, 51, 52, 53, 54, 55, 56] (by decide +kernel) (by decide +kernel)
set_option maxRecDepth 20000 in
theorem gX8_odds_X8_keep : GoodIn wsX8_odds (wsV RX8 142 RX8 yX8_keep wsX8_keep) := goodIn_app (goodIn_of _ (by decide +kernel)) ggX8_odds_X8_keep
set_option maxRecDepth 20000 in
theorem ggX8_odds_X8_lighterOf : GoodIn wsX8_odds wsX8_lighterOf := goodIn_r _ [23, 2, 24, 25, 26, 8, 27, 3, 28, 13, 14, 15, 36, 37, 38, 39, 40, 41, 42, 43, 44, 45, 46, 47, 48, 49, 50, 51, 52, 53, 54, 55, 56] (by decide +kernel) (by decide +kernel)
set_option maxRecDepth 20000 in
theorem gX8_odds_X8_lighterOf : GoodIn wsX8_odds (wsV RX8 117 RX8 yX8_lighterOf wsX8_lighterOf) := goodIn_app (goodIn_of _ (by decide +kernel)) ggX8_odds_X8_lighterOf
set_option maxRecDepth 20000 in
theorem ggX8_odds_X8_restore : GoodIn wsX8_odds wsX8_restore := goodIn_r _ [32, 3, 4, 36, 37, 38, 39, 40, 41, 42, 43, 44, 45, 46, 47, 48, 49, 50, 51, 52, 53, 54, 55, 56] (by decide +kernel) (by decide +kernel)
set_option maxRecDepth 20000 in
theorem gX8_odds_X8_restore : GoodIn wsX8_odds (wsV RX8 145 RX8 yX8_restore wsX8_restore) := goodIn_app (goodIn_of _ (by decide +kernel)) ggX8_odds_X8_restore
set_option maxRecDepth 20000 in
theorem ggX8_odds_X8_inLeastTerms : GoodIn wsX8_odds wsX8_inLeastTerms := goodIn_r _ [35] (by decide +kernel) (by decide +kernel)
set_option maxRecDepth 20000 in
theorem gX8_odds_X8_inLeastTerms : GoodIn wsX8_odds (va_wsS RX8 155 yX8_inLeastTerms wsX8_inLeastTerms) := goodIn_app (goodIn_of _ (by decide +kernel)) ggX8_odds_X8_inLeastTerms
theorem dX8_odds_0 : decode cX8_odds 0 = .ok (.aload_n 0, 1) := by decide +kernel
theorem dX8_odds_1 : decode cX8_odds 1 = .ok (.iload_n 1, 1) := by decide +kernel
theorem dX8_odds_2 : decode cX8_odds 2 = .ok (.invokevirtual 63, 3) := by decide +kernel
theorem dX8_odds_5 : decode cX8_odds 5 = .ok (.ifCond .eq 20, 3) := by decide +kernel
theorem dX8_odds_8 : decode cX8_odds 8 = .ok (.aload_n 0, 1) := by decide +kernel
theorem dX8_odds_9 : decode cX8_odds 9 = .ok (.iload_n 2, 1) := by decide +kernel
theorem dX8_odds_10 : decode cX8_odds 10 = .ok (.invokevirtual 63, 3) := by decide +kernel
theorem dX8_odds_13 : decode cX8_odds 13 = .ok (.ifCond .eq 12, 3) := by decide +kernel
theorem dX8_odds_16 : decode cX8_odds 16 = .ok (.iload_n 3, 1) := by decide +kernel
theorem dX8_odds_17 : decode cX8_odds 17 = .ok (.iconst 0, 1) := by decide +kernel
theorem dX8_odds_18 : decode cX8_odds 18 = .ok (.iconst 1, 1) := by decide +kernel
theorem dX8_odds_19 : decode cX8_odds 19 = .ok (.invokestatic 56, 3) := by decide +kernel
theorem dX8_odds_22 : decode cX8_odds 22 = .ok (.ifCond .ne 7, 3) := by decide +kernel
theorem dX8_odds_25 : decode cX8_odds 25 = .ok (.ldc2_w 54, 3) := by decide +kernel
theorem dX8_odds_28 : decode cX8_odds 28 = .ok (.lreturn, 1) := by decide +kernel
theorem dX8_odds_29 : decode cX8_odds 29 = .ok (.iconst 0, 1) := by decide +kernel
theorem dX8_odds_30 : decode cX8_odds 30 = .ok (.istore 4, 2) := by decide +kernel
theorem dX8_odds_32 : decode cX8_odds 32 = .ok (.iconst 0, 1) := by decide +kernel
theorem dX8_odds_33 : decode cX8_odds 33 = .ok (.istore 5, 2) := by decide +kernel
theorem dX8_odds_35 : decode cX8_odds 35 = .ok (.iload 5, 2) := by decide +kernel
theorem dX8_odds_37 : decode cX8_odds 37 = .ok (.aload_n 0, 1) := by decide +kernel
theorem dX8_odds_38 : decode cX8_odds 38 = .ok (.getfield 60, 3) := by decide +kernel
theorem dX8_odds_41 : decode cX8_odds 41 = .ok (.if_icmp .ge 36, 3) := by decide +kernel
theorem dX8_odds_44 : decode cX8_odds 44 = .ok (.iload 4, 2) := by decide +kernel
theorem dX8_odds_46 : decode cX8_odds 46 = .ok (.aload_n 0, 1) := by decide +kernel
theorem dX8_odds_47 : decode cX8_odds 47 = .ok (.getfield 22, 3) := by decide +kernel
theorem dX8_odds_50 : decode cX8_odds 50 = .ok (.iload 5, 2) := by decide +kernel
theorem dX8_odds_52 : decode cX8_odds 52 = .ok (.iload_n 1, 1) := by decide +kernel
theorem dX8_odds_53 : decode cX8_odds 53 = .ok (.invokestatic 110, 3) := by decide +kernel
theorem dX8_odds_56 : decode cX8_odds 56 = .ok (.iaload, 1) := by decide +kernel
theorem dX8_odds_57 : decode cX8_odds 57 = .ok (.ifCond .le 10, 3) := by decide +kernel
theorem dX8_odds_60 : decode cX8_odds 60 = .ok (.iconst 1, 1) := by decide +kernel
theorem dX8_odds_61 : decode cX8_odds 61 = .ok (.iload 5, 2) := by decide +kernel
theorem dX8_odds_63 : decode cX8_odds 63 = .ok (.ishl, 1) := by decide +kernel
theorem dX8_odds_64 : decode cX8_odds 64 = .ok (.goto 4, 3) := by decide +kernel
theorem dX8_odds_67 : decode cX8_odds 67 = .ok (.iconst 0, 1) := by decide +kernel
theorem dX8_odds_68 : decode cX8_odds 68 = .ok (.ior, 1) := by decide +kernel
theorem dX8_odds_69 : decode cX8_odds 69 = .ok (.istore 4, 2) := by decide +kernel
theorem dX8_odds_71 : decode cX8_odds 71 = .ok (.iinc 5 1, 3) := by decide +kernel
theorem dX8_odds_74 : decode cX8_odds 74 = .ok (.goto (-39), 3) := by decide +kernel
theorem dX8_odds_77 : decode cX8_odds 77 = .ok (.aload_n 0, 1) := by decide +kernel
theorem dX8_odds_78 : decode cX8_odds 78 = .ok (.invokevirtual 142, 3) := by decide +kernel
theorem dX8_odds_81 : decode cX8_odds 81 = .ok (.iconst 0, 1) := by decide +kernel
theorem dX8_odds_82 : decode cX8_odds 82 = .ok (.istore 5, 2) := by decide +kernel
theorem dX8_odds_84 : decode cX8_odds 84 = .ok (.iconst 0, 1) := by decide +kernel
theorem dX8_odds_85 : decode cX8_odds 85 = .ok (.istore 6, 2) := by decide +kernel
theorem dX8_odds_87 : decode cX8_odds 87 = .ok (.iconst 0, 1) := by decide +kernel
theorem dX8_odds_88 : decode cX8_odds 88 = .ok (.istore 7, 2) := by decide +kernel
theorem dX8_odds_90 : decode cX8_odds 90 = .ok (.iload 7, 2) := by decide +kernel
theorem dX8_odds_92 : decode cX8_odds 92 = .ok (.iconst 1, 1) := by decide +kernel
theorem dX8_odds_93 : decode cX8_odds 93 = .ok (.aload_n 0, 1) := by decide +kernel
theorem dX8_odds_94 : decode cX8_odds 94 = .ok (.getfield 60, 3) := by decide +kernel
theorem dX8_odds_97 : decode cX8_odds 97 = .ok (.ishl, 1) := by decide +kernel
theorem dX8_odds_98 : decode cX8_odds 98 = .ok (.if_icmp .ge 96, 3) := by decide +kernel
theorem dX8_odds_101 : decode cX8_odds 101 = .ok (.iload 7, 2) := by decide +kernel
theorem dX8_odds_103 : decode cX8_odds 103 = .ok (.iload 4, 2) := by decide +kernel
theorem dX8_odds_105 : decode cX8_odds 105 = .ok (.iconst (-1), 1) := by decide +kernel
theorem dX8_odds_106 : decode cX8_odds 106 = .ok (.ixor, 1) := by decide +kernel
theorem dX8_odds_107 : decode cX8_odds 107 = .ok (.iand, 1) := by decide +kernel
theorem dX8_odds_108 : decode cX8_odds 108 = .ok (.ifCond .ne 80, 3) := by decide +kernel
theorem dX8_odds_111 : decode cX8_odds 111 = .ok (.iinc 6 1, 3) := by decide +kernel
theorem dX8_odds_114 : decode cX8_odds 114 = .ok (.iconst 0, 1) := by decide +kernel
theorem dX8_odds_115 : decode cX8_odds 115 = .ok (.istore 8, 2) := by decide +kernel
theorem dX8_odds_117 : decode cX8_odds 117 = .ok (.iload 8, 2) := by decide +kernel
theorem dX8_odds_119 : decode cX8_odds 119 = .ok (.aload_n 0, 1) := by decide +kernel
theorem dX8_odds_120 : decode cX8_odds 120 = .ok (.getfield 60, 3) := by decide +kernel
theorem dX8_odds_123 : decode cX8_odds 123 = .ok (.if_icmp .ge 46, 3) := by decide +kernel
theorem dX8_odds_126 : decode cX8_odds 126 = .ok (.aload_n 0, 1) := by decide +kernel
theorem dX8_odds_127 : decode cX8_odds 127 = .ok (.getfield 22, 3) := by decide +kernel
theorem dX8_odds_130 : decode cX8_odds 130 = .ok (.iload 8, 2) := by decide +kernel
theorem dX8_odds_132 : decode cX8_odds 132 = .ok (.iload_n 1, 1) := by decide +kernel
theorem dX8_odds_133 : decode cX8_odds 133 = .ok (.invokestatic 110, 3) := by decide +kernel
theorem dX8_odds_136 : decode cX8_odds 136 = .ok (.iload 7, 2) := by decide +kernel
theorem dX8_odds_138 : decode cX8_odds 138 = .ok (.iload 8, 2) := by decide +kernel
theorem dX8_odds_140 : decode cX8_odds 140 = .ok (.ishr, 1) := by decide +kernel
theorem dX8_odds_141 : decode cX8_odds 141 = .ok (.iconst 1, 1) := by decide +kernel
theorem dX8_odds_142 : decode cX8_odds 142 = .ok (.iand, 1) := by decide +kernel
theorem dX8_odds_143 : decode cX8_odds 143 = .ok (.iconst 1, 1) := by decide +kernel
theorem dX8_odds_144 : decode cX8_odds 144 = .ok (.if_icmp .ne 7, 3) := by decide +kernel
theorem dX8_odds_147 : decode cX8_odds 147 = .ok (.iconst 0, 1) := by decide +kernel
theorem dX8_odds_148 : decode cX8_odds 148 = .ok (.goto 14, 3) := by decide +kernel
theorem dX8_odds_151 : decode cX8_odds 151 = .ok (.aload_n 0, 1) := by decide +kernel
theorem dX8_odds_152 : decode cX8_odds 152 = .ok (.getfield 38, 3) := by decide +kernel
theorem dX8_odds_155 : decode cX8_odds 155 = .ok (.iload 8, 2) := by decide +kernel
theorem dX8_odds_157 : decode cX8_odds 157 = .ok (.iload_n 1, 1) := by decide +kernel
theorem dX8_odds_158 : decode cX8_odds 158 = .ok (.invokestatic 110, 3) := by decide +kernel
theorem dX8_odds_161 : decode cX8_odds 161 = .ok (.iaload, 1) := by decide +kernel
theorem dX8_odds_162 : decode cX8_odds 162 = .ok (.iastore, 1) := by decide +kernel
theorem dX8_odds_163 : decode cX8_odds 163 = .ok (.iinc 8 1, 3) := by decide +kernel
theorem dX8_odds_166 : decode cX8_odds 166 = .ok (.goto (-49), 3) := by decide +kernel
theorem dX8_odds_169 : decode cX8_odds 169 = .ok (.iload 5, 2) := by decide +kernel
theorem dX8_odds_171 : decode cX8_odds 171 = .ok (.aload_n 0, 1) := by decide +kernel
theorem dX8_odds_172 : decode cX8_odds 172 = .ok (.iload_n 1, 1) := by decide +kernel
theorem dX8_odds_173 : decode cX8_odds 173 = .ok (.invokevirtual 117, 3) := by decide +kernel
theorem dX8_odds_176 : decode cX8_odds 176 = .ok (.iload_n 2, 1) := by decide +kernel
theorem dX8_odds_177 : decode cX8_odds 177 = .ok (.if_icmp .ne 7, 3) := by decide +kernel
theorem dX8_odds_180 : decode cX8_odds 180 = .ok (.iconst 1, 1) := by decide +kernel
theorem dX8_odds_181 : decode cX8_odds 181 = .ok (.goto 4, 3) := by decide +kernel
theorem dX8_odds_184 : decode cX8_odds 184 = .ok (.iconst 0, 1) := by decide +kernel
theorem dX8_odds_185 : decode cX8_odds 185 = .ok (.iadd, 1) := by decide +kernel
theorem dX8_odds_186 : decode cX8_odds 186 = .ok (.istore 5, 2) := by decide +kernel
theorem dX8_odds_188 : decode cX8_odds 188 = .ok (.iinc 7 1, 3) := by decide +kernel
theorem dX8_odds_191 : decode cX8_odds 191 = .ok (.goto (-101), 3) := by decide +kernel
theorem dX8_odds_194 : decode cX8_odds 194 = .ok (.aload_n 0, 1) := by decide +kernel
theorem dX8_odds_195 : decode cX8_odds 195 = .ok (.invokevirtual 145, 3) := by decide +kernel
theorem dX8_odds_198 : decode cX8_odds 198 = .ok (.iload 5, 2) := by decide +kernel
theorem dX8_odds_200 : decode cX8_odds 200 = .ok (.i2l, 1) := by decide +kernel
theorem dX8_odds_201 : decode cX8_odds 201 = .ok (.iload 6, 2) := by decide +kernel
theorem dX8_odds_203 : decode cX8_odds 203 = .ok (.i2l, 1) := by decide +kernel
theorem dX8_odds_204 : decode cX8_odds 204 = .ok (.iload_n 3, 1) := by decide +kernel
theorem dX8_odds_205 : decode cX8_odds 205 = .ok (.invokestatic 155, 3) := by decide +kernel
theorem dX8_odds_208 : decode cX8_odds 208 = .ok (.lreturn, 1) := by decide +kernel
set_option maxRecDepth 20000 in
theorem ggX8_sheet_X8_isSheet : GoodIn wsX8_sheet wsX8_isSheet := goodIn_r _ [8, 9, 10, 7, 11] (by decide +kernel) (by decide +kernel)
set_option maxRecDepth 20000 in
theorem gX8_sheet_X8_isSheet : GoodIn wsX8_sheet (va_wsS RX8 70 yX8_isSheet wsX8_isSheet) := goodIn_app (goodIn_of _ (by decide +kernel)) ggX8_sheet_X8_isSheet
set_option maxRecDepth 20000 in
theorem ggX8_sheet_X8_isSort : GoodIn wsX8_sheet wsX8_isSort := goodIn_r _ [14, 9, 10, 7, 11] (by decide +kernel) (by decide +kernel)
set_option maxRecDepth 20000 in
theorem gX8_sheet_X8_isSort : GoodIn wsX8_sheet (va_wsS RX8 73 yX8_isSort wsX8_isSort) := goodIn_app (goodIn_of _ (by decide +kernel)) ggX8_sheet_X8_isSort
set_option maxRecDepth 20000 in
theorem ggX8_sheet_X8_fails : GoodIn wsX8_sheet wsX8_fails := goodIn_r _ [18, 1, 19, 20, 21, 22, 23, 24, 25, 26, 27, 28, 29, 30, 31, 32, 33, 34, 35, 36, 37, 38, 39] (by decide +kernel) (by decide +kernel)
set_option maxRecDepth 20000 in
theorem gX8_sheet_X8_fails : GoodIn wsX8_sheet (wsV RX8 80 RX8 yX8_fails wsX8_fails) := goodIn_app (goodIn_of _ (by decide +kernel)) ggX8_sheet_X8_fails
theorem dX8_sheet_0 : decode cX8_sheet 0 = .ok (.aload_n 0, 1) := by decide +kernel
theorem dX8_sheet_1 : decode cX8_sheet 1 = .ok (.iconst 0, 1) := by decide +kernel
theorem dX8_sheet_2 : decode cX8_sheet 2 = .ok (.putfield 50, 3) := by decide +kernel
theorem dX8_sheet_5 : decode cX8_sheet 5 = .ok (.iload_n 1, 1) := by decide +kernel
theorem dX8_sheet_6 : decode cX8_sheet 6 = .ok (.invokestatic 70, 3) := by decide +kernel
theorem dX8_sheet_9 : decode cX8_sheet 9 = .ok (.ifCond .ne 5, 3) := by decide +kernel
theorem dX8_sheet_12 : decode cX8_sheet 12 = .ok (.iconst (-1), 1) := by decide +kernel
theorem dX8_sheet_13 : decode cX8_sheet 13 = .ok (.ireturn, 1) := by decide +kernel
theorem dX8_sheet_14 : decode cX8_sheet 14 = .ok (.iload_n 2, 1) := by decide +kernel
theorem dX8_sheet_15 : decode cX8_sheet 15 = .ok (.invokestatic 73, 3) := by decide +kernel
theorem dX8_sheet_18 : decode cX8_sheet 18 = .ok (.ifCond .eq 9, 3) := by decide +kernel
theorem dX8_sheet_21 : decode cX8_sheet 21 = .ok (.iload_n 3, 1) := by decide +kernel
theorem dX8_sheet_22 : decode cX8_sheet 22 = .ok (.bipush 60, 2) := by decide +kernel
theorem dX8_sheet_24 : decode cX8_sheet 24 = .ok (.if_icmp .le 6, 3) := by decide +kernel
theorem dX8_sheet_27 : decode cX8_sheet 27 = .ok (.bipush (-2), 2) := by decide +kernel
theorem dX8_sheet_29 : decode cX8_sheet 29 = .ok (.ireturn, 1) := by decide +kernel
theorem dX8_sheet_30 : decode cX8_sheet 30 = .ok (.iload_n 3, 1) := by decide +kernel
theorem dX8_sheet_31 : decode cX8_sheet 31 = .ok (.ifCond .ge 9, 3) := by decide +kernel
theorem dX8_sheet_34 : decode cX8_sheet 34 = .ok (.aload_n 0, 1) := by decide +kernel
theorem dX8_sheet_35 : decode cX8_sheet 35 = .ok (.iconst 4, 1) := by decide +kernel
theorem dX8_sheet_36 : decode cX8_sheet 36 = .ok (.invokevirtual 80, 3) := by decide +kernel
theorem dX8_sheet_39 : decode cX8_sheet 39 = .ok (.ireturn, 1) := by decide +kernel
theorem dX8_sheet_40 : decode cX8_sheet 40 = .ok (.aload_n 0, 1) := by decide +kernel
theorem dX8_sheet_41 : decode cX8_sheet 41 = .ok (.getfield 9, 3) := by decide +kernel
theorem dX8_sheet_44 : decode cX8_sheet 44 = .ok (.iload_n 1, 1) := by decide +kernel
theorem dX8_sheet_45 : decode cX8_sheet 45 = .ok (.iload_n 2, 1) := by decide +kernel
theorem dX8_sheet_46 : decode cX8_sheet 46 = .ok (.iastore, 1) := by decide +kernel
theorem dX8_sheet_47 : decode cX8_sheet 47 = .ok (.aload_n 0, 1) := by decide +kernel
theorem dX8_sheet_48 : decode cX8_sheet 48 = .ok (.getfield 13, 3) := by decide +kernel
theorem dX8_sheet_51 : decode cX8_sheet 51 = .ok (.iload_n 1, 1) := by decide +kernel
theorem dX8_sheet_52 : decode cX8_sheet 52 = .ok (.iload_n 3, 1) := by decide +kernel
theorem dX8_sheet_53 : decode cX8_sheet 53 = .ok (.iastore, 1) := by decide +kernel
theorem dX8_sheet_54 : decode cX8_sheet 54 = .ok (.iconst 0, 1) := by decide +kernel
theorem dX8_sheet_55 : decode cX8_sheet 55 = .ok (.istore 4, 2) := by decide +kernel
theorem dX8_sheet_57 : decode cX8_sheet 57 = .ok (.iload 4, 2) := by decide +kernel
theorem dX8_sheet_59 : decode cX8_sheet 59 = .ok (.bipush 60, 2) := by decide +kernel
theorem dX8_sheet_61 : decode cX8_sheet 61 = .ok (.if_icmp .ge 22, 3) := by decide +kernel
theorem dX8_sheet_64 : decode cX8_sheet 64 = .ok (.aload_n 0, 1) := by decide +kernel
theorem dX8_sheet_65 : decode cX8_sheet 65 = .ok (.getfield 16, 3) := by decide +kernel
theorem dX8_sheet_68 : decode cX8_sheet 68 = .ok (.bipush 60, 2) := by decide +kernel
theorem dX8_sheet_70 : decode cX8_sheet 70 = .ok (.iload_n 1, 1) := by decide +kernel
theorem dX8_sheet_71 : decode cX8_sheet 71 = .ok (.imul, 1) := by decide +kernel
theorem dX8_sheet_72 : decode cX8_sheet 72 = .ok (.iload 4, 2) := by decide +kernel
theorem dX8_sheet_74 : decode cX8_sheet 74 = .ok (.iadd, 1) := by decide +kernel
theorem dX8_sheet_75 : decode cX8_sheet 75 = .ok (.iconst 0, 1) := by decide +kernel
theorem dX8_sheet_76 : decode cX8_sheet 76 = .ok (.iastore, 1) := by decide +kernel
theorem dX8_sheet_77 : decode cX8_sheet 77 = .ok (.iinc 4 1, 3) := by decide +kernel
theorem dX8_sheet_80 : decode cX8_sheet 80 = .ok (.goto (-23), 3) := by decide +kernel
theorem dX8_sheet_83 : decode cX8_sheet 83 = .ok (.iconst 1, 1) := by decide +kernel
theorem dX8_sheet_84 : decode cX8_sheet 84 = .ok (.ireturn, 1) := by decide +kernel
set_option maxRecDepth 20000 in
theorem ggX8_lose_X8_isSheet : GoodIn wsX8_lose wsX8_isSheet := goodIn_r _ [5, 6, 7, 4, 8] (by decide +kernel) (by decide +kernel)
set_option maxRecDepth 20000 in
theorem gX8_lose_X8_isSheet : GoodIn wsX8_lose (va_wsS RX8 70 yX8_isSheet wsX8_isSheet) := goodIn_app (goodIn_of _ (by decide +kernel)) ggX8_lose_X8_isSheet
theorem dX8_lose_0 : decode cX8_lose 0 = .ok (.iload_n 1, 1) := by decide +kernel
theorem dX8_lose_1 : decode cX8_lose 1 = .ok (.invokestatic 70, 3) := by decide +kernel
theorem dX8_lose_4 : decode cX8_lose 4 = .ok (.ifCond .ne 5, 3) := by decide +kernel
theorem dX8_lose_7 : decode cX8_lose 7 = .ok (.iconst (-1), 1) := by decide +kernel
theorem dX8_lose_8 : decode cX8_lose 8 = .ok (.ireturn, 1) := by decide +kernel
theorem dX8_lose_9 : decode cX8_lose 9 = .ok (.aload_n 0, 1) := by decide +kernel
theorem dX8_lose_10 : decode cX8_lose 10 = .ok (.getfield 9, 3) := by decide +kernel
theorem dX8_lose_13 : decode cX8_lose 13 = .ok (.iload_n 1, 1) := by decide +kernel
theorem dX8_lose_14 : decode cX8_lose 14 = .ok (.iaload, 1) := by decide +kernel
theorem dX8_lose_15 : decode cX8_lose 15 = .ok (.bipush (-9), 2) := by decide +kernel
theorem dX8_lose_17 : decode cX8_lose 17 = .ok (.if_icmp .ne 7, 3) := by decide +kernel
theorem dX8_lose_20 : decode cX8_lose 20 = .ok (.iconst 0, 1) := by decide +kernel
theorem dX8_lose_21 : decode cX8_lose 21 = .ok (.goto 4, 3) := by decide +kernel
theorem dX8_lose_24 : decode cX8_lose 24 = .ok (.iconst 1, 1) := by decide +kernel
theorem dX8_lose_25 : decode cX8_lose 25 = .ok (.istore_n 2, 1) := by decide +kernel
theorem dX8_lose_26 : decode cX8_lose 26 = .ok (.aload_n 0, 1) := by decide +kernel
theorem dX8_lose_27 : decode cX8_lose 27 = .ok (.getfield 9, 3) := by decide +kernel
theorem dX8_lose_30 : decode cX8_lose 30 = .ok (.iload_n 1, 1) := by decide +kernel
theorem dX8_lose_31 : decode cX8_lose 31 = .ok (.bipush (-9), 2) := by decide +kernel
theorem dX8_lose_33 : decode cX8_lose 33 = .ok (.iastore, 1) := by decide +kernel
theorem dX8_lose_34 : decode cX8_lose 34 = .ok (.iload_n 2, 1) := by decide +kernel
theorem dX8_lose_35 : decode cX8_lose 35 = .ok (.ireturn, 1) := by decide +kernel
set_option maxRecDepth 20000 in
theorem ggX8_put_X8_isSheet : GoodIn wsX8_put wsX8_isSheet := goodIn_r _ [8, 9, 10, 7, 11] (by decide +kernel) (by decide +kernel)
set_option maxRecDepth 20000 in
theorem gX8_put_X8_isSheet : GoodIn wsX8_put (va_wsS RX8 70 yX8_isSheet wsX8_isSheet) := goodIn_app (goodIn_of _ (by decide +kernel)) ggX8_put_X8_isSheet
set_option maxRecDepth 20000 in
theorem ggX8_put_X8_fails : GoodIn wsX8_put wsX8_fails := goodIn_r _ [15, 1, 16, 17, 18, 19, 20, 21, 22, 23, 24, 25, 26, 27, 28, 29, 30, 31, 32, 33, 34, 35, 36] (by decide +kernel) (by decide +kernel)
set_option maxRecDepth 20000 in
theorem gX8_put_X8_fails : GoodIn wsX8_put (wsV RX8 80 RX8 yX8_fails wsX8_fails) := goodIn_app (goodIn_of _ (by decide +kernel)) ggX8_put_X8_fails
set_option maxRecDepth 20000 in
theorem ggX8_put_X8_within : GoodIn wsX8_put wsX8_within := goodIn_r _ [11] (by decide +kernel) (by decide +kernel)
set_option maxRecDepth 20000 in
theorem gX8_put_X8_within : GoodIn wsX8_put (va_wsS RX8 56 yX8_within wsX8_within) := goodIn_app (goodIn_of _ (by decide +kernel)) ggX8_put_X8_within
theorem dX8_put_0 : decode cX8_put 0 = .ok (.aload_n 0, 1) := by decide +kernel
theorem dX8_put_1 : decode cX8_put 1 = .ok (.iconst 0, 1) := by decide +kernel
theorem dX8_put_2 : decode cX8_put 2 = .ok (.putfield 50, 3) := by decide +kernel
theorem dX8_put_5 : decode cX8_put 5 = .ok (.iload_n 1, 1) := by decide +kernel
theorem dX8_put_6 : decode cX8_put 6 = .ok (.invokestatic 70, 3) := by decide +kernel
theorem dX8_put_9 : decode cX8_put 9 = .ok (.ifCond .ne 5, 3) := by decide +kernel
theorem dX8_put_12 : decode cX8_put 12 = .ok (.iconst (-1), 1) := by decide +kernel
theorem dX8_put_13 : decode cX8_put 13 = .ok (.ireturn, 1) := by decide +kernel
theorem dX8_put_14 : decode cX8_put 14 = .ok (.aload_n 0, 1) := by decide +kernel
theorem dX8_put_15 : decode cX8_put 15 = .ok (.getfield 9, 3) := by decide +kernel
theorem dX8_put_18 : decode cX8_put 18 = .ok (.iload_n 1, 1) := by decide +kernel
theorem dX8_put_19 : decode cX8_put 19 = .ok (.iaload, 1) := by decide +kernel
theorem dX8_put_20 : decode cX8_put 20 = .ok (.bipush (-9), 2) := by decide +kernel
theorem dX8_put_22 : decode cX8_put 22 = .ok (.if_icmp .ne 9, 3) := by decide +kernel
theorem dX8_put_25 : decode cX8_put 25 = .ok (.aload_n 0, 1) := by decide +kernel
theorem dX8_put_26 : decode cX8_put 26 = .ok (.iconst 1, 1) := by decide +kernel
theorem dX8_put_27 : decode cX8_put 27 = .ok (.invokevirtual 80, 3) := by decide +kernel
theorem dX8_put_30 : decode cX8_put 30 = .ok (.ireturn, 1) := by decide +kernel
theorem dX8_put_31 : decode cX8_put 31 = .ok (.iload_n 2, 1) := by decide +kernel
theorem dX8_put_32 : decode cX8_put 32 = .ok (.iconst 0, 1) := by decide +kernel
theorem dX8_put_33 : decode cX8_put 33 = .ok (.aload_n 0, 1) := by decide +kernel
theorem dX8_put_34 : decode cX8_put 34 = .ok (.getfield 13, 3) := by decide +kernel
theorem dX8_put_37 : decode cX8_put 37 = .ok (.iload_n 1, 1) := by decide +kernel
theorem dX8_put_38 : decode cX8_put 38 = .ok (.iaload, 1) := by decide +kernel
theorem dX8_put_39 : decode cX8_put 39 = .ok (.iconst 1, 1) := by decide +kernel
theorem dX8_put_40 : decode cX8_put 40 = .ok (.isub, 1) := by decide +kernel
theorem dX8_put_41 : decode cX8_put 41 = .ok (.invokestatic 56, 3) := by decide +kernel
theorem dX8_put_44 : decode cX8_put 44 = .ok (.ifCond .ne 9, 3) := by decide +kernel
theorem dX8_put_47 : decode cX8_put 47 = .ok (.aload_n 0, 1) := by decide +kernel
theorem dX8_put_48 : decode cX8_put 48 = .ok (.iconst 3, 1) := by decide +kernel
theorem dX8_put_49 : decode cX8_put 49 = .ok (.invokevirtual 80, 3) := by decide +kernel
theorem dX8_put_52 : decode cX8_put 52 = .ok (.ireturn, 1) := by decide +kernel
theorem dX8_put_53 : decode cX8_put 53 = .ok (.aload_n 0, 1) := by decide +kernel
theorem dX8_put_54 : decode cX8_put 54 = .ok (.getfield 16, 3) := by decide +kernel
theorem dX8_put_57 : decode cX8_put 57 = .ok (.bipush 60, 2) := by decide +kernel
theorem dX8_put_59 : decode cX8_put 59 = .ok (.iload_n 1, 1) := by decide +kernel
theorem dX8_put_60 : decode cX8_put 60 = .ok (.imul, 1) := by decide +kernel
theorem dX8_put_61 : decode cX8_put 61 = .ok (.iload_n 2, 1) := by decide +kernel
theorem dX8_put_62 : decode cX8_put 62 = .ok (.iadd, 1) := by decide +kernel
theorem dX8_put_63 : decode cX8_put 63 = .ok (.aload_n 0, 1) := by decide +kernel
theorem dX8_put_64 : decode cX8_put 64 = .ok (.getfield 9, 3) := by decide +kernel
theorem dX8_put_67 : decode cX8_put 67 = .ok (.iload_n 1, 1) := by decide +kernel
theorem dX8_put_68 : decode cX8_put 68 = .ok (.iaload, 1) := by decide +kernel
theorem dX8_put_69 : decode cX8_put 69 = .ok (.ifCond .ne 8, 3) := by decide +kernel
theorem dX8_put_72 : decode cX8_put 72 = .ok (.iload_n 3, 1) := by decide +kernel
theorem dX8_put_73 : decode cX8_put 73 = .ok (.i2b, 1) := by decide +kernel
theorem dX8_put_74 : decode cX8_put 74 = .ok (.goto 19, 3) := by decide +kernel
theorem dX8_put_77 : decode cX8_put 77 = .ok (.aload_n 0, 1) := by decide +kernel
theorem dX8_put_78 : decode cX8_put 78 = .ok (.getfield 9, 3) := by decide +kernel
theorem dX8_put_81 : decode cX8_put 81 = .ok (.iload_n 1, 1) := by decide +kernel
theorem dX8_put_82 : decode cX8_put 82 = .ok (.iaload, 1) := by decide +kernel
theorem dX8_put_83 : decode cX8_put 83 = .ok (.iconst 1, 1) := by decide +kernel
theorem dX8_put_84 : decode cX8_put 84 = .ok (.if_icmp .ne 8, 3) := by decide +kernel
theorem dX8_put_87 : decode cX8_put 87 = .ok (.iload_n 3, 1) := by decide +kernel
theorem dX8_put_88 : decode cX8_put 88 = .ok (.i2s, 1) := by decide +kernel
theorem dX8_put_89 : decode cX8_put 89 = .ok (.goto 4, 3) := by decide +kernel
theorem dX8_put_92 : decode cX8_put 92 = .ok (.iload_n 3, 1) := by decide +kernel
theorem dX8_put_93 : decode cX8_put 93 = .ok (.iastore, 1) := by decide +kernel
theorem dX8_put_94 : decode cX8_put 94 = .ok (.iconst 1, 1) := by decide +kernel
theorem dX8_put_95 : decode cX8_put 95 = .ok (.ireturn, 1) := by decide +kernel
set_option maxRecDepth 20000 in
theorem ggX8_cell_X8_isSheet : GoodIn wsX8_cell wsX8_isSheet := goodIn_r _ [9, 10, 11, 8, 12] (by decide +kernel) (by decide +kernel)
set_option maxRecDepth 20000 in
theorem gX8_cell_X8_isSheet : GoodIn wsX8_cell (va_wsS RX8 70 yX8_isSheet wsX8_isSheet) := goodIn_app (goodIn_of _ (by decide +kernel)) ggX8_cell_X8_isSheet
set_option maxRecDepth 20000 in
theorem ggX8_cell_X8_isSort : GoodIn wsX8_cell wsX8_isSort := goodIn_r _ [15, 10, 11, 8, 12] (by decide +kernel) (by decide +kernel)
set_option maxRecDepth 20000 in
theorem gX8_cell_X8_isSort : GoodIn wsX8_cell (va_wsS RX8 73 yX8_isSort wsX8_isSort) := goodIn_app (goodIn_of _ (by decide +kernel)) ggX8_cell_X8_isSort
set_option maxRecDepth 20000 in
theorem ggX8_cell_X8_lost : GoodIn wsX8_cell wsX8_lost := goodIn_r _ [19, 1, 2, 20, 21, 22, 23, 24, 25, 26, 27, 28, 29, 30, 31, 32, 33, 34, 35, 36, 37, 38, 39, 40] (by decide +kernel) (by decide +kernel)
set_option maxRecDepth 20000 in
theorem gX8_cell_X8_lost : GoodIn wsX8_cell (wsV RX8 159 RX8 yX8_lost wsX8_lost) := goodIn_app (goodIn_of _ (by decide +kernel)) ggX8_cell_X8_lost
set_option maxRecDepth 20000 in
theorem ggX8_cell_X8_within : GoodIn wsX8_cell wsX8_within := goodIn_r _ [12] (by decide +kernel) (by decide +kernel)
set_option maxRecDepth 20000 in
theorem gX8_cell_X8_within : GoodIn wsX8_cell (va_wsS RX8 56 yX8_within wsX8_within) := goodIn_app (goodIn_of _ (by decide +kernel)) ggX8_cell_X8_within
theorem dX8_cell_0 : decode cX8_cell 0 = .ok (.aload_n 0, 1) := by decide +kernel
theorem dX8_cell_1 : decode cX8_cell 1 = .ok (.iconst 0, 1) := by decide +kernel
theorem dX8_cell_2 : decode cX8_cell 2 = .ok (.putfield 50, 3) := by decide +kernel
theorem dX8_cell_5 : decode cX8_cell 5 = .ok (.iload_n 1, 1) := by decide +kernel
theorem dX8_cell_6 : decode cX8_cell 6 = .ok (.invokestatic 70, 3) := by decide +kernel
theorem dX8_cell_9 : decode cX8_cell 9 = .ok (.ifCond .eq 10, 3) := by decide +kernel
theorem dX8_cell_12 : decode cX8_cell 12 = .ok (.iload_n 3, 1) := by decide +kernel
theorem dX8_cell_13 : decode cX8_cell 13 = .ok (.invokestatic 73, 3) := by decide +kernel
theorem dX8_cell_16 : decode cX8_cell 16 = .ok (.ifCond .ne 7, 3) := by decide +kernel
theorem dX8_cell_19 : decode cX8_cell 19 = .ok (.ldc2_w 54, 3) := by decide +kernel
theorem dX8_cell_22 : decode cX8_cell 22 = .ok (.lreturn, 1) := by decide +kernel
theorem dX8_cell_23 : decode cX8_cell 23 = .ok (.aload_n 0, 1) := by decide +kernel
theorem dX8_cell_24 : decode cX8_cell 24 = .ok (.getfield 9, 3) := by decide +kernel
theorem dX8_cell_27 : decode cX8_cell 27 = .ok (.iload_n 1, 1) := by decide +kernel
theorem dX8_cell_28 : decode cX8_cell 28 = .ok (.iaload, 1) := by decide +kernel
theorem dX8_cell_29 : decode cX8_cell 29 = .ok (.bipush (-9), 2) := by decide +kernel
theorem dX8_cell_31 : decode cX8_cell 31 = .ok (.if_icmp .eq 19, 3) := by decide +kernel
theorem dX8_cell_34 : decode cX8_cell 34 = .ok (.aload_n 0, 1) := by decide +kernel
theorem dX8_cell_35 : decode cX8_cell 35 = .ok (.getfield 9, 3) := by decide +kernel
theorem dX8_cell_38 : decode cX8_cell 38 = .ok (.iload_n 1, 1) := by decide +kernel
theorem dX8_cell_39 : decode cX8_cell 39 = .ok (.iaload, 1) := by decide +kernel
theorem dX8_cell_40 : decode cX8_cell 40 = .ok (.iload_n 3, 1) := by decide +kernel
theorem dX8_cell_41 : decode cX8_cell 41 = .ok (.if_icmp .eq 9, 3) := by decide +kernel
theorem dX8_cell_44 : decode cX8_cell 44 = .ok (.aload_n 0, 1) := by decide +kernel
theorem dX8_cell_45 : decode cX8_cell 45 = .ok (.iconst 2, 1) := by decide +kernel
theorem dX8_cell_46 : decode cX8_cell 46 = .ok (.invokevirtual 159, 3) := by decide +kernel
theorem dX8_cell_49 : decode cX8_cell 49 = .ok (.lreturn, 1) := by decide +kernel
theorem dX8_cell_50 : decode cX8_cell 50 = .ok (.aload_n 0, 1) := by decide +kernel
theorem dX8_cell_51 : decode cX8_cell 51 = .ok (.getfield 9, 3) := by decide +kernel
theorem dX8_cell_54 : decode cX8_cell 54 = .ok (.iload_n 1, 1) := by decide +kernel
theorem dX8_cell_55 : decode cX8_cell 55 = .ok (.iaload, 1) := by decide +kernel
theorem dX8_cell_56 : decode cX8_cell 56 = .ok (.bipush (-9), 2) := by decide +kernel
theorem dX8_cell_58 : decode cX8_cell 58 = .ok (.if_icmp .ne 9, 3) := by decide +kernel
theorem dX8_cell_61 : decode cX8_cell 61 = .ok (.aload_n 0, 1) := by decide +kernel
theorem dX8_cell_62 : decode cX8_cell 62 = .ok (.iconst 1, 1) := by decide +kernel
theorem dX8_cell_63 : decode cX8_cell 63 = .ok (.invokevirtual 159, 3) := by decide +kernel
theorem dX8_cell_66 : decode cX8_cell 66 = .ok (.lreturn, 1) := by decide +kernel
theorem dX8_cell_67 : decode cX8_cell 67 = .ok (.iload_n 2, 1) := by decide +kernel
theorem dX8_cell_68 : decode cX8_cell 68 = .ok (.iconst 0, 1) := by decide +kernel
theorem dX8_cell_69 : decode cX8_cell 69 = .ok (.aload_n 0, 1) := by decide +kernel
theorem dX8_cell_70 : decode cX8_cell 70 = .ok (.getfield 13, 3) := by decide +kernel
theorem dX8_cell_73 : decode cX8_cell 73 = .ok (.iload_n 1, 1) := by decide +kernel
theorem dX8_cell_74 : decode cX8_cell 74 = .ok (.iaload, 1) := by decide +kernel
theorem dX8_cell_75 : decode cX8_cell 75 = .ok (.iconst 1, 1) := by decide +kernel
theorem dX8_cell_76 : decode cX8_cell 76 = .ok (.isub, 1) := by decide +kernel
theorem dX8_cell_77 : decode cX8_cell 77 = .ok (.invokestatic 56, 3) := by decide +kernel
theorem dX8_cell_80 : decode cX8_cell 80 = .ok (.ifCond .ne 9, 3) := by decide +kernel
theorem dX8_cell_83 : decode cX8_cell 83 = .ok (.aload_n 0, 1) := by decide +kernel
theorem dX8_cell_84 : decode cX8_cell 84 = .ok (.iconst 3, 1) := by decide +kernel
theorem dX8_cell_85 : decode cX8_cell 85 = .ok (.invokevirtual 159, 3) := by decide +kernel
theorem dX8_cell_88 : decode cX8_cell 88 = .ok (.lreturn, 1) := by decide +kernel
theorem dX8_cell_89 : decode cX8_cell 89 = .ok (.aload_n 0, 1) := by decide +kernel
theorem dX8_cell_90 : decode cX8_cell 90 = .ok (.getfield 16, 3) := by decide +kernel
theorem dX8_cell_93 : decode cX8_cell 93 = .ok (.bipush 60, 2) := by decide +kernel
theorem dX8_cell_95 : decode cX8_cell 95 = .ok (.iload_n 1, 1) := by decide +kernel
theorem dX8_cell_96 : decode cX8_cell 96 = .ok (.imul, 1) := by decide +kernel
theorem dX8_cell_97 : decode cX8_cell 97 = .ok (.iload_n 2, 1) := by decide +kernel
theorem dX8_cell_98 : decode cX8_cell 98 = .ok (.iadd, 1) := by decide +kernel
theorem dX8_cell_99 : decode cX8_cell 99 = .ok (.iaload, 1) := by decide +kernel
theorem dX8_cell_100 : decode cX8_cell 100 = .ok (.i2l, 1) := by decide +kernel
theorem dX8_cell_101 : decode cX8_cell 101 = .ok (.lreturn, 1) := by decide +kernel
set_option maxRecDepth 20000 in
theorem ggX8_copy_X8_isSheet : GoodIn wsX8_copy wsX8_isSheet := goodIn_r _ [8, 9, 10, 7, 11] (by decide +kernel) (by decide +kernel)
set_option maxRecDepth 20000 in
theorem gX8_copy_X8_isSheet : GoodIn wsX8_copy (va_wsS RX8 70 yX8_isSheet wsX8_isSheet) := goodIn_app (goodIn_of _ (by decide +kernel)) ggX8_copy_X8_isSheet
set_option maxRecDepth 20000 in
theorem ggX8_copy_X8_fails : GoodIn wsX8_copy wsX8_fails := goodIn_r _ [15, 1, 16, 17, 18, 19, 20, 21, 22, 23, 24, 25, 26, 27, 28, 29, 30, 31, 32, 33, 34, 35, 36] (by decide +kernel) (by decide +kernel)
set_option maxRecDepth 20000 in
theorem gX8_copy_X8_fails : GoodIn wsX8_copy (wsV RX8 80 RX8 yX8_fails wsX8_fails) := goodIn_app (goodIn_of _ (by decide +kernel)) ggX8_copy_X8_fails
theorem dX8_copy_0 : decode cX8_copy 0 = .ok (.aload_n 0, 1) := by decide +kernel
theorem dX8_copy_1 : decode cX8_copy 1 = .ok (.iconst 0, 1) := by decide +kernel
theorem dX8_copy_2 : decode cX8_copy 2 = .ok (.putfield 50, 3) := by decide +kernel
theorem dX8_copy_5 : decode cX8_copy 5 = .ok (.iload_n 1, 1) := by decide +kernel
theorem dX8_copy_6 : decode cX8_copy 6 = .ok (.invokestatic 70, 3) := by decide +kernel
theorem dX8_copy_9 : decode cX8_copy 9 = .ok (.ifCond .eq 10, 3) := by decide +kernel
theorem dX8_copy_12 : decode cX8_copy 12 = .ok (.iload_n 3, 1) := by decide +kernel
theorem dX8_copy_13 : decode cX8_copy 13 = .ok (.invokestatic 70, 3) := by decide +kernel
theorem dX8_copy_16 : decode cX8_copy 16 = .ok (.ifCond .ne 5, 3) := by decide +kernel
theorem dX8_copy_19 : decode cX8_copy 19 = .ok (.iconst (-1), 1) := by decide +kernel
theorem dX8_copy_20 : decode cX8_copy 20 = .ok (.ireturn, 1) := by decide +kernel
theorem dX8_copy_21 : decode cX8_copy 21 = .ok (.aload_n 0, 1) := by decide +kernel
theorem dX8_copy_22 : decode cX8_copy 22 = .ok (.getfield 9, 3) := by decide +kernel
theorem dX8_copy_25 : decode cX8_copy 25 = .ok (.iload_n 1, 1) := by decide +kernel
theorem dX8_copy_26 : decode cX8_copy 26 = .ok (.iaload, 1) := by decide +kernel
theorem dX8_copy_27 : decode cX8_copy 27 = .ok (.bipush (-9), 2) := by decide +kernel
theorem dX8_copy_29 : decode cX8_copy 29 = .ok (.if_icmp .eq 14, 3) := by decide +kernel
theorem dX8_copy_32 : decode cX8_copy 32 = .ok (.aload_n 0, 1) := by decide +kernel
theorem dX8_copy_33 : decode cX8_copy 33 = .ok (.getfield 9, 3) := by decide +kernel
theorem dX8_copy_36 : decode cX8_copy 36 = .ok (.iload_n 3, 1) := by decide +kernel
theorem dX8_copy_37 : decode cX8_copy 37 = .ok (.iaload, 1) := by decide +kernel
theorem dX8_copy_38 : decode cX8_copy 38 = .ok (.bipush (-9), 2) := by decide +kernel
theorem dX8_copy_40 : decode cX8_copy 40 = .ok (.if_icmp .ne 9, 3) := by decide +kernel
theorem dX8_copy_43 : decode cX8_copy 43 = .ok (.aload_n 0, 1) := by decide +kernel
theorem dX8_copy_44 : decode cX8_copy 44 = .ok (.iconst 1, 1) := by decide +kernel
theorem dX8_copy_45 : decode cX8_copy 45 = .ok (.invokevirtual 80, 3) := by decide +kernel
theorem dX8_copy_48 : decode cX8_copy 48 = .ok (.ireturn, 1) := by decide +kernel
theorem dX8_copy_49 : decode cX8_copy 49 = .ok (.aload_n 0, 1) := by decide +kernel
theorem dX8_copy_50 : decode cX8_copy 50 = .ok (.getfield 9, 3) := by decide +kernel
theorem dX8_copy_53 : decode cX8_copy 53 = .ok (.iload_n 1, 1) := by decide +kernel
theorem dX8_copy_54 : decode cX8_copy 54 = .ok (.iaload, 1) := by decide +kernel
theorem dX8_copy_55 : decode cX8_copy 55 = .ok (.aload_n 0, 1) := by decide +kernel
theorem dX8_copy_56 : decode cX8_copy 56 = .ok (.getfield 9, 3) := by decide +kernel
theorem dX8_copy_59 : decode cX8_copy 59 = .ok (.iload_n 3, 1) := by decide +kernel
theorem dX8_copy_60 : decode cX8_copy 60 = .ok (.iaload, 1) := by decide +kernel
theorem dX8_copy_61 : decode cX8_copy 61 = .ok (.if_icmp .eq 9, 3) := by decide +kernel
theorem dX8_copy_64 : decode cX8_copy 64 = .ok (.aload_n 0, 1) := by decide +kernel
theorem dX8_copy_65 : decode cX8_copy 65 = .ok (.iconst 2, 1) := by decide +kernel
theorem dX8_copy_66 : decode cX8_copy 66 = .ok (.invokevirtual 80, 3) := by decide +kernel
theorem dX8_copy_69 : decode cX8_copy 69 = .ok (.ireturn, 1) := by decide +kernel
theorem dX8_copy_70 : decode cX8_copy 70 = .ok (.iload_n 2, 1) := by decide +kernel
theorem dX8_copy_71 : decode cX8_copy 71 = .ok (.ifCond .lt 38, 3) := by decide +kernel
theorem dX8_copy_74 : decode cX8_copy 74 = .ok (.iload 4, 2) := by decide +kernel
theorem dX8_copy_76 : decode cX8_copy 76 = .ok (.ifCond .lt 33, 3) := by decide +kernel
theorem dX8_copy_79 : decode cX8_copy 79 = .ok (.iload 5, 2) := by decide +kernel
theorem dX8_copy_81 : decode cX8_copy 81 = .ok (.ifCond .lt 28, 3) := by decide +kernel
theorem dX8_copy_84 : decode cX8_copy 84 = .ok (.iload_n 2, 1) := by decide +kernel
theorem dX8_copy_85 : decode cX8_copy 85 = .ok (.aload_n 0, 1) := by decide +kernel
theorem dX8_copy_86 : decode cX8_copy 86 = .ok (.getfield 13, 3) := by decide +kernel
theorem dX8_copy_89 : decode cX8_copy 89 = .ok (.iload_n 1, 1) := by decide +kernel
theorem dX8_copy_90 : decode cX8_copy 90 = .ok (.iaload, 1) := by decide +kernel
theorem dX8_copy_91 : decode cX8_copy 91 = .ok (.if_icmp .gt 18, 3) := by decide +kernel
theorem dX8_copy_94 : decode cX8_copy 94 = .ok (.iload 4, 2) := by decide +kernel
theorem dX8_copy_96 : decode cX8_copy 96 = .ok (.aload_n 0, 1) := by decide +kernel
theorem dX8_copy_97 : decode cX8_copy 97 = .ok (.getfield 13, 3) := by decide +kernel
theorem dX8_copy_100 : decode cX8_copy 100 = .ok (.iload_n 3, 1) := by decide +kernel
theorem dX8_copy_101 : decode cX8_copy 101 = .ok (.iaload, 1) := by decide +kernel
theorem dX8_copy_102 : decode cX8_copy 102 = .ok (.if_icmp .gt 7, 3) := by decide +kernel
theorem dX8_copy_105 : decode cX8_copy 105 = .ok (.iconst 1, 1) := by decide +kernel
theorem dX8_copy_106 : decode cX8_copy 106 = .ok (.goto 4, 3) := by decide +kernel
theorem dX8_copy_109 : decode cX8_copy 109 = .ok (.iconst 0, 1) := by decide +kernel
theorem dX8_copy_110 : decode cX8_copy 110 = .ok (.istore 6, 2) := by decide +kernel
theorem dX8_copy_112 : decode cX8_copy 112 = .ok (.iload 6, 2) := by decide +kernel
theorem dX8_copy_114 : decode cX8_copy 114 = .ok (.ifCond .eq 30, 3) := by decide +kernel
theorem dX8_copy_117 : decode cX8_copy 117 = .ok (.iload 5, 2) := by decide +kernel
theorem dX8_copy_119 : decode cX8_copy 119 = .ok (.aload_n 0, 1) := by decide +kernel
theorem dX8_copy_120 : decode cX8_copy 120 = .ok (.getfield 13, 3) := by decide +kernel
theorem dX8_copy_123 : decode cX8_copy 123 = .ok (.iload_n 1, 1) := by decide +kernel
theorem dX8_copy_124 : decode cX8_copy 124 = .ok (.iaload, 1) := by decide +kernel
theorem dX8_copy_125 : decode cX8_copy 125 = .ok (.iload_n 2, 1) := by decide +kernel
theorem dX8_copy_126 : decode cX8_copy 126 = .ok (.isub, 1) := by decide +kernel
theorem dX8_copy_127 : decode cX8_copy 127 = .ok (.if_icmp .gt 17, 3) := by decide +kernel
theorem dX8_copy_130 : decode cX8_copy 130 = .ok (.iload 5, 2) := by decide +kernel
theorem dX8_copy_132 : decode cX8_copy 132 = .ok (.aload_n 0, 1) := by decide +kernel
theorem dX8_copy_133 : decode cX8_copy 133 = .ok (.getfield 13, 3) := by decide +kernel
theorem dX8_copy_136 : decode cX8_copy 136 = .ok (.iload_n 3, 1) := by decide +kernel
theorem dX8_copy_137 : decode cX8_copy 137 = .ok (.iaload, 1) := by decide +kernel
theorem dX8_copy_138 : decode cX8_copy 138 = .ok (.iload 4, 2) := by decide +kernel
theorem dX8_copy_140 : decode cX8_copy 140 = .ok (.isub, 1) := by decide +kernel
theorem dX8_copy_141 : decode cX8_copy 141 = .ok (.if_icmp .le 9, 3) := by decide +kernel
theorem dX8_copy_144 : decode cX8_copy 144 = .ok (.aload_n 0, 1) := by decide +kernel
theorem dX8_copy_145 : decode cX8_copy 145 = .ok (.iconst 3, 1) := by decide +kernel
theorem dX8_copy_146 : decode cX8_copy 146 = .ok (.invokevirtual 80, 3) := by decide +kernel
theorem dX8_copy_149 : decode cX8_copy 149 = .ok (.ireturn, 1) := by decide +kernel
theorem dX8_copy_150 : decode cX8_copy 150 = .ok (.iload_n 2, 1) := by decide +kernel
theorem dX8_copy_151 : decode cX8_copy 151 = .ok (.iload 4, 2) := by decide +kernel
theorem dX8_copy_153 : decode cX8_copy 153 = .ok (.if_icmp .ge 7, 3) := by decide +kernel
theorem dX8_copy_156 : decode cX8_copy 156 = .ok (.iconst 1, 1) := by decide +kernel
theorem dX8_copy_157 : decode cX8_copy 157 = .ok (.goto 4, 3) := by decide +kernel
theorem dX8_copy_160 : decode cX8_copy 160 = .ok (.iconst 0, 1) := by decide +kernel
theorem dX8_copy_161 : decode cX8_copy 161 = .ok (.istore 7, 2) := by decide +kernel
theorem dX8_copy_163 : decode cX8_copy 163 = .ok (.iconst 0, 1) := by decide +kernel
theorem dX8_copy_164 : decode cX8_copy 164 = .ok (.istore 8, 2) := by decide +kernel
theorem dX8_copy_166 : decode cX8_copy 166 = .ok (.iload 8, 2) := by decide +kernel
theorem dX8_copy_168 : decode cX8_copy 168 = .ok (.iload 5, 2) := by decide +kernel
theorem dX8_copy_170 : decode cX8_copy 170 = .ok (.if_icmp .ge 57, 3) := by decide +kernel
theorem dX8_copy_173 : decode cX8_copy 173 = .ok (.iload 7, 2) := by decide +kernel
theorem dX8_copy_175 : decode cX8_copy 175 = .ok (.ifCond .eq 13, 3) := by decide +kernel
theorem dX8_copy_178 : decode cX8_copy 178 = .ok (.iload 5, 2) := by decide +kernel
theorem dX8_copy_180 : decode cX8_copy 180 = .ok (.iconst 1, 1) := by decide +kernel
theorem dX8_copy_181 : decode cX8_copy 181 = .ok (.isub, 1) := by decide +kernel
theorem dX8_copy_182 : decode cX8_copy 182 = .ok (.iload 8, 2) := by decide +kernel
theorem dX8_copy_184 : decode cX8_copy 184 = .ok (.isub, 1) := by decide +kernel
theorem dX8_copy_185 : decode cX8_copy 185 = .ok (.goto 5, 3) := by decide +kernel
theorem dX8_copy_188 : decode cX8_copy 188 = .ok (.iload 8, 2) := by decide +kernel
theorem dX8_copy_190 : decode cX8_copy 190 = .ok (.istore 9, 2) := by decide +kernel
theorem dX8_copy_192 : decode cX8_copy 192 = .ok (.aload_n 0, 1) := by decide +kernel
theorem dX8_copy_193 : decode cX8_copy 193 = .ok (.getfield 16, 3) := by decide +kernel
theorem dX8_copy_196 : decode cX8_copy 196 = .ok (.bipush 60, 2) := by decide +kernel
theorem dX8_copy_198 : decode cX8_copy 198 = .ok (.iload_n 3, 1) := by decide +kernel
theorem dX8_copy_199 : decode cX8_copy 199 = .ok (.imul, 1) := by decide +kernel
theorem dX8_copy_200 : decode cX8_copy 200 = .ok (.iload 4, 2) := by decide +kernel
theorem dX8_copy_202 : decode cX8_copy 202 = .ok (.iadd, 1) := by decide +kernel
theorem dX8_copy_203 : decode cX8_copy 203 = .ok (.iload 9, 2) := by decide +kernel
theorem dX8_copy_205 : decode cX8_copy 205 = .ok (.iadd, 1) := by decide +kernel
theorem dX8_copy_206 : decode cX8_copy 206 = .ok (.aload_n 0, 1) := by decide +kernel
theorem dX8_copy_207 : decode cX8_copy 207 = .ok (.getfield 16, 3) := by decide +kernel
theorem dX8_copy_210 : decode cX8_copy 210 = .ok (.bipush 60, 2) := by decide +kernel
theorem dX8_copy_212 : decode cX8_copy 212 = .ok (.iload_n 1, 1) := by decide +kernel
theorem dX8_copy_213 : decode cX8_copy 213 = .ok (.imul, 1) := by decide +kernel
theorem dX8_copy_214 : decode cX8_copy 214 = .ok (.iload_n 2, 1) := by decide +kernel
theorem dX8_copy_215 : decode cX8_copy 215 = .ok (.iadd, 1) := by decide +kernel
theorem dX8_copy_216 : decode cX8_copy 216 = .ok (.iload 9, 2) := by decide +kernel
theorem dX8_copy_218 : decode cX8_copy 218 = .ok (.iadd, 1) := by decide +kernel
theorem dX8_copy_219 : decode cX8_copy 219 = .ok (.iaload, 1) := by decide +kernel
theorem dX8_copy_220 : decode cX8_copy 220 = .ok (.iastore, 1) := by decide +kernel
theorem dX8_copy_221 : decode cX8_copy 221 = .ok (.iinc 8 1, 3) := by decide +kernel
theorem dX8_copy_224 : decode cX8_copy 224 = .ok (.goto (-58), 3) := by decide +kernel
theorem dX8_copy_227 : decode cX8_copy 227 = .ok (.iload 5, 2) := by decide +kernel
theorem dX8_copy_229 : decode cX8_copy 229 = .ok (.ireturn, 1) := by decide +kernel
theorem dX8_begins_0 : decode cX8_begins 0 = .ok (.aload_n 0, 1) := by decide +kernel
theorem dX8_begins_1 : decode cX8_begins 1 = .ok (.bipush 31, 2) := by decide +kernel
theorem dX8_begins_3 : decode cX8_begins 3 = .ok (.aload_n 0, 1) := by decide +kernel
theorem dX8_begins_4 : decode cX8_begins 4 = .ok (.getfield 163, 3) := by decide +kernel
theorem dX8_begins_7 : decode cX8_begins 7 = .ok (.imul, 1) := by decide +kernel
theorem dX8_begins_8 : decode cX8_begins 8 = .ok (.iload_n 1, 1) := by decide +kernel
theorem dX8_begins_9 : decode cX8_begins 9 = .ok (.iadd, 1) := by decide +kernel
theorem dX8_begins_10 : decode cX8_begins 10 = .ok (.putfield 163, 3) := by decide +kernel
theorem dX8_begins_13 : decode cX8_begins 13 = .ok (.return_, 1) := by decide +kernel
set_option maxRecDepth 20000 in
theorem ggX8_tell_X8_isPerson : GoodIn wsX8_tell wsX8_isPerson := goodIn_r _ [6, 7, 21, 22, 23, 24, 25, 26, 27, 28, 29, 30, 31, 32, 33, 34, 35, 36, 37, 38, 39, 40, 41] (by decide +kernel) (by decide +kernel)
set_option maxRecDepth 20000 in
theorem gX8_tell_X8_isPerson : GoodIn wsX8_tell (wsV RX8 63 RX8 yX8_isPerson wsX8_isPerson) := goodIn_app (goodIn_of _ (by decide +kernel)) ggX8_tell_X8_isPerson
set_option maxRecDepth 20000 in
theorem ggX8_tell_X8_owesAll : GoodIn wsX8_tell wsX8_owesAll := goodIn_r _ [11, 7, 12, 13, 14, 5, 15, 21, 22, 23, 24, 25, 26, 27, 28, 29, 30, 31, 32, 33, 34, 35, 36, 37, 38, 39, 40, 41] (by decide +kernel) (by decide +kernel)
set_option maxRecDepth 20000 in
theorem gX8_tell_X8_owesAll : GoodIn wsX8_tell (wsV RX8 126 RX8 yX8_owesAll wsX8_owesAll) := goodIn_app (goodIn_of _ (by decide +kernel)) ggX8_tell_X8_owesAll
set_option maxRecDepth 20000 in
theorem ggX8_tell_X8_begins : GoodIn wsX8_tell wsX8_begins := goodIn_r _ [19, 20, 21, 22, 23, 24, 25, 26, 27, 28, 29, 30, 31, 32, 33, 34, 35, 36, 37, 38, 39, 40, 41] (by decide +kernel) (by decide +kernel)
set_option maxRecDepth 20000 in
theorem gX8_tell_X8_begins : GoodIn wsX8_tell (wsV RX8 166 RX8 yX8_begins wsX8_begins) := goodIn_app (goodIn_of _ (by decide +kernel)) ggX8_tell_X8_begins
theorem dX8_tell_0 : decode cX8_tell 0 = .ok (.aload_n 0, 1) := by decide +kernel
theorem dX8_tell_1 : decode cX8_tell 1 = .ok (.iload_n 1, 1) := by decide +kernel
theorem dX8_tell_2 : decode cX8_tell 2 = .ok (.invokevirtual 63, 3) := by decide +kernel
theorem dX8_tell_5 : decode cX8_tell 5 = .ok (.ifCond .ne 5, 3) := by decide +kernel
theorem dX8_tell_8 : decode cX8_tell 8 = .ok (.iconst (-1), 1) := by decide +kernel
theorem dX8_tell_9 : decode cX8_tell 9 = .ok (.ireturn, 1) := by decide +kernel
theorem dX8_tell_10 : decode cX8_tell 10 = .ok (.aload_n 0, 1) := by decide +kernel
theorem dX8_tell_11 : decode cX8_tell 11 = .ok (.iload_n 1, 1) := by decide +kernel
theorem dX8_tell_12 : decode cX8_tell 12 = .ok (.invokevirtual 126, 3) := by decide +kernel
theorem dX8_tell_15 : decode cX8_tell 15 = .ok (.istore_n 2, 1) := by decide +kernel
theorem dX8_tell_16 : decode cX8_tell 16 = .ok (.aload_n 0, 1) := by decide +kernel
theorem dX8_tell_17 : decode cX8_tell 17 = .ok (.getfield 19, 3) := by decide +kernel
theorem dX8_tell_20 : decode cX8_tell 20 = .ok (.iload_n 1, 1) := by decide +kernel
theorem dX8_tell_21 : decode cX8_tell 21 = .ok (.iaload, 1) := by decide +kernel
theorem dX8_tell_22 : decode cX8_tell 22 = .ok (.lookupswitch 68 #[(1, 26), (2, 41)], 26) := by decide +kernel
theorem dX8_tell_48 : decode cX8_tell 48 = .ok (.aload_n 0, 1) := by decide +kernel
theorem dX8_tell_49 : decode cX8_tell 49 = .ok (.iconst 2, 1) := by decide +kernel
theorem dX8_tell_50 : decode cX8_tell 50 = .ok (.invokevirtual 166, 3) := by decide +kernel
theorem dX8_tell_53 : decode cX8_tell 53 = .ok (.aload_n 0, 1) := by decide +kernel
theorem dX8_tell_54 : decode cX8_tell 54 = .ok (.iconst 1, 1) := by decide +kernel
theorem dX8_tell_55 : decode cX8_tell 55 = .ok (.invokevirtual 166, 3) := by decide +kernel
theorem dX8_tell_58 : decode cX8_tell 58 = .ok (.iload_n 2, 1) := by decide +kernel
theorem dX8_tell_59 : decode cX8_tell 59 = .ok (.bipush 100, 2) := by decide +kernel
theorem dX8_tell_61 : decode cX8_tell 61 = .ok (.iadd, 1) := by decide +kernel
theorem dX8_tell_62 : decode cX8_tell 62 = .ok (.ireturn, 1) := by decide +kernel
theorem dX8_tell_63 : decode cX8_tell 63 = .ok (.aload_n 0, 1) := by decide +kernel
theorem dX8_tell_64 : decode cX8_tell 64 = .ok (.iconst 3, 1) := by decide +kernel
theorem dX8_tell_65 : decode cX8_tell 65 = .ok (.invokevirtual 166, 3) := by decide +kernel
theorem dX8_tell_68 : decode cX8_tell 68 = .ok (.aload_n 0, 1) := by decide +kernel
theorem dX8_tell_69 : decode cX8_tell 69 = .ok (.iconst 2, 1) := by decide +kernel
theorem dX8_tell_70 : decode cX8_tell 70 = .ok (.invokevirtual 166, 3) := by decide +kernel
theorem dX8_tell_73 : decode cX8_tell 73 = .ok (.aload_n 0, 1) := by decide +kernel
theorem dX8_tell_74 : decode cX8_tell 74 = .ok (.iconst 1, 1) := by decide +kernel
theorem dX8_tell_75 : decode cX8_tell 75 = .ok (.invokevirtual 166, 3) := by decide +kernel
theorem dX8_tell_78 : decode cX8_tell 78 = .ok (.aload_n 0, 1) := by decide +kernel
theorem dX8_tell_79 : decode cX8_tell 79 = .ok (.iconst 1, 1) := by decide +kernel
theorem dX8_tell_80 : decode cX8_tell 80 = .ok (.invokevirtual 166, 3) := by decide +kernel
theorem dX8_tell_83 : decode cX8_tell 83 = .ok (.iconst 2, 1) := by decide +kernel
theorem dX8_tell_84 : decode cX8_tell 84 = .ok (.iload_n 2, 1) := by decide +kernel
theorem dX8_tell_85 : decode cX8_tell 85 = .ok (.imul, 1) := by decide +kernel
theorem dX8_tell_86 : decode cX8_tell 86 = .ok (.bipush 100, 2) := by decide +kernel
theorem dX8_tell_88 : decode cX8_tell 88 = .ok (.iadd, 1) := by decide +kernel
theorem dX8_tell_89 : decode cX8_tell 89 = .ok (.ireturn, 1) := by decide +kernel
theorem dX8_tell_90 : decode cX8_tell 90 = .ok (.aload_n 0, 1) := by decide +kernel
theorem dX8_tell_91 : decode cX8_tell 91 = .ok (.iconst 1, 1) := by decide +kernel
theorem dX8_tell_92 : decode cX8_tell 92 = .ok (.invokevirtual 166, 3) := by decide +kernel
theorem dX8_tell_95 : decode cX8_tell 95 = .ok (.iload_n 2, 1) := by decide +kernel
theorem dX8_tell_96 : decode cX8_tell 96 = .ok (.ireturn, 1) := by decide +kernel
set_option maxRecDepth 20000 in
theorem ggX8_hail_X8_isPerson : GoodIn wsX8_hail wsX8_isPerson := goodIn_r _ [6, 7, 13, 14, 15, 16, 17, 18, 19, 20, 21, 22, 23, 24, 25, 26, 27, 28, 29, 30, 31, 32, 33] (by decide +kernel) (by decide +kernel)
set_option maxRecDepth 20000 in
theorem gX8_hail_X8_isPerson : GoodIn wsX8_hail (wsV RX8 63 RX8 yX8_isPerson wsX8_isPerson) := goodIn_app (goodIn_of _ (by decide +kernel)) ggX8_hail_X8_isPerson
set_option maxRecDepth 20000 in
theorem ggX8_hail_X8_begins : GoodIn wsX8_hail wsX8_begins := goodIn_r _ [11, 12, 13, 14, 15, 16, 17, 18, 19, 20, 21, 22, 23, 24, 25, 26, 27, 28, 29, 30, 31, 32, 33] (by decide +kernel) (by decide +kernel)
set_option maxRecDepth 20000 in
theorem gX8_hail_X8_begins : GoodIn wsX8_hail (wsV RX8 166 RX8 yX8_begins wsX8_begins) := goodIn_app (goodIn_of _ (by decide +kernel)) ggX8_hail_X8_begins
theorem dX8_hail_0 : decode cX8_hail 0 = .ok (.aload_n 0, 1) := by decide +kernel
theorem dX8_hail_1 : decode cX8_hail 1 = .ok (.iload_n 1, 1) := by decide +kernel
theorem dX8_hail_2 : decode cX8_hail 2 = .ok (.invokevirtual 63, 3) := by decide +kernel
theorem dX8_hail_5 : decode cX8_hail 5 = .ok (.ifCond .ne 5, 3) := by decide +kernel
theorem dX8_hail_8 : decode cX8_hail 8 = .ok (.iconst (-1), 1) := by decide +kernel
theorem dX8_hail_9 : decode cX8_hail 9 = .ok (.ireturn, 1) := by decide +kernel
theorem dX8_hail_10 : decode cX8_hail 10 = .ok (.aload_n 0, 1) := by decide +kernel
theorem dX8_hail_11 : decode cX8_hail 11 = .ok (.aload_n 0, 1) := by decide +kernel
theorem dX8_hail_12 : decode cX8_hail 12 = .ok (.getfield 19, 3) := by decide +kernel
theorem dX8_hail_15 : decode cX8_hail 15 = .ok (.iload_n 1, 1) := by decide +kernel
theorem dX8_hail_16 : decode cX8_hail 16 = .ok (.iaload, 1) := by decide +kernel
theorem dX8_hail_17 : decode cX8_hail 17 = .ok (.iconst 2, 1) := by decide +kernel
theorem dX8_hail_18 : decode cX8_hail 18 = .ok (.if_icmp .ne 7, 3) := by decide +kernel
theorem dX8_hail_21 : decode cX8_hail 21 = .ok (.iconst 5, 1) := by decide +kernel
theorem dX8_hail_22 : decode cX8_hail 22 = .ok (.goto 4, 3) := by decide +kernel
theorem dX8_hail_25 : decode cX8_hail 25 = .ok (.iconst 4, 1) := by decide +kernel
theorem dX8_hail_26 : decode cX8_hail 26 = .ok (.invokevirtual 166, 3) := by decide +kernel
theorem dX8_hail_29 : decode cX8_hail 29 = .ok (.aload_n 0, 1) := by decide +kernel
theorem dX8_hail_30 : decode cX8_hail 30 = .ok (.getfield 19, 3) := by decide +kernel
theorem dX8_hail_33 : decode cX8_hail 33 = .ok (.iload_n 1, 1) := by decide +kernel
theorem dX8_hail_34 : decode cX8_hail 34 = .ok (.iaload, 1) := by decide +kernel
theorem dX8_hail_35 : decode cX8_hail 35 = .ok (.iconst 2, 1) := by decide +kernel
theorem dX8_hail_36 : decode cX8_hail 36 = .ok (.if_icmp .ne 8, 3) := by decide +kernel
theorem dX8_hail_39 : decode cX8_hail 39 = .ok (.bipush 50, 2) := by decide +kernel
theorem dX8_hail_41 : decode cX8_hail 41 = .ok (.goto 4, 3) := by decide +kernel
theorem dX8_hail_44 : decode cX8_hail 44 = .ok (.iload_n 1, 1) := by decide +kernel
theorem dX8_hail_45 : decode cX8_hail 45 = .ok (.ireturn, 1) := by decide +kernel
set_option maxRecDepth 20000 in
theorem ggX8_as_X8_isPerson : GoodIn wsX8_as wsX8_isPerson := goodIn_r _ [7, 8, 16, 17, 18, 19, 20, 21, 22, 23, 24, 25, 26, 27, 28, 29, 30, 31, 32, 33, 34, 35, 36] (by decide +kernel) (by decide +kernel)
set_option maxRecDepth 20000 in
theorem gX8_as_X8_isPerson : GoodIn wsX8_as (wsV RX8 63 RX8 yX8_isPerson wsX8_isPerson) := goodIn_app (goodIn_of _ (by decide +kernel)) ggX8_as_X8_isPerson
set_option maxRecDepth 20000 in
theorem ggX8_as_X8_within : GoodIn wsX8_as wsX8_within := goodIn_r _ [11] (by decide +kernel) (by decide +kernel)
set_option maxRecDepth 20000 in
theorem gX8_as_X8_within : GoodIn wsX8_as (va_wsS RX8 56 yX8_within wsX8_within) := goodIn_app (goodIn_of _ (by decide +kernel)) ggX8_as_X8_within
set_option maxRecDepth 20000 in
theorem ggX8_as_X8_fails : GoodIn wsX8_as wsX8_fails := goodIn_r _ [15, 1, 16, 17, 18, 19, 20, 21, 22, 23, 24, 25, 26, 27, 28, 29, 30, 31, 32, 33, 34, 35, 36] (by decide +kernel) (by decide +kernel)
set_option maxRecDepth 20000 in
theorem gX8_as_X8_fails : GoodIn wsX8_as (wsV RX8 80 RX8 yX8_fails wsX8_fails) := goodIn_app (goodIn_of _ (by decide +kernel)) ggX8_as_X8_fails
theorem dX8_as_0 : decode cX8_as 0 = .ok (.aload_n 0, 1) := by decide +kernel
theorem dX8_as_1 : decode cX8_as 1 = .ok (.iconst 0, 1) := by decide +kernel
theorem dX8_as_2 : decode cX8_as 2 = .ok (.putfield 50, 3) := by decide +kernel
theorem dX8_as_5 : decode cX8_as 5 = .ok (.aload_n 0, 1) := by decide +kernel
theorem dX8_as_6 : decode cX8_as 6 = .ok (.iload_n 1, 1) := by decide +kernel
theorem dX8_as_7 : decode cX8_as 7 = .ok (.invokevirtual 63, 3) := by decide +kernel
theorem dX8_as_10 : decode cX8_as 10 = .ok (.ifCond .ne 5, 3) := by decide +kernel
theorem dX8_as_13 : decode cX8_as 13 = .ok (.iconst (-1), 1) := by decide +kernel
theorem dX8_as_14 : decode cX8_as 14 = .ok (.ireturn, 1) := by decide +kernel
theorem dX8_as_15 : decode cX8_as 15 = .ok (.iload_n 2, 1) := by decide +kernel
theorem dX8_as_16 : decode cX8_as 16 = .ok (.iconst 0, 1) := by decide +kernel
theorem dX8_as_17 : decode cX8_as 17 = .ok (.iconst 2, 1) := by decide +kernel
theorem dX8_as_18 : decode cX8_as 18 = .ok (.invokestatic 56, 3) := by decide +kernel
theorem dX8_as_21 : decode cX8_as 21 = .ok (.ifCond .ne 6, 3) := by decide +kernel
theorem dX8_as_24 : decode cX8_as 24 = .ok (.bipush (-2), 2) := by decide +kernel
theorem dX8_as_26 : decode cX8_as 26 = .ok (.ireturn, 1) := by decide +kernel
theorem dX8_as_27 : decode cX8_as 27 = .ok (.aload_n 0, 1) := by decide +kernel
theorem dX8_as_28 : decode cX8_as 28 = .ok (.getfield 19, 3) := by decide +kernel
theorem dX8_as_31 : decode cX8_as 31 = .ok (.iload_n 1, 1) := by decide +kernel
theorem dX8_as_32 : decode cX8_as 32 = .ok (.iaload, 1) := by decide +kernel
theorem dX8_as_33 : decode cX8_as 33 = .ok (.iload_n 2, 1) := by decide +kernel
theorem dX8_as_34 : decode cX8_as 34 = .ok (.if_icmp .lt 7, 3) := by decide +kernel
theorem dX8_as_37 : decode cX8_as 37 = .ok (.iconst 1, 1) := by decide +kernel
theorem dX8_as_38 : decode cX8_as 38 = .ok (.goto 8, 3) := by decide +kernel
theorem dX8_as_41 : decode cX8_as 41 = .ok (.aload_n 0, 1) := by decide +kernel
theorem dX8_as_42 : decode cX8_as 42 = .ok (.iconst 2, 1) := by decide +kernel
theorem dX8_as_43 : decode cX8_as 43 = .ok (.invokevirtual 80, 3) := by decide +kernel
theorem dX8_as_46 : decode cX8_as 46 = .ok (.ireturn, 1) := by decide +kernel
theorem dX8_trace_0 : decode cX8_trace 0 = .ok (.aload_n 0, 1) := by decide +kernel
theorem dX8_trace_1 : decode cX8_trace 1 = .ok (.getfield 163, 3) := by decide +kernel
theorem dX8_trace_4 : decode cX8_trace 4 = .ok (.ireturn, 1) := by decide +kernel
theorem dX8_fault_0 : decode cX8_fault 0 = .ok (.aload_n 0, 1) := by decide +kernel
theorem dX8_fault_1 : decode cX8_fault 1 = .ok (.getfield 50, 3) := by decide +kernel
theorem dX8_fault_4 : decode cX8_fault 4 = .ok (.ireturn, 1) := by decide +kernel
set_option maxRecDepth 20000 in
theorem ggX8_litNow_X8_lighterOf : GoodIn wsX8_litNow wsX8_lighterOf := goodIn_r _ [6, 1, 7, 8, 9, 5, 10, 11, 12, 13, 14, 15, 16, 17, 18, 19, 20, 21, 22, 23, 24, 25, 26, 27, 28, 29, 30, 31, 32, 33, 34, 35, 36] (by decide +kernel) (by decide +kernel)
set_option maxRecDepth 20000 in
theorem gX8_litNow_X8_lighterOf : GoodIn wsX8_litNow (wsV RX8 117 RX8 yX8_lighterOf wsX8_lighterOf) := goodIn_app (goodIn_of _ (by decide +kernel)) ggX8_litNow_X8_lighterOf
theorem dX8_litNow_0 : decode cX8_litNow 0 = .ok (.iconst 0, 1) := by decide +kernel
theorem dX8_litNow_1 : decode cX8_litNow 1 = .ok (.istore_n 1, 1) := by decide +kernel
theorem dX8_litNow_2 : decode cX8_litNow 2 = .ok (.iconst 0, 1) := by decide +kernel
theorem dX8_litNow_3 : decode cX8_litNow 3 = .ok (.istore_n 2, 1) := by decide +kernel
theorem dX8_litNow_4 : decode cX8_litNow 4 = .ok (.iload_n 2, 1) := by decide +kernel
theorem dX8_litNow_5 : decode cX8_litNow 5 = .ok (.aload_n 0, 1) := by decide +kernel
theorem dX8_litNow_6 : decode cX8_litNow 6 = .ok (.getfield 60, 3) := by decide +kernel
theorem dX8_litNow_9 : decode cX8_litNow 9 = .ok (.if_icmp .ge 27, 3) := by decide +kernel
theorem dX8_litNow_12 : decode cX8_litNow 12 = .ok (.iload_n 1, 1) := by decide +kernel
theorem dX8_litNow_13 : decode cX8_litNow 13 = .ok (.aload_n 0, 1) := by decide +kernel
theorem dX8_litNow_14 : decode cX8_litNow 14 = .ok (.iload_n 2, 1) := by decide +kernel
theorem dX8_litNow_15 : decode cX8_litNow 15 = .ok (.invokevirtual 117, 3) := by decide +kernel
theorem dX8_litNow_18 : decode cX8_litNow 18 = .ok (.bipush (-9), 2) := by decide +kernel
theorem dX8_litNow_20 : decode cX8_litNow 20 = .ok (.if_icmp .ne 7, 3) := by decide +kernel
theorem dX8_litNow_23 : decode cX8_litNow 23 = .ok (.iconst 0, 1) := by decide +kernel
theorem dX8_litNow_24 : decode cX8_litNow 24 = .ok (.goto 4, 3) := by decide +kernel
theorem dX8_litNow_27 : decode cX8_litNow 27 = .ok (.iconst 1, 1) := by decide +kernel
theorem dX8_litNow_28 : decode cX8_litNow 28 = .ok (.iadd, 1) := by decide +kernel
theorem dX8_litNow_29 : decode cX8_litNow 29 = .ok (.istore_n 1, 1) := by decide +kernel
theorem dX8_litNow_30 : decode cX8_litNow 30 = .ok (.iinc 2 1, 3) := by decide +kernel
theorem dX8_litNow_33 : decode cX8_litNow 33 = .ok (.goto (-29), 3) := by decide +kernel
theorem dX8_litNow_36 : decode cX8_litNow 36 = .ok (.iload_n 1, 1) := by decide +kernel
theorem dX8_litNow_37 : decode cX8_litNow 37 = .ok (.ireturn, 1) := by decide +kernel
set_option maxRecDepth 20000 in
theorem ggX8_many_X8_litNow : GoodIn wsX8_many wsX8_litNow := goodIn_r _ [8, 1, 9, 10, 11, 7, 12, 13, 14, 15, 16, 17, 18, 19, 20, 21, 22, 23, 24, 25, 26, 27, 28, 29, 30, 31, 32, 33, 34, 35, 36, 37, 38, 39, 40, 41, 42] (by decide +kernel) (by decide +kernel)
set_option maxRecDepth 20000 in
theorem gX8_many_X8_litNow : GoodIn wsX8_many (wsV RX8 170 RX8 yX8_litNow wsX8_litNow) := goodIn_app (goodIn_of _ (by decide +kernel)) ggX8_many_X8_litNow
theorem dX8_many_0 : decode cX8_many 0 = .ok (.iload_n 1, 1) := by decide +kernel
theorem dX8_many_1 : decode cX8_many 1 = .ok (.ifCond .ne 10, 3) := by decide +kernel
theorem dX8_many_4 : decode cX8_many 4 = .ok (.aload_n 0, 1) := by decide +kernel
theorem dX8_many_5 : decode cX8_many 5 = .ok (.getfield 60, 3) := by decide +kernel
theorem dX8_many_8 : decode cX8_many 8 = .ok (.goto 41, 3) := by decide +kernel
theorem dX8_many_11 : decode cX8_many 11 = .ok (.iload_n 1, 1) := by decide +kernel
theorem dX8_many_12 : decode cX8_many 12 = .ok (.iconst 1, 1) := by decide +kernel
theorem dX8_many_13 : decode cX8_many 13 = .ok (.if_icmp .ne 10, 3) := by decide +kernel
theorem dX8_many_16 : decode cX8_many 16 = .ok (.aload_n 0, 1) := by decide +kernel
theorem dX8_many_17 : decode cX8_many 17 = .ok (.getfield 93, 3) := by decide +kernel
theorem dX8_many_20 : decode cX8_many 20 = .ok (.goto 29, 3) := by decide +kernel
theorem dX8_many_23 : decode cX8_many 23 = .ok (.iload_n 1, 1) := by decide +kernel
theorem dX8_many_24 : decode cX8_many 24 = .ok (.iconst 2, 1) := by decide +kernel
theorem dX8_many_25 : decode cX8_many 25 = .ok (.if_icmp .ne 10, 3) := by decide +kernel
theorem dX8_many_28 : decode cX8_many 28 = .ok (.aload_n 0, 1) := by decide +kernel
theorem dX8_many_29 : decode cX8_many 29 = .ok (.invokevirtual 170, 3) := by decide +kernel
theorem dX8_many_32 : decode cX8_many 32 = .ok (.goto 17, 3) := by decide +kernel
theorem dX8_many_35 : decode cX8_many 35 = .ok (.iload_n 1, 1) := by decide +kernel
theorem dX8_many_36 : decode cX8_many 36 = .ok (.iconst 3, 1) := by decide +kernel
theorem dX8_many_37 : decode cX8_many 37 = .ok (.if_icmp .ne 10, 3) := by decide +kernel
theorem dX8_many_40 : decode cX8_many 40 = .ok (.aload_n 0, 1) := by decide +kernel
theorem dX8_many_41 : decode cX8_many 41 = .ok (.getfield 96, 3) := by decide +kernel
theorem dX8_many_44 : decode cX8_many 44 = .ok (.goto 5, 3) := by decide +kernel
theorem dX8_many_47 : decode cX8_many 47 = .ok (.bipush (-2), 2) := by decide +kernel
theorem dX8_many_49 : decode cX8_many 49 = .ok (.ireturn, 1) := by decide +kernel
end
section
theorem dJ6_bitCount_0f7a4_0 : decode cJ6_bitCount_0f7a4 0 = .ok (.iload_n 0, 1) := by decide +kernel
theorem dJ6_bitCount_0f7a4_1 : decode cJ6_bitCount_0f7a4 1 = .ok (.iload_n 0, 1) := by decide +kernel
theorem dJ6_bitCount_0f7a4_2 : decode cJ6_bitCount_0f7a4 2 = .ok (.iconst 1, 1) := by decide +kernel
theorem dJ6_bitCount_0f7a4_3 : decode cJ6_bitCount_0f7a4 3 = .ok (.iushr, 1) := by decide +kernel
theorem dJ6_bitCount_0f7a4_4 : decode cJ6_bitCount_0f7a4 4 = .ok (.ldc_w 265, 3) := by decide +kernel
theorem dJ6_bitCount_0f7a4_7 : decode cJ6_bitCount_0f7a4 7 = .ok (.iand, 1) := by decide +kernel
theorem dJ6_bitCount_0f7a4_8 : decode cJ6_bitCount_0f7a4 8 = .ok (.isub, 1) := by decide +kernel
theorem dJ6_bitCount_0f7a4_9 : decode cJ6_bitCount_0f7a4 9 = .ok (.istore_n 0, 1) := by decide +kernel
theorem dJ6_bitCount_0f7a4_10 : decode cJ6_bitCount_0f7a4 10 = .ok (.iload_n 0, 1) := by decide +kernel
theorem dJ6_bitCount_0f7a4_11 : decode cJ6_bitCount_0f7a4 11 = .ok (.ldc_w 266, 3) := by decide +kernel
theorem dJ6_bitCount_0f7a4_14 : decode cJ6_bitCount_0f7a4 14 = .ok (.iand, 1) := by decide +kernel
theorem dJ6_bitCount_0f7a4_15 : decode cJ6_bitCount_0f7a4 15 = .ok (.iload_n 0, 1) := by decide +kernel
theorem dJ6_bitCount_0f7a4_16 : decode cJ6_bitCount_0f7a4 16 = .ok (.iconst 2, 1) := by decide +kernel
theorem dJ6_bitCount_0f7a4_17 : decode cJ6_bitCount_0f7a4 17 = .ok (.iushr, 1) := by decide +kernel
theorem dJ6_bitCount_0f7a4_18 : decode cJ6_bitCount_0f7a4 18 = .ok (.ldc_w 266, 3) := by decide +kernel
theorem dJ6_bitCount_0f7a4_21 : decode cJ6_bitCount_0f7a4 21 = .ok (.iand, 1) := by decide +kernel
theorem dJ6_bitCount_0f7a4_22 : decode cJ6_bitCount_0f7a4 22 = .ok (.iadd, 1) := by decide +kernel
theorem dJ6_bitCount_0f7a4_23 : decode cJ6_bitCount_0f7a4 23 = .ok (.istore_n 0, 1) := by decide +kernel
theorem dJ6_bitCount_0f7a4_24 : decode cJ6_bitCount_0f7a4 24 = .ok (.iload_n 0, 1) := by decide +kernel
theorem dJ6_bitCount_0f7a4_25 : decode cJ6_bitCount_0f7a4 25 = .ok (.iload_n 0, 1) := by decide +kernel
theorem dJ6_bitCount_0f7a4_26 : decode cJ6_bitCount_0f7a4 26 = .ok (.iconst 4, 1) := by decide +kernel
theorem dJ6_bitCount_0f7a4_27 : decode cJ6_bitCount_0f7a4 27 = .ok (.iushr, 1) := by decide +kernel
theorem dJ6_bitCount_0f7a4_28 : decode cJ6_bitCount_0f7a4 28 = .ok (.iadd, 1) := by decide +kernel
theorem dJ6_bitCount_0f7a4_29 : decode cJ6_bitCount_0f7a4 29 = .ok (.ldc_w 267, 3) := by decide +kernel
theorem dJ6_bitCount_0f7a4_32 : decode cJ6_bitCount_0f7a4 32 = .ok (.iand, 1) := by decide +kernel
theorem dJ6_bitCount_0f7a4_33 : decode cJ6_bitCount_0f7a4 33 = .ok (.istore_n 0, 1) := by decide +kernel
theorem dJ6_bitCount_0f7a4_34 : decode cJ6_bitCount_0f7a4 34 = .ok (.iload_n 0, 1) := by decide +kernel
theorem dJ6_bitCount_0f7a4_35 : decode cJ6_bitCount_0f7a4 35 = .ok (.iload_n 0, 1) := by decide +kernel
theorem dJ6_bitCount_0f7a4_36 : decode cJ6_bitCount_0f7a4 36 = .ok (.bipush 8, 2) := by decide +kernel
theorem dJ6_bitCount_0f7a4_38 : decode cJ6_bitCount_0f7a4 38 = .ok (.iushr, 1) := by decide +kernel
theorem dJ6_bitCount_0f7a4_39 : decode cJ6_bitCount_0f7a4 39 = .ok (.iadd, 1) := by decide +kernel
theorem dJ6_bitCount_0f7a4_40 : decode cJ6_bitCount_0f7a4 40 = .ok (.istore_n 0, 1) := by decide +kernel
theorem dJ6_bitCount_0f7a4_41 : decode cJ6_bitCount_0f7a4 41 = .ok (.iload_n 0, 1) := by decide +kernel
theorem dJ6_bitCount_0f7a4_42 : decode cJ6_bitCount_0f7a4 42 = .ok (.iload_n 0, 1) := by decide +kernel
theorem dJ6_bitCount_0f7a4_43 : decode cJ6_bitCount_0f7a4 43 = .ok (.bipush 16, 2) := by decide +kernel
theorem dJ6_bitCount_0f7a4_45 : decode cJ6_bitCount_0f7a4 45 = .ok (.iushr, 1) := by decide +kernel
theorem dJ6_bitCount_0f7a4_46 : decode cJ6_bitCount_0f7a4 46 = .ok (.iadd, 1) := by decide +kernel
theorem dJ6_bitCount_0f7a4_47 : decode cJ6_bitCount_0f7a4 47 = .ok (.istore_n 0, 1) := by decide +kernel
theorem dJ6_bitCount_0f7a4_48 : decode cJ6_bitCount_0f7a4 48 = .ok (.iload_n 0, 1) := by decide +kernel
theorem dJ6_bitCount_0f7a4_49 : decode cJ6_bitCount_0f7a4 49 = .ok (.bipush 63, 2) := by decide +kernel
theorem dJ6_bitCount_0f7a4_51 : decode cJ6_bitCount_0f7a4 51 = .ok (.iand, 1) := by decide +kernel
theorem dJ6_bitCount_0f7a4_52 : decode cJ6_bitCount_0f7a4 52 = .ok (.ireturn, 1) := by decide +kernel
theorem dJ9_abs_0f7a4_0 : decode cJ9_abs_0f7a4 0 = .ok (.iload_n 0, 1) := by decide +kernel
theorem dJ9_abs_0f7a4_1 : decode cJ9_abs_0f7a4 1 = .ok (.ifCond .ge 8, 3) := by decide +kernel
theorem dJ9_abs_0f7a4_4 : decode cJ9_abs_0f7a4 4 = .ok (.iload_n 0, 1) := by decide +kernel
theorem dJ9_abs_0f7a4_5 : decode cJ9_abs_0f7a4 5 = .ok (.ineg, 1) := by decide +kernel
theorem dJ9_abs_0f7a4_6 : decode cJ9_abs_0f7a4 6 = .ok (.goto 4, 3) := by decide +kernel
theorem dJ9_abs_0f7a4_9 : decode cJ9_abs_0f7a4 9 = .ok (.iload_n 0, 1) := by decide +kernel
theorem dJ9_abs_0f7a4_10 : decode cJ9_abs_0f7a4 10 = .ok (.ireturn, 1) := by decide +kernel
theorem dJ9_max_7cf53_0 : decode cJ9_max_7cf53 0 = .ok (.iload_n 0, 1) := by decide +kernel
theorem dJ9_max_7cf53_1 : decode cJ9_max_7cf53 1 = .ok (.iload_n 1, 1) := by decide +kernel
theorem dJ9_max_7cf53_2 : decode cJ9_max_7cf53 2 = .ok (.if_icmp .lt 7, 3) := by decide +kernel
theorem dJ9_max_7cf53_5 : decode cJ9_max_7cf53 5 = .ok (.iload_n 0, 1) := by decide +kernel
theorem dJ9_max_7cf53_6 : decode cJ9_max_7cf53 6 = .ok (.goto 4, 3) := by decide +kernel
theorem dJ9_max_7cf53_9 : decode cJ9_max_7cf53 9 = .ok (.iload_n 1, 1) := by decide +kernel
theorem dJ9_max_7cf53_10 : decode cJ9_max_7cf53 10 = .ok (.ireturn, 1) := by decide +kernel
theorem dJ9_min_7cf53_0 : decode cJ9_min_7cf53 0 = .ok (.iload_n 0, 1) := by decide +kernel
theorem dJ9_min_7cf53_1 : decode cJ9_min_7cf53 1 = .ok (.iload_n 1, 1) := by decide +kernel
theorem dJ9_min_7cf53_2 : decode cJ9_min_7cf53 2 = .ok (.if_icmp .gt 7, 3) := by decide +kernel
theorem dJ9_min_7cf53_5 : decode cJ9_min_7cf53 5 = .ok (.iload_n 0, 1) := by decide +kernel
theorem dJ9_min_7cf53_6 : decode cJ9_min_7cf53 6 = .ok (.goto 4, 3) := by decide +kernel
theorem dJ9_min_7cf53_9 : decode cJ9_min_7cf53 9 = .ok (.iload_n 1, 1) := by decide +kernel
theorem dJ9_min_7cf53_10 : decode cJ9_min_7cf53 10 = .ok (.ireturn, 1) := by decide +kernel
theorem dL_law_0 : decode cL_law 0 = .ok (.new 7, 3) := by decide +kernel
theorem dL_law_3 : decode cL_law 3 = .ok (.dup, 1) := by decide +kernel
theorem dL_law_4 : decode cL_law 4 = .ok (.invokespecial 9, 3) := by decide +kernel
theorem dL_law_7 : decode cL_law 7 = .ok (.astore_n 1, 1) := by decide +kernel
theorem dL_law_8 : decode cL_law 8 = .ok (.new 10, 3) := by decide +kernel
theorem dL_law_11 : decode cL_law 11 = .ok (.dup, 1) := by decide +kernel
theorem dL_law_12 : decode cL_law 12 = .ok (.invokespecial 12, 3) := by decide +kernel
theorem dL_law_15 : decode cL_law 15 = .ok (.astore_n 2, 1) := by decide +kernel
theorem dL_law_16 : decode cL_law 16 = .ok (.iconst 0, 1) := by decide +kernel
theorem dL_law_17 : decode cL_law 17 = .ok (.istore_n 3, 1) := by decide +kernel
theorem dL_law_18 : decode cL_law 18 = .ok (.iload_n 3, 1) := by decide +kernel
theorem dL_law_19 : decode cL_law 19 = .ok (.aload_n 0, 1) := by decide +kernel
theorem dL_law_20 : decode cL_law 20 = .ok (.arraylength, 1) := by decide +kernel
theorem dL_law_21 : decode cL_law 21 = .ok (.bipush 7, 2) := by decide +kernel
theorem dL_law_23 : decode cL_law 23 = .ok (.isub, 1) := by decide +kernel
theorem dL_law_24 : decode cL_law 24 = .ok (.if_icmp .gt 1121, 3) := by decide +kernel
theorem dL_law_27 : decode cL_law 27 = .ok (.aload_n 0, 1) := by decide +kernel
theorem dL_law_28 : decode cL_law 28 = .ok (.iload_n 3, 1) := by decide +kernel
theorem dL_law_29 : decode cL_law 29 = .ok (.iaload, 1) := by decide +kernel
theorem dL_law_30 : decode cL_law 30 = .ok (.bipush 31, 2) := by decide +kernel
theorem dL_law_32 : decode cL_law 32 = .ok (.iand, 1) := by decide +kernel
theorem dL_law_33 : decode cL_law 33 = .ok (.tableswitch 1106 0 30 #[139, 192, 225, 268, 301, 334, 357, 380, 403, 436, 449, 472, 547, 570, 583, 626, 649, 682, 705, 718, 762, 805, 828, 871, 915, 978, 1001, 1024, 1057, 1070, 1083], 139) := by decide +kernel
theorem dL_law_172 : decode cL_law 172 = .ok (.aload_n 1, 1) := by decide +kernel
theorem dL_law_173 : decode cL_law 173 = .ok (.aload_n 0, 1) := by decide +kernel
theorem dL_law_174 : decode cL_law 174 = .ok (.iload_n 3, 1) := by decide +kernel
theorem dL_law_175 : decode cL_law 175 = .ok (.iconst 1, 1) := by decide +kernel
theorem dL_law_176 : decode cL_law 176 = .ok (.iadd, 1) := by decide +kernel
theorem dL_law_177 : decode cL_law 177 = .ok (.iaload, 1) := by decide +kernel
theorem dL_law_178 : decode cL_law 178 = .ok (.aload_n 0, 1) := by decide +kernel
theorem dL_law_179 : decode cL_law 179 = .ok (.iload_n 3, 1) := by decide +kernel
theorem dL_law_180 : decode cL_law 180 = .ok (.iconst 2, 1) := by decide +kernel
theorem dL_law_181 : decode cL_law 181 = .ok (.iadd, 1) := by decide +kernel
theorem dL_law_182 : decode cL_law 182 = .ok (.iaload, 1) := by decide +kernel
theorem dL_law_183 : decode cL_law 183 = .ok (.aload_n 0, 1) := by decide +kernel
theorem dL_law_184 : decode cL_law 184 = .ok (.iload_n 3, 1) := by decide +kernel
theorem dL_law_185 : decode cL_law 185 = .ok (.iconst 3, 1) := by decide +kernel
theorem dL_law_186 : decode cL_law 186 = .ok (.iadd, 1) := by decide +kernel
theorem dL_law_187 : decode cL_law 187 = .ok (.iaload, 1) := by decide +kernel
theorem dL_law_188 : decode cL_law 188 = .ok (.aload_n 0, 1) := by decide +kernel
theorem dL_law_189 : decode cL_law 189 = .ok (.iload_n 3, 1) := by decide +kernel
theorem dL_law_190 : decode cL_law 190 = .ok (.iconst 4, 1) := by decide +kernel
theorem dL_law_191 : decode cL_law 191 = .ok (.iadd, 1) := by decide +kernel
theorem dL_law_192 : decode cL_law 192 = .ok (.iaload, 1) := by decide +kernel
theorem dL_law_193 : decode cL_law 193 = .ok (.invokevirtual 13, 3) := by decide +kernel
theorem dL_law_196 : decode cL_law 196 = .ok (.aload_n 2, 1) := by decide +kernel
theorem dL_law_197 : decode cL_law 197 = .ok (.aload_n 0, 1) := by decide +kernel
theorem dL_law_198 : decode cL_law 198 = .ok (.iload_n 3, 1) := by decide +kernel
theorem dL_law_199 : decode cL_law 199 = .ok (.iconst 1, 1) := by decide +kernel
theorem dL_law_200 : decode cL_law 200 = .ok (.iadd, 1) := by decide +kernel
theorem dL_law_201 : decode cL_law 201 = .ok (.iaload, 1) := by decide +kernel
theorem dL_law_202 : decode cL_law 202 = .ok (.aload_n 0, 1) := by decide +kernel
theorem dL_law_203 : decode cL_law 203 = .ok (.iload_n 3, 1) := by decide +kernel
theorem dL_law_204 : decode cL_law 204 = .ok (.iconst 2, 1) := by decide +kernel
theorem dL_law_205 : decode cL_law 205 = .ok (.iadd, 1) := by decide +kernel
theorem dL_law_206 : decode cL_law 206 = .ok (.iaload, 1) := by decide +kernel
theorem dL_law_207 : decode cL_law 207 = .ok (.aload_n 0, 1) := by decide +kernel
theorem dL_law_208 : decode cL_law 208 = .ok (.iload_n 3, 1) := by decide +kernel
theorem dL_law_209 : decode cL_law 209 = .ok (.iconst 3, 1) := by decide +kernel
theorem dL_law_210 : decode cL_law 210 = .ok (.iadd, 1) := by decide +kernel
theorem dL_law_211 : decode cL_law 211 = .ok (.iaload, 1) := by decide +kernel
theorem dL_law_212 : decode cL_law 212 = .ok (.aload_n 0, 1) := by decide +kernel
theorem dL_law_213 : decode cL_law 213 = .ok (.iload_n 3, 1) := by decide +kernel
theorem dL_law_214 : decode cL_law 214 = .ok (.iconst 4, 1) := by decide +kernel
theorem dL_law_215 : decode cL_law 215 = .ok (.iadd, 1) := by decide +kernel
theorem dL_law_216 : decode cL_law 216 = .ok (.iaload, 1) := by decide +kernel
theorem dL_law_217 : decode cL_law 217 = .ok (.invokevirtual 17, 3) := by decide +kernel
theorem dL_law_220 : decode cL_law 220 = .ok (.if_icmp .eq 919, 3) := by decide +kernel
theorem dL_law_223 : decode cL_law 223 = .ok (.iconst 0, 1) := by decide +kernel
theorem dL_law_224 : decode cL_law 224 = .ok (.ireturn, 1) := by decide +kernel
theorem dL_law_225 : decode cL_law 225 = .ok (.aload_n 1, 1) := by decide +kernel
theorem dL_law_226 : decode cL_law 226 = .ok (.aload_n 0, 1) := by decide +kernel
theorem dL_law_227 : decode cL_law 227 = .ok (.iload_n 3, 1) := by decide +kernel
theorem dL_law_228 : decode cL_law 228 = .ok (.iconst 1, 1) := by decide +kernel
theorem dL_law_229 : decode cL_law 229 = .ok (.iadd, 1) := by decide +kernel
theorem dL_law_230 : decode cL_law 230 = .ok (.iaload, 1) := by decide +kernel
theorem dL_law_231 : decode cL_law 231 = .ok (.aload_n 0, 1) := by decide +kernel
theorem dL_law_232 : decode cL_law 232 = .ok (.iload_n 3, 1) := by decide +kernel
theorem dL_law_233 : decode cL_law 233 = .ok (.iconst 2, 1) := by decide +kernel
theorem dL_law_234 : decode cL_law 234 = .ok (.iadd, 1) := by decide +kernel
theorem dL_law_235 : decode cL_law 235 = .ok (.iaload, 1) := by decide +kernel
theorem dL_law_236 : decode cL_law 236 = .ok (.invokevirtual 18, 3) := by decide +kernel
theorem dL_law_239 : decode cL_law 239 = .ok (.aload_n 2, 1) := by decide +kernel
theorem dL_law_240 : decode cL_law 240 = .ok (.aload_n 0, 1) := by decide +kernel
theorem dL_law_241 : decode cL_law 241 = .ok (.iload_n 3, 1) := by decide +kernel
theorem dL_law_242 : decode cL_law 242 = .ok (.iconst 1, 1) := by decide +kernel
theorem dL_law_243 : decode cL_law 243 = .ok (.iadd, 1) := by decide +kernel
theorem dL_law_244 : decode cL_law 244 = .ok (.iaload, 1) := by decide +kernel
theorem dL_law_245 : decode cL_law 245 = .ok (.aload_n 0, 1) := by decide +kernel
theorem dL_law_246 : decode cL_law 246 = .ok (.iload_n 3, 1) := by decide +kernel
theorem dL_law_247 : decode cL_law 247 = .ok (.iconst 2, 1) := by decide +kernel
theorem dL_law_248 : decode cL_law 248 = .ok (.iadd, 1) := by decide +kernel
theorem dL_law_249 : decode cL_law 249 = .ok (.iaload, 1) := by decide +kernel
theorem dL_law_250 : decode cL_law 250 = .ok (.invokevirtual 22, 3) := by decide +kernel
theorem dL_law_253 : decode cL_law 253 = .ok (.if_icmp .eq 886, 3) := by decide +kernel
theorem dL_law_256 : decode cL_law 256 = .ok (.iconst 0, 1) := by decide +kernel
theorem dL_law_257 : decode cL_law 257 = .ok (.ireturn, 1) := by decide +kernel
theorem dL_law_258 : decode cL_law 258 = .ok (.aload_n 1, 1) := by decide +kernel
theorem dL_law_259 : decode cL_law 259 = .ok (.aload_n 0, 1) := by decide +kernel
theorem dL_law_260 : decode cL_law 260 = .ok (.iload_n 3, 1) := by decide +kernel
theorem dL_law_261 : decode cL_law 261 = .ok (.iconst 1, 1) := by decide +kernel
theorem dL_law_262 : decode cL_law 262 = .ok (.iadd, 1) := by decide +kernel
theorem dL_law_263 : decode cL_law 263 = .ok (.iaload, 1) := by decide +kernel
theorem dL_law_264 : decode cL_law 264 = .ok (.aload_n 0, 1) := by decide +kernel
theorem dL_law_265 : decode cL_law 265 = .ok (.iload_n 3, 1) := by decide +kernel
theorem dL_law_266 : decode cL_law 266 = .ok (.iconst 2, 1) := by decide +kernel
theorem dL_law_267 : decode cL_law 267 = .ok (.iadd, 1) := by decide +kernel
theorem dL_law_268 : decode cL_law 268 = .ok (.iaload, 1) := by decide +kernel
theorem dL_law_269 : decode cL_law 269 = .ok (.aload_n 0, 1) := by decide +kernel
theorem dL_law_270 : decode cL_law 270 = .ok (.iload_n 3, 1) := by decide +kernel
theorem dL_law_271 : decode cL_law 271 = .ok (.iconst 3, 1) := by decide +kernel
theorem dL_law_272 : decode cL_law 272 = .ok (.iadd, 1) := by decide +kernel
theorem dL_law_273 : decode cL_law 273 = .ok (.iaload, 1) := by decide +kernel
theorem dL_law_274 : decode cL_law 274 = .ok (.invokevirtual 23, 3) := by decide +kernel
theorem dL_law_277 : decode cL_law 277 = .ok (.aload_n 2, 1) := by decide +kernel
theorem dL_law_278 : decode cL_law 278 = .ok (.aload_n 0, 1) := by decide +kernel
theorem dL_law_279 : decode cL_law 279 = .ok (.iload_n 3, 1) := by decide +kernel
theorem dL_law_280 : decode cL_law 280 = .ok (.iconst 1, 1) := by decide +kernel
theorem dL_law_281 : decode cL_law 281 = .ok (.iadd, 1) := by decide +kernel
theorem dL_law_282 : decode cL_law 282 = .ok (.iaload, 1) := by decide +kernel
theorem dL_law_283 : decode cL_law 283 = .ok (.aload_n 0, 1) := by decide +kernel
theorem dL_law_284 : decode cL_law 284 = .ok (.iload_n 3, 1) := by decide +kernel
theorem dL_law_285 : decode cL_law 285 = .ok (.iconst 2, 1) := by decide +kernel
theorem dL_law_286 : decode cL_law 286 = .ok (.iadd, 1) := by decide +kernel
theorem dL_law_287 : decode cL_law 287 = .ok (.iaload, 1) := by decide +kernel
theorem dL_law_288 : decode cL_law 288 = .ok (.aload_n 0, 1) := by decide +kernel
theorem dL_law_289 : decode cL_law 289 = .ok (.iload_n 3, 1) := by decide +kernel
theorem dL_law_290 : decode cL_law 290 = .ok (.iconst 3, 1) := by decide +kernel
theorem dL_law_291 : decode cL_law 291 = .ok (.iadd, 1) := by decide +kernel
theorem dL_law_292 : decode cL_law 292 = .ok (.iaload, 1) := by decide +kernel
theorem dL_law_293 : decode cL_law 293 = .ok (.invokevirtual 27, 3) := by decide +kernel
theorem dL_law_296 : decode cL_law 296 = .ok (.if_icmp .eq 843, 3) := by decide +kernel
theorem dL_law_299 : decode cL_law 299 = .ok (.iconst 0, 1) := by decide +kernel
theorem dL_law_300 : decode cL_law 300 = .ok (.ireturn, 1) := by decide +kernel
theorem dL_law_301 : decode cL_law 301 = .ok (.aload_n 1, 1) := by decide +kernel
theorem dL_law_302 : decode cL_law 302 = .ok (.aload_n 0, 1) := by decide +kernel
theorem dL_law_303 : decode cL_law 303 = .ok (.iload_n 3, 1) := by decide +kernel
theorem dL_law_304 : decode cL_law 304 = .ok (.iconst 1, 1) := by decide +kernel
theorem dL_law_305 : decode cL_law 305 = .ok (.iadd, 1) := by decide +kernel
theorem dL_law_306 : decode cL_law 306 = .ok (.iaload, 1) := by decide +kernel
theorem dL_law_307 : decode cL_law 307 = .ok (.aload_n 0, 1) := by decide +kernel
theorem dL_law_308 : decode cL_law 308 = .ok (.iload_n 3, 1) := by decide +kernel
theorem dL_law_309 : decode cL_law 309 = .ok (.iconst 2, 1) := by decide +kernel
theorem dL_law_310 : decode cL_law 310 = .ok (.iadd, 1) := by decide +kernel
theorem dL_law_311 : decode cL_law 311 = .ok (.iaload, 1) := by decide +kernel
theorem dL_law_312 : decode cL_law 312 = .ok (.invokevirtual 28, 3) := by decide +kernel
theorem dL_law_315 : decode cL_law 315 = .ok (.aload_n 2, 1) := by decide +kernel
theorem dL_law_316 : decode cL_law 316 = .ok (.aload_n 0, 1) := by decide +kernel
theorem dL_law_317 : decode cL_law 317 = .ok (.iload_n 3, 1) := by decide +kernel
theorem dL_law_318 : decode cL_law 318 = .ok (.iconst 1, 1) := by decide +kernel
theorem dL_law_319 : decode cL_law 319 = .ok (.iadd, 1) := by decide +kernel
theorem dL_law_320 : decode cL_law 320 = .ok (.iaload, 1) := by decide +kernel
theorem dL_law_321 : decode cL_law 321 = .ok (.aload_n 0, 1) := by decide +kernel
theorem dL_law_322 : decode cL_law 322 = .ok (.iload_n 3, 1) := by decide +kernel
theorem dL_law_323 : decode cL_law 323 = .ok (.iconst 2, 1) := by decide +kernel
theorem dL_law_324 : decode cL_law 324 = .ok (.iadd, 1) := by decide +kernel
theorem dL_law_325 : decode cL_law 325 = .ok (.iaload, 1) := by decide +kernel
theorem dL_law_326 : decode cL_law 326 = .ok (.invokevirtual 31, 3) := by decide +kernel
theorem dL_law_329 : decode cL_law 329 = .ok (.if_icmp .eq 810, 3) := by decide +kernel
theorem dL_law_332 : decode cL_law 332 = .ok (.iconst 0, 1) := by decide +kernel
theorem dL_law_333 : decode cL_law 333 = .ok (.ireturn, 1) := by decide +kernel
theorem dL_law_334 : decode cL_law 334 = .ok (.aload_n 1, 1) := by decide +kernel
theorem dL_law_335 : decode cL_law 335 = .ok (.aload_n 0, 1) := by decide +kernel
theorem dL_law_336 : decode cL_law 336 = .ok (.iload_n 3, 1) := by decide +kernel
theorem dL_law_337 : decode cL_law 337 = .ok (.iconst 1, 1) := by decide +kernel
theorem dL_law_338 : decode cL_law 338 = .ok (.iadd, 1) := by decide +kernel
theorem dL_law_339 : decode cL_law 339 = .ok (.iaload, 1) := by decide +kernel
theorem dL_law_340 : decode cL_law 340 = .ok (.aload_n 0, 1) := by decide +kernel
theorem dL_law_341 : decode cL_law 341 = .ok (.iload_n 3, 1) := by decide +kernel
theorem dL_law_342 : decode cL_law 342 = .ok (.iconst 2, 1) := by decide +kernel
theorem dL_law_343 : decode cL_law 343 = .ok (.iadd, 1) := by decide +kernel
theorem dL_law_344 : decode cL_law 344 = .ok (.iaload, 1) := by decide +kernel
theorem dL_law_345 : decode cL_law 345 = .ok (.invokevirtual 32, 3) := by decide +kernel
theorem dL_law_348 : decode cL_law 348 = .ok (.aload_n 2, 1) := by decide +kernel
theorem dL_law_349 : decode cL_law 349 = .ok (.aload_n 0, 1) := by decide +kernel
theorem dL_law_350 : decode cL_law 350 = .ok (.iload_n 3, 1) := by decide +kernel
theorem dL_law_351 : decode cL_law 351 = .ok (.iconst 1, 1) := by decide +kernel
theorem dL_law_352 : decode cL_law 352 = .ok (.iadd, 1) := by decide +kernel
theorem dL_law_353 : decode cL_law 353 = .ok (.iaload, 1) := by decide +kernel
theorem dL_law_354 : decode cL_law 354 = .ok (.aload_n 0, 1) := by decide +kernel
theorem dL_law_355 : decode cL_law 355 = .ok (.iload_n 3, 1) := by decide +kernel
theorem dL_law_356 : decode cL_law 356 = .ok (.iconst 2, 1) := by decide +kernel
theorem dL_law_357 : decode cL_law 357 = .ok (.iadd, 1) := by decide +kernel
theorem dL_law_358 : decode cL_law 358 = .ok (.iaload, 1) := by decide +kernel
theorem dL_law_359 : decode cL_law 359 = .ok (.invokevirtual 35, 3) := by decide +kernel
theorem dL_law_362 : decode cL_law 362 = .ok (.if_icmp .eq 777, 3) := by decide +kernel
theorem dL_law_365 : decode cL_law 365 = .ok (.iconst 0, 1) := by decide +kernel
theorem dL_law_366 : decode cL_law 366 = .ok (.ireturn, 1) := by decide +kernel
theorem dL_law_367 : decode cL_law 367 = .ok (.aload_n 1, 1) := by decide +kernel
theorem dL_law_368 : decode cL_law 368 = .ok (.aload_n 0, 1) := by decide +kernel
theorem dL_law_369 : decode cL_law 369 = .ok (.iload_n 3, 1) := by decide +kernel
theorem dL_law_370 : decode cL_law 370 = .ok (.iconst 1, 1) := by decide +kernel
theorem dL_law_371 : decode cL_law 371 = .ok (.iadd, 1) := by decide +kernel
theorem dL_law_372 : decode cL_law 372 = .ok (.iaload, 1) := by decide +kernel
theorem dL_law_373 : decode cL_law 373 = .ok (.invokevirtual 36, 3) := by decide +kernel
theorem dL_law_376 : decode cL_law 376 = .ok (.aload_n 2, 1) := by decide +kernel
theorem dL_law_377 : decode cL_law 377 = .ok (.aload_n 0, 1) := by decide +kernel
theorem dL_law_378 : decode cL_law 378 = .ok (.iload_n 3, 1) := by decide +kernel
theorem dL_law_379 : decode cL_law 379 = .ok (.iconst 1, 1) := by decide +kernel
theorem dL_law_380 : decode cL_law 380 = .ok (.iadd, 1) := by decide +kernel
theorem dL_law_381 : decode cL_law 381 = .ok (.iaload, 1) := by decide +kernel
theorem dL_law_382 : decode cL_law 382 = .ok (.invokevirtual 40, 3) := by decide +kernel
theorem dL_law_385 : decode cL_law 385 = .ok (.if_icmp .eq 754, 3) := by decide +kernel
theorem dL_law_388 : decode cL_law 388 = .ok (.iconst 0, 1) := by decide +kernel
theorem dL_law_389 : decode cL_law 389 = .ok (.ireturn, 1) := by decide +kernel
theorem dL_law_390 : decode cL_law 390 = .ok (.aload_n 1, 1) := by decide +kernel
theorem dL_law_391 : decode cL_law 391 = .ok (.aload_n 0, 1) := by decide +kernel
theorem dL_law_392 : decode cL_law 392 = .ok (.iload_n 3, 1) := by decide +kernel
theorem dL_law_393 : decode cL_law 393 = .ok (.iconst 1, 1) := by decide +kernel
theorem dL_law_394 : decode cL_law 394 = .ok (.iadd, 1) := by decide +kernel
theorem dL_law_395 : decode cL_law 395 = .ok (.iaload, 1) := by decide +kernel
theorem dL_law_396 : decode cL_law 396 = .ok (.invokevirtual 41, 3) := by decide +kernel
theorem dL_law_399 : decode cL_law 399 = .ok (.aload_n 2, 1) := by decide +kernel
theorem dL_law_400 : decode cL_law 400 = .ok (.aload_n 0, 1) := by decide +kernel
theorem dL_law_401 : decode cL_law 401 = .ok (.iload_n 3, 1) := by decide +kernel
theorem dL_law_402 : decode cL_law 402 = .ok (.iconst 1, 1) := by decide +kernel
theorem dL_law_403 : decode cL_law 403 = .ok (.iadd, 1) := by decide +kernel
theorem dL_law_404 : decode cL_law 404 = .ok (.iaload, 1) := by decide +kernel
theorem dL_law_405 : decode cL_law 405 = .ok (.invokevirtual 44, 3) := by decide +kernel
theorem dL_law_408 : decode cL_law 408 = .ok (.if_icmp .eq 731, 3) := by decide +kernel
theorem dL_law_411 : decode cL_law 411 = .ok (.iconst 0, 1) := by decide +kernel
theorem dL_law_412 : decode cL_law 412 = .ok (.ireturn, 1) := by decide +kernel
theorem dL_law_413 : decode cL_law 413 = .ok (.aload_n 1, 1) := by decide +kernel
theorem dL_law_414 : decode cL_law 414 = .ok (.aload_n 0, 1) := by decide +kernel
theorem dL_law_415 : decode cL_law 415 = .ok (.iload_n 3, 1) := by decide +kernel
theorem dL_law_416 : decode cL_law 416 = .ok (.iconst 1, 1) := by decide +kernel
theorem dL_law_417 : decode cL_law 417 = .ok (.iadd, 1) := by decide +kernel
theorem dL_law_418 : decode cL_law 418 = .ok (.iaload, 1) := by decide +kernel
theorem dL_law_419 : decode cL_law 419 = .ok (.invokevirtual 45, 3) := by decide +kernel
theorem dL_law_422 : decode cL_law 422 = .ok (.aload_n 2, 1) := by decide +kernel
theorem dL_law_423 : decode cL_law 423 = .ok (.aload_n 0, 1) := by decide +kernel
theorem dL_law_424 : decode cL_law 424 = .ok (.iload_n 3, 1) := by decide +kernel
theorem dL_law_425 : decode cL_law 425 = .ok (.iconst 1, 1) := by decide +kernel
theorem dL_law_426 : decode cL_law 426 = .ok (.iadd, 1) := by decide +kernel
theorem dL_law_427 : decode cL_law 427 = .ok (.iaload, 1) := by decide +kernel
theorem dL_law_428 : decode cL_law 428 = .ok (.invokevirtual 48, 3) := by decide +kernel
theorem dL_law_431 : decode cL_law 431 = .ok (.if_icmp .eq 708, 3) := by decide +kernel
theorem dL_law_434 : decode cL_law 434 = .ok (.iconst 0, 1) := by decide +kernel
theorem dL_law_435 : decode cL_law 435 = .ok (.ireturn, 1) := by decide +kernel
theorem dL_law_436 : decode cL_law 436 = .ok (.aload_n 1, 1) := by decide +kernel
theorem dL_law_437 : decode cL_law 437 = .ok (.aload_n 0, 1) := by decide +kernel
theorem dL_law_438 : decode cL_law 438 = .ok (.iload_n 3, 1) := by decide +kernel
theorem dL_law_439 : decode cL_law 439 = .ok (.iconst 1, 1) := by decide +kernel
theorem dL_law_440 : decode cL_law 440 = .ok (.iadd, 1) := by decide +kernel
theorem dL_law_441 : decode cL_law 441 = .ok (.iaload, 1) := by decide +kernel
theorem dL_law_442 : decode cL_law 442 = .ok (.aload_n 0, 1) := by decide +kernel
theorem dL_law_443 : decode cL_law 443 = .ok (.iload_n 3, 1) := by decide +kernel
theorem dL_law_444 : decode cL_law 444 = .ok (.iconst 2, 1) := by decide +kernel
theorem dL_law_445 : decode cL_law 445 = .ok (.iadd, 1) := by decide +kernel
theorem dL_law_446 : decode cL_law 446 = .ok (.iaload, 1) := by decide +kernel
theorem dL_law_447 : decode cL_law 447 = .ok (.invokevirtual 49, 3) := by decide +kernel
theorem dL_law_450 : decode cL_law 450 = .ok (.aload_n 2, 1) := by decide +kernel
theorem dL_law_451 : decode cL_law 451 = .ok (.aload_n 0, 1) := by decide +kernel
theorem dL_law_452 : decode cL_law 452 = .ok (.iload_n 3, 1) := by decide +kernel
theorem dL_law_453 : decode cL_law 453 = .ok (.iconst 1, 1) := by decide +kernel
theorem dL_law_454 : decode cL_law 454 = .ok (.iadd, 1) := by decide +kernel
theorem dL_law_455 : decode cL_law 455 = .ok (.iaload, 1) := by decide +kernel
theorem dL_law_456 : decode cL_law 456 = .ok (.aload_n 0, 1) := by decide +kernel
theorem dL_law_457 : decode cL_law 457 = .ok (.iload_n 3, 1) := by decide +kernel
theorem dL_law_458 : decode cL_law 458 = .ok (.iconst 2, 1) := by decide +kernel
theorem dL_law_459 : decode cL_law 459 = .ok (.iadd, 1) := by decide +kernel
theorem dL_law_460 : decode cL_law 460 = .ok (.iaload, 1) := by decide +kernel
theorem dL_law_461 : decode cL_law 461 = .ok (.invokevirtual 52, 3) := by decide +kernel
theorem dL_law_464 : decode cL_law 464 = .ok (.if_icmp .eq 675, 3) := by decide +kernel
theorem dL_law_467 : decode cL_law 467 = .ok (.iconst 0, 1) := by decide +kernel
theorem dL_law_468 : decode cL_law 468 = .ok (.ireturn, 1) := by decide +kernel
theorem dL_law_469 : decode cL_law 469 = .ok (.aload_n 1, 1) := by decide +kernel
theorem dL_law_470 : decode cL_law 470 = .ok (.invokevirtual 53, 3) := by decide +kernel
theorem dL_law_473 : decode cL_law 473 = .ok (.aload_n 2, 1) := by decide +kernel
theorem dL_law_474 : decode cL_law 474 = .ok (.invokevirtual 57, 3) := by decide +kernel
theorem dL_law_477 : decode cL_law 477 = .ok (.if_icmp .eq 662, 3) := by decide +kernel
theorem dL_law_480 : decode cL_law 480 = .ok (.iconst 0, 1) := by decide +kernel
theorem dL_law_481 : decode cL_law 481 = .ok (.ireturn, 1) := by decide +kernel
theorem dL_law_482 : decode cL_law 482 = .ok (.aload_n 1, 1) := by decide +kernel
theorem dL_law_483 : decode cL_law 483 = .ok (.aload_n 0, 1) := by decide +kernel
theorem dL_law_484 : decode cL_law 484 = .ok (.iload_n 3, 1) := by decide +kernel
theorem dL_law_485 : decode cL_law 485 = .ok (.iconst 1, 1) := by decide +kernel
theorem dL_law_486 : decode cL_law 486 = .ok (.iadd, 1) := by decide +kernel
theorem dL_law_487 : decode cL_law 487 = .ok (.iaload, 1) := by decide +kernel
theorem dL_law_488 : decode cL_law 488 = .ok (.invokevirtual 58, 3) := by decide +kernel
theorem dL_law_491 : decode cL_law 491 = .ok (.aload_n 2, 1) := by decide +kernel
theorem dL_law_492 : decode cL_law 492 = .ok (.aload_n 0, 1) := by decide +kernel
theorem dL_law_493 : decode cL_law 493 = .ok (.iload_n 3, 1) := by decide +kernel
theorem dL_law_494 : decode cL_law 494 = .ok (.iconst 1, 1) := by decide +kernel
theorem dL_law_495 : decode cL_law 495 = .ok (.iadd, 1) := by decide +kernel
theorem dL_law_496 : decode cL_law 496 = .ok (.iaload, 1) := by decide +kernel
theorem dL_law_497 : decode cL_law 497 = .ok (.invokevirtual 61, 3) := by decide +kernel
theorem dL_law_500 : decode cL_law 500 = .ok (.if_icmp .eq 639, 3) := by decide +kernel
theorem dL_law_503 : decode cL_law 503 = .ok (.iconst 0, 1) := by decide +kernel
theorem dL_law_504 : decode cL_law 504 = .ok (.ireturn, 1) := by decide +kernel
theorem dL_law_505 : decode cL_law 505 = .ok (.aload_n 1, 1) := by decide +kernel
theorem dL_law_506 : decode cL_law 506 = .ok (.aload_n 0, 1) := by decide +kernel
theorem dL_law_507 : decode cL_law 507 = .ok (.iload_n 3, 1) := by decide +kernel
theorem dL_law_508 : decode cL_law 508 = .ok (.iconst 1, 1) := by decide +kernel
theorem dL_law_509 : decode cL_law 509 = .ok (.iadd, 1) := by decide +kernel
theorem dL_law_510 : decode cL_law 510 = .ok (.iaload, 1) := by decide +kernel
theorem dL_law_511 : decode cL_law 511 = .ok (.aload_n 0, 1) := by decide +kernel
theorem dL_law_512 : decode cL_law 512 = .ok (.iload_n 3, 1) := by decide +kernel
theorem dL_law_513 : decode cL_law 513 = .ok (.iconst 2, 1) := by decide +kernel
theorem dL_law_514 : decode cL_law 514 = .ok (.iadd, 1) := by decide +kernel
theorem dL_law_515 : decode cL_law 515 = .ok (.iaload, 1) := by decide +kernel
theorem dL_law_516 : decode cL_law 516 = .ok (.aload_n 0, 1) := by decide +kernel
theorem dL_law_517 : decode cL_law 517 = .ok (.iload_n 3, 1) := by decide +kernel
theorem dL_law_518 : decode cL_law 518 = .ok (.iconst 3, 1) := by decide +kernel
theorem dL_law_519 : decode cL_law 519 = .ok (.iadd, 1) := by decide +kernel
theorem dL_law_520 : decode cL_law 520 = .ok (.iaload, 1) := by decide +kernel
theorem dL_law_521 : decode cL_law 521 = .ok (.aload_n 0, 1) := by decide +kernel
theorem dL_law_522 : decode cL_law 522 = .ok (.iload_n 3, 1) := by decide +kernel
theorem dL_law_523 : decode cL_law 523 = .ok (.iconst 4, 1) := by decide +kernel
theorem dL_law_524 : decode cL_law 524 = .ok (.iadd, 1) := by decide +kernel
theorem dL_law_525 : decode cL_law 525 = .ok (.iaload, 1) := by decide +kernel
theorem dL_law_526 : decode cL_law 526 = .ok (.aload_n 0, 1) := by decide +kernel
theorem dL_law_527 : decode cL_law 527 = .ok (.iload_n 3, 1) := by decide +kernel
theorem dL_law_528 : decode cL_law 528 = .ok (.iconst 5, 1) := by decide +kernel
theorem dL_law_529 : decode cL_law 529 = .ok (.iadd, 1) := by decide +kernel
theorem dL_law_530 : decode cL_law 530 = .ok (.iaload, 1) := by decide +kernel
theorem dL_law_531 : decode cL_law 531 = .ok (.aload_n 0, 1) := by decide +kernel
theorem dL_law_532 : decode cL_law 532 = .ok (.iload_n 3, 1) := by decide +kernel
theorem dL_law_533 : decode cL_law 533 = .ok (.bipush 6, 2) := by decide +kernel
theorem dL_law_535 : decode cL_law 535 = .ok (.iadd, 1) := by decide +kernel
theorem dL_law_536 : decode cL_law 536 = .ok (.iaload, 1) := by decide +kernel
theorem dL_law_537 : decode cL_law 537 = .ok (.invokevirtual 62, 3) := by decide +kernel
theorem dL_law_540 : decode cL_law 540 = .ok (.aload_n 2, 1) := by decide +kernel
theorem dL_law_541 : decode cL_law 541 = .ok (.aload_n 0, 1) := by decide +kernel
theorem dL_law_542 : decode cL_law 542 = .ok (.iload_n 3, 1) := by decide +kernel
theorem dL_law_543 : decode cL_law 543 = .ok (.iconst 1, 1) := by decide +kernel
theorem dL_law_544 : decode cL_law 544 = .ok (.iadd, 1) := by decide +kernel
theorem dL_law_545 : decode cL_law 545 = .ok (.iaload, 1) := by decide +kernel
theorem dL_law_546 : decode cL_law 546 = .ok (.aload_n 0, 1) := by decide +kernel
theorem dL_law_547 : decode cL_law 547 = .ok (.iload_n 3, 1) := by decide +kernel
theorem dL_law_548 : decode cL_law 548 = .ok (.iconst 2, 1) := by decide +kernel
theorem dL_law_549 : decode cL_law 549 = .ok (.iadd, 1) := by decide +kernel
theorem dL_law_550 : decode cL_law 550 = .ok (.iaload, 1) := by decide +kernel
theorem dL_law_551 : decode cL_law 551 = .ok (.aload_n 0, 1) := by decide +kernel
theorem dL_law_552 : decode cL_law 552 = .ok (.iload_n 3, 1) := by decide +kernel
theorem dL_law_553 : decode cL_law 553 = .ok (.iconst 3, 1) := by decide +kernel
theorem dL_law_554 : decode cL_law 554 = .ok (.iadd, 1) := by decide +kernel
theorem dL_law_555 : decode cL_law 555 = .ok (.iaload, 1) := by decide +kernel
theorem dL_law_556 : decode cL_law 556 = .ok (.aload_n 0, 1) := by decide +kernel
theorem dL_law_557 : decode cL_law 557 = .ok (.iload_n 3, 1) := by decide +kernel
theorem dL_law_558 : decode cL_law 558 = .ok (.iconst 4, 1) := by decide +kernel
theorem dL_law_559 : decode cL_law 559 = .ok (.iadd, 1) := by decide +kernel
theorem dL_law_560 : decode cL_law 560 = .ok (.iaload, 1) := by decide +kernel
theorem dL_law_561 : decode cL_law 561 = .ok (.aload_n 0, 1) := by decide +kernel
theorem dL_law_562 : decode cL_law 562 = .ok (.iload_n 3, 1) := by decide +kernel
theorem dL_law_563 : decode cL_law 563 = .ok (.iconst 5, 1) := by decide +kernel
theorem dL_law_564 : decode cL_law 564 = .ok (.iadd, 1) := by decide +kernel
theorem dL_law_565 : decode cL_law 565 = .ok (.iaload, 1) := by decide +kernel
theorem dL_law_566 : decode cL_law 566 = .ok (.aload_n 0, 1) := by decide +kernel
theorem dL_law_567 : decode cL_law 567 = .ok (.iload_n 3, 1) := by decide +kernel
theorem dL_law_568 : decode cL_law 568 = .ok (.bipush 6, 2) := by decide +kernel
theorem dL_law_570 : decode cL_law 570 = .ok (.iadd, 1) := by decide +kernel
theorem dL_law_571 : decode cL_law 571 = .ok (.iaload, 1) := by decide +kernel
theorem dL_law_572 : decode cL_law 572 = .ok (.invokevirtual 66, 3) := by decide +kernel
theorem dL_law_575 : decode cL_law 575 = .ok (.if_icmp .eq 564, 3) := by decide +kernel
theorem dL_law_578 : decode cL_law 578 = .ok (.iconst 0, 1) := by decide +kernel
theorem dL_law_579 : decode cL_law 579 = .ok (.ireturn, 1) := by decide +kernel
theorem dL_law_580 : decode cL_law 580 = .ok (.aload_n 1, 1) := by decide +kernel
theorem dL_law_581 : decode cL_law 581 = .ok (.aload_n 0, 1) := by decide +kernel
theorem dL_law_582 : decode cL_law 582 = .ok (.iload_n 3, 1) := by decide +kernel
theorem dL_law_583 : decode cL_law 583 = .ok (.iconst 1, 1) := by decide +kernel
theorem dL_law_584 : decode cL_law 584 = .ok (.iadd, 1) := by decide +kernel
theorem dL_law_585 : decode cL_law 585 = .ok (.iaload, 1) := by decide +kernel
theorem dL_law_586 : decode cL_law 586 = .ok (.invokevirtual 67, 3) := by decide +kernel
theorem dL_law_589 : decode cL_law 589 = .ok (.aload_n 2, 1) := by decide +kernel
theorem dL_law_590 : decode cL_law 590 = .ok (.aload_n 0, 1) := by decide +kernel
theorem dL_law_591 : decode cL_law 591 = .ok (.iload_n 3, 1) := by decide +kernel
theorem dL_law_592 : decode cL_law 592 = .ok (.iconst 1, 1) := by decide +kernel
theorem dL_law_593 : decode cL_law 593 = .ok (.iadd, 1) := by decide +kernel
theorem dL_law_594 : decode cL_law 594 = .ok (.iaload, 1) := by decide +kernel
theorem dL_law_595 : decode cL_law 595 = .ok (.invokevirtual 70, 3) := by decide +kernel
theorem dL_law_598 : decode cL_law 598 = .ok (.if_icmp .eq 541, 3) := by decide +kernel
theorem dL_law_601 : decode cL_law 601 = .ok (.iconst 0, 1) := by decide +kernel
theorem dL_law_602 : decode cL_law 602 = .ok (.ireturn, 1) := by decide +kernel
theorem dL_law_603 : decode cL_law 603 = .ok (.aload_n 1, 1) := by decide +kernel
theorem dL_law_604 : decode cL_law 604 = .ok (.invokevirtual 71, 3) := by decide +kernel
theorem dL_law_607 : decode cL_law 607 = .ok (.aload_n 2, 1) := by decide +kernel
theorem dL_law_608 : decode cL_law 608 = .ok (.invokevirtual 74, 3) := by decide +kernel
theorem dL_law_611 : decode cL_law 611 = .ok (.if_icmp .eq 528, 3) := by decide +kernel
theorem dL_law_614 : decode cL_law 614 = .ok (.iconst 0, 1) := by decide +kernel
theorem dL_law_615 : decode cL_law 615 = .ok (.ireturn, 1) := by decide +kernel
theorem dL_law_616 : decode cL_law 616 = .ok (.aload_n 1, 1) := by decide +kernel
theorem dL_law_617 : decode cL_law 617 = .ok (.aload_n 0, 1) := by decide +kernel
theorem dL_law_618 : decode cL_law 618 = .ok (.iload_n 3, 1) := by decide +kernel
theorem dL_law_619 : decode cL_law 619 = .ok (.iconst 1, 1) := by decide +kernel
theorem dL_law_620 : decode cL_law 620 = .ok (.iadd, 1) := by decide +kernel
theorem dL_law_621 : decode cL_law 621 = .ok (.iaload, 1) := by decide +kernel
theorem dL_law_622 : decode cL_law 622 = .ok (.aload_n 0, 1) := by decide +kernel
theorem dL_law_623 : decode cL_law 623 = .ok (.iload_n 3, 1) := by decide +kernel
theorem dL_law_624 : decode cL_law 624 = .ok (.iconst 2, 1) := by decide +kernel
theorem dL_law_625 : decode cL_law 625 = .ok (.iadd, 1) := by decide +kernel
theorem dL_law_626 : decode cL_law 626 = .ok (.iaload, 1) := by decide +kernel
theorem dL_law_627 : decode cL_law 627 = .ok (.aload_n 0, 1) := by decide +kernel
theorem dL_law_628 : decode cL_law 628 = .ok (.iload_n 3, 1) := by decide +kernel
theorem dL_law_629 : decode cL_law 629 = .ok (.iconst 3, 1) := by decide +kernel
theorem dL_law_630 : decode cL_law 630 = .ok (.iadd, 1) := by decide +kernel
theorem dL_law_631 : decode cL_law 631 = .ok (.iaload, 1) := by decide +kernel
theorem dL_law_632 : decode cL_law 632 = .ok (.invokevirtual 75, 3) := by decide +kernel
theorem dL_law_635 : decode cL_law 635 = .ok (.aload_n 2, 1) := by decide +kernel
theorem dL_law_636 : decode cL_law 636 = .ok (.aload_n 0, 1) := by decide +kernel
theorem dL_law_637 : decode cL_law 637 = .ok (.iload_n 3, 1) := by decide +kernel
theorem dL_law_638 : decode cL_law 638 = .ok (.iconst 1, 1) := by decide +kernel
theorem dL_law_639 : decode cL_law 639 = .ok (.iadd, 1) := by decide +kernel
theorem dL_law_640 : decode cL_law 640 = .ok (.iaload, 1) := by decide +kernel
theorem dL_law_641 : decode cL_law 641 = .ok (.aload_n 0, 1) := by decide +kernel
theorem dL_law_642 : decode cL_law 642 = .ok (.iload_n 3, 1) := by decide +kernel
theorem dL_law_643 : decode cL_law 643 = .ok (.iconst 2, 1) := by decide +kernel
theorem dL_law_644 : decode cL_law 644 = .ok (.iadd, 1) := by decide +kernel
theorem dL_law_645 : decode cL_law 645 = .ok (.iaload, 1) := by decide +kernel
theorem dL_law_646 : decode cL_law 646 = .ok (.aload_n 0, 1) := by decide +kernel
theorem dL_law_647 : decode cL_law 647 = .ok (.iload_n 3, 1) := by decide +kernel
theorem dL_law_648 : decode cL_law 648 = .ok (.iconst 3, 1) := by decide +kernel
theorem dL_law_649 : decode cL_law 649 = .ok (.iadd, 1) := by decide +kernel
theorem dL_law_650 : decode cL_law 650 = .ok (.iaload, 1) := by decide +kernel
theorem dL_law_651 : decode cL_law 651 = .ok (.invokevirtual 78, 3) := by decide +kernel
theorem dL_law_654 : decode cL_law 654 = .ok (.if_icmp .eq 485, 3) := by decide +kernel
theorem dL_law_657 : decode cL_law 657 = .ok (.iconst 0, 1) := by decide +kernel
theorem dL_law_658 : decode cL_law 658 = .ok (.ireturn, 1) := by decide +kernel
theorem dL_law_659 : decode cL_law 659 = .ok (.aload_n 1, 1) := by decide +kernel
theorem dL_law_660 : decode cL_law 660 = .ok (.aload_n 0, 1) := by decide +kernel
theorem dL_law_661 : decode cL_law 661 = .ok (.iload_n 3, 1) := by decide +kernel
theorem dL_law_662 : decode cL_law 662 = .ok (.iconst 1, 1) := by decide +kernel
theorem dL_law_663 : decode cL_law 663 = .ok (.iadd, 1) := by decide +kernel
theorem dL_law_664 : decode cL_law 664 = .ok (.iaload, 1) := by decide +kernel
theorem dL_law_665 : decode cL_law 665 = .ok (.invokevirtual 79, 3) := by decide +kernel
theorem dL_law_668 : decode cL_law 668 = .ok (.aload_n 2, 1) := by decide +kernel
theorem dL_law_669 : decode cL_law 669 = .ok (.aload_n 0, 1) := by decide +kernel
theorem dL_law_670 : decode cL_law 670 = .ok (.iload_n 3, 1) := by decide +kernel
theorem dL_law_671 : decode cL_law 671 = .ok (.iconst 1, 1) := by decide +kernel
theorem dL_law_672 : decode cL_law 672 = .ok (.iadd, 1) := by decide +kernel
theorem dL_law_673 : decode cL_law 673 = .ok (.iaload, 1) := by decide +kernel
theorem dL_law_674 : decode cL_law 674 = .ok (.invokevirtual 82, 3) := by decide +kernel
theorem dL_law_677 : decode cL_law 677 = .ok (.if_icmp .eq 462, 3) := by decide +kernel
theorem dL_law_680 : decode cL_law 680 = .ok (.iconst 0, 1) := by decide +kernel
theorem dL_law_681 : decode cL_law 681 = .ok (.ireturn, 1) := by decide +kernel
theorem dL_law_682 : decode cL_law 682 = .ok (.aload_n 1, 1) := by decide +kernel
theorem dL_law_683 : decode cL_law 683 = .ok (.aload_n 0, 1) := by decide +kernel
theorem dL_law_684 : decode cL_law 684 = .ok (.iload_n 3, 1) := by decide +kernel
theorem dL_law_685 : decode cL_law 685 = .ok (.iconst 1, 1) := by decide +kernel
theorem dL_law_686 : decode cL_law 686 = .ok (.iadd, 1) := by decide +kernel
theorem dL_law_687 : decode cL_law 687 = .ok (.iaload, 1) := by decide +kernel
theorem dL_law_688 : decode cL_law 688 = .ok (.aload_n 0, 1) := by decide +kernel
theorem dL_law_689 : decode cL_law 689 = .ok (.iload_n 3, 1) := by decide +kernel
theorem dL_law_690 : decode cL_law 690 = .ok (.iconst 2, 1) := by decide +kernel
theorem dL_law_691 : decode cL_law 691 = .ok (.iadd, 1) := by decide +kernel
theorem dL_law_692 : decode cL_law 692 = .ok (.iaload, 1) := by decide +kernel
theorem dL_law_693 : decode cL_law 693 = .ok (.invokevirtual 83, 3) := by decide +kernel
theorem dL_law_696 : decode cL_law 696 = .ok (.aload_n 2, 1) := by decide +kernel
theorem dL_law_697 : decode cL_law 697 = .ok (.aload_n 0, 1) := by decide +kernel
theorem dL_law_698 : decode cL_law 698 = .ok (.iload_n 3, 1) := by decide +kernel
theorem dL_law_699 : decode cL_law 699 = .ok (.iconst 1, 1) := by decide +kernel
theorem dL_law_700 : decode cL_law 700 = .ok (.iadd, 1) := by decide +kernel
theorem dL_law_701 : decode cL_law 701 = .ok (.iaload, 1) := by decide +kernel
theorem dL_law_702 : decode cL_law 702 = .ok (.aload_n 0, 1) := by decide +kernel
theorem dL_law_703 : decode cL_law 703 = .ok (.iload_n 3, 1) := by decide +kernel
theorem dL_law_704 : decode cL_law 704 = .ok (.iconst 2, 1) := by decide +kernel
theorem dL_law_705 : decode cL_law 705 = .ok (.iadd, 1) := by decide +kernel
theorem dL_law_706 : decode cL_law 706 = .ok (.iaload, 1) := by decide +kernel
theorem dL_law_707 : decode cL_law 707 = .ok (.invokevirtual 86, 3) := by decide +kernel
theorem dL_law_710 : decode cL_law 710 = .ok (.if_icmp .eq 429, 3) := by decide +kernel
theorem dL_law_713 : decode cL_law 713 = .ok (.iconst 0, 1) := by decide +kernel
theorem dL_law_714 : decode cL_law 714 = .ok (.ireturn, 1) := by decide +kernel
theorem dL_law_715 : decode cL_law 715 = .ok (.aload_n 1, 1) := by decide +kernel
theorem dL_law_716 : decode cL_law 716 = .ok (.aload_n 0, 1) := by decide +kernel
theorem dL_law_717 : decode cL_law 717 = .ok (.iload_n 3, 1) := by decide +kernel
theorem dL_law_718 : decode cL_law 718 = .ok (.iconst 1, 1) := by decide +kernel
theorem dL_law_719 : decode cL_law 719 = .ok (.iadd, 1) := by decide +kernel
theorem dL_law_720 : decode cL_law 720 = .ok (.iaload, 1) := by decide +kernel
theorem dL_law_721 : decode cL_law 721 = .ok (.invokevirtual 87, 3) := by decide +kernel
theorem dL_law_724 : decode cL_law 724 = .ok (.aload_n 2, 1) := by decide +kernel
theorem dL_law_725 : decode cL_law 725 = .ok (.aload_n 0, 1) := by decide +kernel
theorem dL_law_726 : decode cL_law 726 = .ok (.iload_n 3, 1) := by decide +kernel
theorem dL_law_727 : decode cL_law 727 = .ok (.iconst 1, 1) := by decide +kernel
theorem dL_law_728 : decode cL_law 728 = .ok (.iadd, 1) := by decide +kernel
theorem dL_law_729 : decode cL_law 729 = .ok (.iaload, 1) := by decide +kernel
theorem dL_law_730 : decode cL_law 730 = .ok (.invokevirtual 90, 3) := by decide +kernel
theorem dL_law_733 : decode cL_law 733 = .ok (.if_icmp .eq 406, 3) := by decide +kernel
theorem dL_law_736 : decode cL_law 736 = .ok (.iconst 0, 1) := by decide +kernel
theorem dL_law_737 : decode cL_law 737 = .ok (.ireturn, 1) := by decide +kernel
theorem dL_law_738 : decode cL_law 738 = .ok (.aload_n 1, 1) := by decide +kernel
theorem dL_law_739 : decode cL_law 739 = .ok (.invokevirtual 91, 3) := by decide +kernel
theorem dL_law_742 : decode cL_law 742 = .ok (.aload_n 2, 1) := by decide +kernel
theorem dL_law_743 : decode cL_law 743 = .ok (.invokevirtual 94, 3) := by decide +kernel
theorem dL_law_746 : decode cL_law 746 = .ok (.if_icmp .eq 393, 3) := by decide +kernel
theorem dL_law_749 : decode cL_law 749 = .ok (.iconst 0, 1) := by decide +kernel
theorem dL_law_750 : decode cL_law 750 = .ok (.ireturn, 1) := by decide +kernel
theorem dL_law_751 : decode cL_law 751 = .ok (.aload_n 1, 1) := by decide +kernel
theorem dL_law_752 : decode cL_law 752 = .ok (.aload_n 0, 1) := by decide +kernel
theorem dL_law_753 : decode cL_law 753 = .ok (.iload_n 3, 1) := by decide +kernel
theorem dL_law_754 : decode cL_law 754 = .ok (.iconst 1, 1) := by decide +kernel
theorem dL_law_755 : decode cL_law 755 = .ok (.iadd, 1) := by decide +kernel
theorem dL_law_756 : decode cL_law 756 = .ok (.iaload, 1) := by decide +kernel
theorem dL_law_757 : decode cL_law 757 = .ok (.aload_n 0, 1) := by decide +kernel
theorem dL_law_758 : decode cL_law 758 = .ok (.iload_n 3, 1) := by decide +kernel
theorem dL_law_759 : decode cL_law 759 = .ok (.iconst 2, 1) := by decide +kernel
theorem dL_law_760 : decode cL_law 760 = .ok (.iadd, 1) := by decide +kernel
theorem dL_law_761 : decode cL_law 761 = .ok (.iaload, 1) := by decide +kernel
theorem dL_law_762 : decode cL_law 762 = .ok (.aload_n 0, 1) := by decide +kernel
theorem dL_law_763 : decode cL_law 763 = .ok (.iload_n 3, 1) := by decide +kernel
theorem dL_law_764 : decode cL_law 764 = .ok (.iconst 3, 1) := by decide +kernel
theorem dL_law_765 : decode cL_law 765 = .ok (.iadd, 1) := by decide +kernel
theorem dL_law_766 : decode cL_law 766 = .ok (.iaload, 1) := by decide +kernel
theorem dL_law_767 : decode cL_law 767 = .ok (.invokevirtual 95, 3) := by decide +kernel
theorem dL_law_770 : decode cL_law 770 = .ok (.aload_n 2, 1) := by decide +kernel
theorem dL_law_771 : decode cL_law 771 = .ok (.aload_n 0, 1) := by decide +kernel
theorem dL_law_772 : decode cL_law 772 = .ok (.iload_n 3, 1) := by decide +kernel
theorem dL_law_773 : decode cL_law 773 = .ok (.iconst 1, 1) := by decide +kernel
theorem dL_law_774 : decode cL_law 774 = .ok (.iadd, 1) := by decide +kernel
theorem dL_law_775 : decode cL_law 775 = .ok (.iaload, 1) := by decide +kernel
theorem dL_law_776 : decode cL_law 776 = .ok (.aload_n 0, 1) := by decide +kernel
theorem dL_law_777 : decode cL_law 777 = .ok (.iload_n 3, 1) := by decide +kernel
theorem dL_law_778 : decode cL_law 778 = .ok (.iconst 2, 1) := by decide +kernel
theorem dL_law_779 : decode cL_law 779 = .ok (.iadd, 1) := by decide +kernel
theorem dL_law_780 : decode cL_law 780 = .ok (.iaload, 1) := by decide +kernel
theorem dL_law_781 : decode cL_law 781 = .ok (.aload_n 0, 1) := by decide +kernel
theorem dL_law_782 : decode cL_law 782 = .ok (.iload_n 3, 1) := by decide +kernel
theorem dL_law_783 : decode cL_law 783 = .ok (.iconst 3, 1) := by decide +kernel
theorem dL_law_784 : decode cL_law 784 = .ok (.iadd, 1) := by decide +kernel
theorem dL_law_785 : decode cL_law 785 = .ok (.iaload, 1) := by decide +kernel
theorem dL_law_786 : decode cL_law 786 = .ok (.invokevirtual 99, 3) := by decide +kernel
theorem dL_law_789 : decode cL_law 789 = .ok (.lcmp, 1) := by decide +kernel
theorem dL_law_790 : decode cL_law 790 = .ok (.ifCond .eq 349, 3) := by decide +kernel
theorem dL_law_793 : decode cL_law 793 = .ok (.iconst 0, 1) := by decide +kernel
theorem dL_law_794 : decode cL_law 794 = .ok (.ireturn, 1) := by decide +kernel
theorem dL_law_795 : decode cL_law 795 = .ok (.aload_n 1, 1) := by decide +kernel
theorem dL_law_796 : decode cL_law 796 = .ok (.aload_n 0, 1) := by decide +kernel
theorem dL_law_797 : decode cL_law 797 = .ok (.iload_n 3, 1) := by decide +kernel
theorem dL_law_798 : decode cL_law 798 = .ok (.iconst 1, 1) := by decide +kernel
theorem dL_law_799 : decode cL_law 799 = .ok (.iadd, 1) := by decide +kernel
theorem dL_law_800 : decode cL_law 800 = .ok (.iaload, 1) := by decide +kernel
theorem dL_law_801 : decode cL_law 801 = .ok (.aload_n 0, 1) := by decide +kernel
theorem dL_law_802 : decode cL_law 802 = .ok (.iload_n 3, 1) := by decide +kernel
theorem dL_law_803 : decode cL_law 803 = .ok (.iconst 2, 1) := by decide +kernel
theorem dL_law_804 : decode cL_law 804 = .ok (.iadd, 1) := by decide +kernel
theorem dL_law_805 : decode cL_law 805 = .ok (.iaload, 1) := by decide +kernel
theorem dL_law_806 : decode cL_law 806 = .ok (.aload_n 0, 1) := by decide +kernel
theorem dL_law_807 : decode cL_law 807 = .ok (.iload_n 3, 1) := by decide +kernel
theorem dL_law_808 : decode cL_law 808 = .ok (.iconst 3, 1) := by decide +kernel
theorem dL_law_809 : decode cL_law 809 = .ok (.iadd, 1) := by decide +kernel
theorem dL_law_810 : decode cL_law 810 = .ok (.iaload, 1) := by decide +kernel
theorem dL_law_811 : decode cL_law 811 = .ok (.invokevirtual 100, 3) := by decide +kernel
theorem dL_law_814 : decode cL_law 814 = .ok (.aload_n 2, 1) := by decide +kernel
theorem dL_law_815 : decode cL_law 815 = .ok (.aload_n 0, 1) := by decide +kernel
theorem dL_law_816 : decode cL_law 816 = .ok (.iload_n 3, 1) := by decide +kernel
theorem dL_law_817 : decode cL_law 817 = .ok (.iconst 1, 1) := by decide +kernel
theorem dL_law_818 : decode cL_law 818 = .ok (.iadd, 1) := by decide +kernel
theorem dL_law_819 : decode cL_law 819 = .ok (.iaload, 1) := by decide +kernel
theorem dL_law_820 : decode cL_law 820 = .ok (.aload_n 0, 1) := by decide +kernel
theorem dL_law_821 : decode cL_law 821 = .ok (.iload_n 3, 1) := by decide +kernel
theorem dL_law_822 : decode cL_law 822 = .ok (.iconst 2, 1) := by decide +kernel
theorem dL_law_823 : decode cL_law 823 = .ok (.iadd, 1) := by decide +kernel
theorem dL_law_824 : decode cL_law 824 = .ok (.iaload, 1) := by decide +kernel
theorem dL_law_825 : decode cL_law 825 = .ok (.aload_n 0, 1) := by decide +kernel
theorem dL_law_826 : decode cL_law 826 = .ok (.iload_n 3, 1) := by decide +kernel
theorem dL_law_827 : decode cL_law 827 = .ok (.iconst 3, 1) := by decide +kernel
theorem dL_law_828 : decode cL_law 828 = .ok (.iadd, 1) := by decide +kernel
theorem dL_law_829 : decode cL_law 829 = .ok (.iaload, 1) := by decide +kernel
theorem dL_law_830 : decode cL_law 830 = .ok (.invokevirtual 103, 3) := by decide +kernel
theorem dL_law_833 : decode cL_law 833 = .ok (.if_icmp .eq 306, 3) := by decide +kernel
theorem dL_law_836 : decode cL_law 836 = .ok (.iconst 0, 1) := by decide +kernel
theorem dL_law_837 : decode cL_law 837 = .ok (.ireturn, 1) := by decide +kernel
theorem dL_law_838 : decode cL_law 838 = .ok (.aload_n 1, 1) := by decide +kernel
theorem dL_law_839 : decode cL_law 839 = .ok (.aload_n 0, 1) := by decide +kernel
theorem dL_law_840 : decode cL_law 840 = .ok (.iload_n 3, 1) := by decide +kernel
theorem dL_law_841 : decode cL_law 841 = .ok (.iconst 1, 1) := by decide +kernel
theorem dL_law_842 : decode cL_law 842 = .ok (.iadd, 1) := by decide +kernel
theorem dL_law_843 : decode cL_law 843 = .ok (.iaload, 1) := by decide +kernel
theorem dL_law_844 : decode cL_law 844 = .ok (.invokevirtual 104, 3) := by decide +kernel
theorem dL_law_847 : decode cL_law 847 = .ok (.aload_n 2, 1) := by decide +kernel
theorem dL_law_848 : decode cL_law 848 = .ok (.aload_n 0, 1) := by decide +kernel
theorem dL_law_849 : decode cL_law 849 = .ok (.iload_n 3, 1) := by decide +kernel
theorem dL_law_850 : decode cL_law 850 = .ok (.iconst 1, 1) := by decide +kernel
theorem dL_law_851 : decode cL_law 851 = .ok (.iadd, 1) := by decide +kernel
theorem dL_law_852 : decode cL_law 852 = .ok (.iaload, 1) := by decide +kernel
theorem dL_law_853 : decode cL_law 853 = .ok (.invokevirtual 107, 3) := by decide +kernel
theorem dL_law_856 : decode cL_law 856 = .ok (.if_icmp .eq 283, 3) := by decide +kernel
theorem dL_law_859 : decode cL_law 859 = .ok (.iconst 0, 1) := by decide +kernel
theorem dL_law_860 : decode cL_law 860 = .ok (.ireturn, 1) := by decide +kernel
theorem dL_law_861 : decode cL_law 861 = .ok (.aload_n 1, 1) := by decide +kernel
theorem dL_law_862 : decode cL_law 862 = .ok (.aload_n 0, 1) := by decide +kernel
theorem dL_law_863 : decode cL_law 863 = .ok (.iload_n 3, 1) := by decide +kernel
theorem dL_law_864 : decode cL_law 864 = .ok (.iconst 1, 1) := by decide +kernel
theorem dL_law_865 : decode cL_law 865 = .ok (.iadd, 1) := by decide +kernel
theorem dL_law_866 : decode cL_law 866 = .ok (.iaload, 1) := by decide +kernel
theorem dL_law_867 : decode cL_law 867 = .ok (.aload_n 0, 1) := by decide +kernel
theorem dL_law_868 : decode cL_law 868 = .ok (.iload_n 3, 1) := by decide +kernel
theorem dL_law_869 : decode cL_law 869 = .ok (.iconst 2, 1) := by decide +kernel
theorem dL_law_870 : decode cL_law 870 = .ok (.iadd, 1) := by decide +kernel
theorem dL_law_871 : decode cL_law 871 = .ok (.iaload, 1) := by decide +kernel
theorem dL_law_872 : decode cL_law 872 = .ok (.aload_n 0, 1) := by decide +kernel
theorem dL_law_873 : decode cL_law 873 = .ok (.iload_n 3, 1) := by decide +kernel
theorem dL_law_874 : decode cL_law 874 = .ok (.iconst 3, 1) := by decide +kernel
theorem dL_law_875 : decode cL_law 875 = .ok (.iadd, 1) := by decide +kernel
theorem dL_law_876 : decode cL_law 876 = .ok (.iaload, 1) := by decide +kernel
theorem dL_law_877 : decode cL_law 877 = .ok (.invokevirtual 108, 3) := by decide +kernel
theorem dL_law_880 : decode cL_law 880 = .ok (.aload_n 2, 1) := by decide +kernel
theorem dL_law_881 : decode cL_law 881 = .ok (.aload_n 0, 1) := by decide +kernel
theorem dL_law_882 : decode cL_law 882 = .ok (.iload_n 3, 1) := by decide +kernel
theorem dL_law_883 : decode cL_law 883 = .ok (.iconst 1, 1) := by decide +kernel
theorem dL_law_884 : decode cL_law 884 = .ok (.iadd, 1) := by decide +kernel
theorem dL_law_885 : decode cL_law 885 = .ok (.iaload, 1) := by decide +kernel
theorem dL_law_886 : decode cL_law 886 = .ok (.aload_n 0, 1) := by decide +kernel
theorem dL_law_887 : decode cL_law 887 = .ok (.iload_n 3, 1) := by decide +kernel
theorem dL_law_888 : decode cL_law 888 = .ok (.iconst 2, 1) := by decide +kernel
theorem dL_law_889 : decode cL_law 889 = .ok (.iadd, 1) := by decide +kernel
theorem dL_law_890 : decode cL_law 890 = .ok (.iaload, 1) := by decide +kernel
theorem dL_law_891 : decode cL_law 891 = .ok (.aload_n 0, 1) := by decide +kernel
theorem dL_law_892 : decode cL_law 892 = .ok (.iload_n 3, 1) := by decide +kernel
theorem dL_law_893 : decode cL_law 893 = .ok (.iconst 3, 1) := by decide +kernel
theorem dL_law_894 : decode cL_law 894 = .ok (.iadd, 1) := by decide +kernel
theorem dL_law_895 : decode cL_law 895 = .ok (.iaload, 1) := by decide +kernel
theorem dL_law_896 : decode cL_law 896 = .ok (.invokevirtual 111, 3) := by decide +kernel
theorem dL_law_899 : decode cL_law 899 = .ok (.if_icmp .eq 240, 3) := by decide +kernel
theorem dL_law_902 : decode cL_law 902 = .ok (.iconst 0, 1) := by decide +kernel
theorem dL_law_903 : decode cL_law 903 = .ok (.ireturn, 1) := by decide +kernel
theorem dL_law_904 : decode cL_law 904 = .ok (.aload_n 1, 1) := by decide +kernel
theorem dL_law_905 : decode cL_law 905 = .ok (.aload_n 0, 1) := by decide +kernel
theorem dL_law_906 : decode cL_law 906 = .ok (.iload_n 3, 1) := by decide +kernel
theorem dL_law_907 : decode cL_law 907 = .ok (.iconst 1, 1) := by decide +kernel
theorem dL_law_908 : decode cL_law 908 = .ok (.iadd, 1) := by decide +kernel
theorem dL_law_909 : decode cL_law 909 = .ok (.iaload, 1) := by decide +kernel
theorem dL_law_910 : decode cL_law 910 = .ok (.aload_n 0, 1) := by decide +kernel
theorem dL_law_911 : decode cL_law 911 = .ok (.iload_n 3, 1) := by decide +kernel
theorem dL_law_912 : decode cL_law 912 = .ok (.iconst 2, 1) := by decide +kernel
theorem dL_law_913 : decode cL_law 913 = .ok (.iadd, 1) := by decide +kernel
theorem dL_law_914 : decode cL_law 914 = .ok (.iaload, 1) := by decide +kernel
theorem dL_law_915 : decode cL_law 915 = .ok (.aload_n 0, 1) := by decide +kernel
theorem dL_law_916 : decode cL_law 916 = .ok (.iload_n 3, 1) := by decide +kernel
theorem dL_law_917 : decode cL_law 917 = .ok (.iconst 3, 1) := by decide +kernel
theorem dL_law_918 : decode cL_law 918 = .ok (.iadd, 1) := by decide +kernel
theorem dL_law_919 : decode cL_law 919 = .ok (.iaload, 1) := by decide +kernel
theorem dL_law_920 : decode cL_law 920 = .ok (.invokevirtual 112, 3) := by decide +kernel
theorem dL_law_923 : decode cL_law 923 = .ok (.aload_n 2, 1) := by decide +kernel
theorem dL_law_924 : decode cL_law 924 = .ok (.aload_n 0, 1) := by decide +kernel
theorem dL_law_925 : decode cL_law 925 = .ok (.iload_n 3, 1) := by decide +kernel
theorem dL_law_926 : decode cL_law 926 = .ok (.iconst 1, 1) := by decide +kernel
theorem dL_law_927 : decode cL_law 927 = .ok (.iadd, 1) := by decide +kernel
theorem dL_law_928 : decode cL_law 928 = .ok (.iaload, 1) := by decide +kernel
theorem dL_law_929 : decode cL_law 929 = .ok (.aload_n 0, 1) := by decide +kernel
theorem dL_law_930 : decode cL_law 930 = .ok (.iload_n 3, 1) := by decide +kernel
theorem dL_law_931 : decode cL_law 931 = .ok (.iconst 2, 1) := by decide +kernel
theorem dL_law_932 : decode cL_law 932 = .ok (.iadd, 1) := by decide +kernel
theorem dL_law_933 : decode cL_law 933 = .ok (.iaload, 1) := by decide +kernel
theorem dL_law_934 : decode cL_law 934 = .ok (.aload_n 0, 1) := by decide +kernel
theorem dL_law_935 : decode cL_law 935 = .ok (.iload_n 3, 1) := by decide +kernel
theorem dL_law_936 : decode cL_law 936 = .ok (.iconst 3, 1) := by decide +kernel
theorem dL_law_937 : decode cL_law 937 = .ok (.iadd, 1) := by decide +kernel
theorem dL_law_938 : decode cL_law 938 = .ok (.iaload, 1) := by decide +kernel
theorem dL_law_939 : decode cL_law 939 = .ok (.invokevirtual 115, 3) := by decide +kernel
theorem dL_law_942 : decode cL_law 942 = .ok (.lcmp, 1) := by decide +kernel
theorem dL_law_943 : decode cL_law 943 = .ok (.ifCond .eq 196, 3) := by decide +kernel
theorem dL_law_946 : decode cL_law 946 = .ok (.iconst 0, 1) := by decide +kernel
theorem dL_law_947 : decode cL_law 947 = .ok (.ireturn, 1) := by decide +kernel
theorem dL_law_948 : decode cL_law 948 = .ok (.aload_n 1, 1) := by decide +kernel
theorem dL_law_949 : decode cL_law 949 = .ok (.aload_n 0, 1) := by decide +kernel
theorem dL_law_950 : decode cL_law 950 = .ok (.iload_n 3, 1) := by decide +kernel
theorem dL_law_951 : decode cL_law 951 = .ok (.iconst 1, 1) := by decide +kernel
theorem dL_law_952 : decode cL_law 952 = .ok (.iadd, 1) := by decide +kernel
theorem dL_law_953 : decode cL_law 953 = .ok (.iaload, 1) := by decide +kernel
theorem dL_law_954 : decode cL_law 954 = .ok (.aload_n 0, 1) := by decide +kernel
theorem dL_law_955 : decode cL_law 955 = .ok (.iload_n 3, 1) := by decide +kernel
theorem dL_law_956 : decode cL_law 956 = .ok (.iconst 2, 1) := by decide +kernel
theorem dL_law_957 : decode cL_law 957 = .ok (.iadd, 1) := by decide +kernel
theorem dL_law_958 : decode cL_law 958 = .ok (.iaload, 1) := by decide +kernel
theorem dL_law_959 : decode cL_law 959 = .ok (.aload_n 0, 1) := by decide +kernel
theorem dL_law_960 : decode cL_law 960 = .ok (.iload_n 3, 1) := by decide +kernel
theorem dL_law_961 : decode cL_law 961 = .ok (.iconst 3, 1) := by decide +kernel
theorem dL_law_962 : decode cL_law 962 = .ok (.iadd, 1) := by decide +kernel
theorem dL_law_963 : decode cL_law 963 = .ok (.iaload, 1) := by decide +kernel
theorem dL_law_964 : decode cL_law 964 = .ok (.aload_n 0, 1) := by decide +kernel
theorem dL_law_965 : decode cL_law 965 = .ok (.iload_n 3, 1) := by decide +kernel
theorem dL_law_966 : decode cL_law 966 = .ok (.iconst 4, 1) := by decide +kernel
theorem dL_law_967 : decode cL_law 967 = .ok (.iadd, 1) := by decide +kernel
theorem dL_law_968 : decode cL_law 968 = .ok (.iaload, 1) := by decide +kernel
theorem dL_law_969 : decode cL_law 969 = .ok (.aload_n 0, 1) := by decide +kernel
theorem dL_law_970 : decode cL_law 970 = .ok (.iload_n 3, 1) := by decide +kernel
theorem dL_law_971 : decode cL_law 971 = .ok (.iconst 5, 1) := by decide +kernel
theorem dL_law_972 : decode cL_law 972 = .ok (.iadd, 1) := by decide +kernel
theorem dL_law_973 : decode cL_law 973 = .ok (.iaload, 1) := by decide +kernel
theorem dL_law_974 : decode cL_law 974 = .ok (.invokevirtual 116, 3) := by decide +kernel
theorem dL_law_977 : decode cL_law 977 = .ok (.aload_n 2, 1) := by decide +kernel
theorem dL_law_978 : decode cL_law 978 = .ok (.aload_n 0, 1) := by decide +kernel
theorem dL_law_979 : decode cL_law 979 = .ok (.iload_n 3, 1) := by decide +kernel
theorem dL_law_980 : decode cL_law 980 = .ok (.iconst 1, 1) := by decide +kernel
theorem dL_law_981 : decode cL_law 981 = .ok (.iadd, 1) := by decide +kernel
theorem dL_law_982 : decode cL_law 982 = .ok (.iaload, 1) := by decide +kernel
theorem dL_law_983 : decode cL_law 983 = .ok (.aload_n 0, 1) := by decide +kernel
theorem dL_law_984 : decode cL_law 984 = .ok (.iload_n 3, 1) := by decide +kernel
theorem dL_law_985 : decode cL_law 985 = .ok (.iconst 2, 1) := by decide +kernel
theorem dL_law_986 : decode cL_law 986 = .ok (.iadd, 1) := by decide +kernel
theorem dL_law_987 : decode cL_law 987 = .ok (.iaload, 1) := by decide +kernel
theorem dL_law_988 : decode cL_law 988 = .ok (.aload_n 0, 1) := by decide +kernel
theorem dL_law_989 : decode cL_law 989 = .ok (.iload_n 3, 1) := by decide +kernel
theorem dL_law_990 : decode cL_law 990 = .ok (.iconst 3, 1) := by decide +kernel
theorem dL_law_991 : decode cL_law 991 = .ok (.iadd, 1) := by decide +kernel
theorem dL_law_992 : decode cL_law 992 = .ok (.iaload, 1) := by decide +kernel
theorem dL_law_993 : decode cL_law 993 = .ok (.aload_n 0, 1) := by decide +kernel
theorem dL_law_994 : decode cL_law 994 = .ok (.iload_n 3, 1) := by decide +kernel
theorem dL_law_995 : decode cL_law 995 = .ok (.iconst 4, 1) := by decide +kernel
theorem dL_law_996 : decode cL_law 996 = .ok (.iadd, 1) := by decide +kernel
theorem dL_law_997 : decode cL_law 997 = .ok (.iaload, 1) := by decide +kernel
theorem dL_law_998 : decode cL_law 998 = .ok (.aload_n 0, 1) := by decide +kernel
theorem dL_law_999 : decode cL_law 999 = .ok (.iload_n 3, 1) := by decide +kernel
theorem dL_law_1000 : decode cL_law 1000 = .ok (.iconst 5, 1) := by decide +kernel
theorem dL_law_1001 : decode cL_law 1001 = .ok (.iadd, 1) := by decide +kernel
theorem dL_law_1002 : decode cL_law 1002 = .ok (.iaload, 1) := by decide +kernel
theorem dL_law_1003 : decode cL_law 1003 = .ok (.invokevirtual 120, 3) := by decide +kernel
theorem dL_law_1006 : decode cL_law 1006 = .ok (.if_icmp .eq 133, 3) := by decide +kernel
theorem dL_law_1009 : decode cL_law 1009 = .ok (.iconst 0, 1) := by decide +kernel
theorem dL_law_1010 : decode cL_law 1010 = .ok (.ireturn, 1) := by decide +kernel
theorem dL_law_1011 : decode cL_law 1011 = .ok (.aload_n 1, 1) := by decide +kernel
theorem dL_law_1012 : decode cL_law 1012 = .ok (.aload_n 0, 1) := by decide +kernel
theorem dL_law_1013 : decode cL_law 1013 = .ok (.iload_n 3, 1) := by decide +kernel
theorem dL_law_1014 : decode cL_law 1014 = .ok (.iconst 1, 1) := by decide +kernel
theorem dL_law_1015 : decode cL_law 1015 = .ok (.iadd, 1) := by decide +kernel
theorem dL_law_1016 : decode cL_law 1016 = .ok (.iaload, 1) := by decide +kernel
theorem dL_law_1017 : decode cL_law 1017 = .ok (.invokevirtual 121, 3) := by decide +kernel
theorem dL_law_1020 : decode cL_law 1020 = .ok (.aload_n 2, 1) := by decide +kernel
theorem dL_law_1021 : decode cL_law 1021 = .ok (.aload_n 0, 1) := by decide +kernel
theorem dL_law_1022 : decode cL_law 1022 = .ok (.iload_n 3, 1) := by decide +kernel
theorem dL_law_1023 : decode cL_law 1023 = .ok (.iconst 1, 1) := by decide +kernel
theorem dL_law_1024 : decode cL_law 1024 = .ok (.iadd, 1) := by decide +kernel
theorem dL_law_1025 : decode cL_law 1025 = .ok (.iaload, 1) := by decide +kernel
theorem dL_law_1026 : decode cL_law 1026 = .ok (.invokevirtual 124, 3) := by decide +kernel
theorem dL_law_1029 : decode cL_law 1029 = .ok (.if_icmp .eq 110, 3) := by decide +kernel
theorem dL_law_1032 : decode cL_law 1032 = .ok (.iconst 0, 1) := by decide +kernel
theorem dL_law_1033 : decode cL_law 1033 = .ok (.ireturn, 1) := by decide +kernel
theorem dL_law_1034 : decode cL_law 1034 = .ok (.aload_n 1, 1) := by decide +kernel
theorem dL_law_1035 : decode cL_law 1035 = .ok (.aload_n 0, 1) := by decide +kernel
theorem dL_law_1036 : decode cL_law 1036 = .ok (.iload_n 3, 1) := by decide +kernel
theorem dL_law_1037 : decode cL_law 1037 = .ok (.iconst 1, 1) := by decide +kernel
theorem dL_law_1038 : decode cL_law 1038 = .ok (.iadd, 1) := by decide +kernel
theorem dL_law_1039 : decode cL_law 1039 = .ok (.iaload, 1) := by decide +kernel
theorem dL_law_1040 : decode cL_law 1040 = .ok (.invokevirtual 125, 3) := by decide +kernel
theorem dL_law_1043 : decode cL_law 1043 = .ok (.aload_n 2, 1) := by decide +kernel
theorem dL_law_1044 : decode cL_law 1044 = .ok (.aload_n 0, 1) := by decide +kernel
theorem dL_law_1045 : decode cL_law 1045 = .ok (.iload_n 3, 1) := by decide +kernel
theorem dL_law_1046 : decode cL_law 1046 = .ok (.iconst 1, 1) := by decide +kernel
theorem dL_law_1047 : decode cL_law 1047 = .ok (.iadd, 1) := by decide +kernel
theorem dL_law_1048 : decode cL_law 1048 = .ok (.iaload, 1) := by decide +kernel
theorem dL_law_1049 : decode cL_law 1049 = .ok (.invokevirtual 128, 3) := by decide +kernel
theorem dL_law_1052 : decode cL_law 1052 = .ok (.if_icmp .eq 87, 3) := by decide +kernel
theorem dL_law_1055 : decode cL_law 1055 = .ok (.iconst 0, 1) := by decide +kernel
theorem dL_law_1056 : decode cL_law 1056 = .ok (.ireturn, 1) := by decide +kernel
theorem dL_law_1057 : decode cL_law 1057 = .ok (.aload_n 1, 1) := by decide +kernel
theorem dL_law_1058 : decode cL_law 1058 = .ok (.aload_n 0, 1) := by decide +kernel
theorem dL_law_1059 : decode cL_law 1059 = .ok (.iload_n 3, 1) := by decide +kernel
theorem dL_law_1060 : decode cL_law 1060 = .ok (.iconst 1, 1) := by decide +kernel
theorem dL_law_1061 : decode cL_law 1061 = .ok (.iadd, 1) := by decide +kernel
theorem dL_law_1062 : decode cL_law 1062 = .ok (.iaload, 1) := by decide +kernel
theorem dL_law_1063 : decode cL_law 1063 = .ok (.aload_n 0, 1) := by decide +kernel
theorem dL_law_1064 : decode cL_law 1064 = .ok (.iload_n 3, 1) := by decide +kernel
theorem dL_law_1065 : decode cL_law 1065 = .ok (.iconst 2, 1) := by decide +kernel
theorem dL_law_1066 : decode cL_law 1066 = .ok (.iadd, 1) := by decide +kernel
theorem dL_law_1067 : decode cL_law 1067 = .ok (.iaload, 1) := by decide +kernel
theorem dL_law_1068 : decode cL_law 1068 = .ok (.invokevirtual 129, 3) := by decide +kernel
theorem dL_law_1071 : decode cL_law 1071 = .ok (.aload_n 2, 1) := by decide +kernel
theorem dL_law_1072 : decode cL_law 1072 = .ok (.aload_n 0, 1) := by decide +kernel
theorem dL_law_1073 : decode cL_law 1073 = .ok (.iload_n 3, 1) := by decide +kernel
theorem dL_law_1074 : decode cL_law 1074 = .ok (.iconst 1, 1) := by decide +kernel
theorem dL_law_1075 : decode cL_law 1075 = .ok (.iadd, 1) := by decide +kernel
theorem dL_law_1076 : decode cL_law 1076 = .ok (.iaload, 1) := by decide +kernel
theorem dL_law_1077 : decode cL_law 1077 = .ok (.aload_n 0, 1) := by decide +kernel
theorem dL_law_1078 : decode cL_law 1078 = .ok (.iload_n 3, 1) := by decide +kernel
theorem dL_law_1079 : decode cL_law 1079 = .ok (.iconst 2, 1) := by decide +kernel
theorem dL_law_1080 : decode cL_law 1080 = .ok (.iadd, 1) := by decide +kernel
theorem dL_law_1081 : decode cL_law 1081 = .ok (.iaload, 1) := by decide +kernel
theorem dL_law_1082 : decode cL_law 1082 = .ok (.invokevirtual 132, 3) := by decide +kernel
theorem dL_law_1085 : decode cL_law 1085 = .ok (.if_icmp .eq 54, 3) := by decide +kernel
theorem dL_law_1088 : decode cL_law 1088 = .ok (.iconst 0, 1) := by decide +kernel
theorem dL_law_1089 : decode cL_law 1089 = .ok (.ireturn, 1) := by decide +kernel
theorem dL_law_1090 : decode cL_law 1090 = .ok (.aload_n 1, 1) := by decide +kernel
theorem dL_law_1091 : decode cL_law 1091 = .ok (.invokevirtual 133, 3) := by decide +kernel
theorem dL_law_1094 : decode cL_law 1094 = .ok (.aload_n 2, 1) := by decide +kernel
theorem dL_law_1095 : decode cL_law 1095 = .ok (.invokevirtual 136, 3) := by decide +kernel
theorem dL_law_1098 : decode cL_law 1098 = .ok (.if_icmp .eq 41, 3) := by decide +kernel
theorem dL_law_1101 : decode cL_law 1101 = .ok (.iconst 0, 1) := by decide +kernel
theorem dL_law_1102 : decode cL_law 1102 = .ok (.ireturn, 1) := by decide +kernel
theorem dL_law_1103 : decode cL_law 1103 = .ok (.aload_n 1, 1) := by decide +kernel
theorem dL_law_1104 : decode cL_law 1104 = .ok (.invokevirtual 137, 3) := by decide +kernel
theorem dL_law_1107 : decode cL_law 1107 = .ok (.aload_n 2, 1) := by decide +kernel
theorem dL_law_1108 : decode cL_law 1108 = .ok (.invokevirtual 140, 3) := by decide +kernel
theorem dL_law_1111 : decode cL_law 1111 = .ok (.if_icmp .eq 28, 3) := by decide +kernel
theorem dL_law_1114 : decode cL_law 1114 = .ok (.iconst 0, 1) := by decide +kernel
theorem dL_law_1115 : decode cL_law 1115 = .ok (.ireturn, 1) := by decide +kernel
theorem dL_law_1116 : decode cL_law 1116 = .ok (.aload_n 1, 1) := by decide +kernel
theorem dL_law_1117 : decode cL_law 1117 = .ok (.aload_n 0, 1) := by decide +kernel
theorem dL_law_1118 : decode cL_law 1118 = .ok (.iload_n 3, 1) := by decide +kernel
theorem dL_law_1119 : decode cL_law 1119 = .ok (.iconst 1, 1) := by decide +kernel
theorem dL_law_1120 : decode cL_law 1120 = .ok (.iadd, 1) := by decide +kernel
theorem dL_law_1121 : decode cL_law 1121 = .ok (.iaload, 1) := by decide +kernel
theorem dL_law_1122 : decode cL_law 1122 = .ok (.invokevirtual 141, 3) := by decide +kernel
theorem dL_law_1125 : decode cL_law 1125 = .ok (.aload_n 2, 1) := by decide +kernel
theorem dL_law_1126 : decode cL_law 1126 = .ok (.aload_n 0, 1) := by decide +kernel
theorem dL_law_1127 : decode cL_law 1127 = .ok (.iload_n 3, 1) := by decide +kernel
theorem dL_law_1128 : decode cL_law 1128 = .ok (.iconst 1, 1) := by decide +kernel
theorem dL_law_1129 : decode cL_law 1129 = .ok (.iadd, 1) := by decide +kernel
theorem dL_law_1130 : decode cL_law 1130 = .ok (.iaload, 1) := by decide +kernel
theorem dL_law_1131 : decode cL_law 1131 = .ok (.invokevirtual 144, 3) := by decide +kernel
theorem dL_law_1134 : decode cL_law 1134 = .ok (.if_icmp .eq 5, 3) := by decide +kernel
theorem dL_law_1137 : decode cL_law 1137 = .ok (.iconst 0, 1) := by decide +kernel
theorem dL_law_1138 : decode cL_law 1138 = .ok (.ireturn, 1) := by decide +kernel
theorem dL_law_1139 : decode cL_law 1139 = .ok (.iinc 3 7, 3) := by decide +kernel
theorem dL_law_1142 : decode cL_law 1142 = .ok (.goto (-1124), 3) := by decide +kernel
theorem dL_law_1145 : decode cL_law 1145 = .ok (.iconst 1, 1) := by decide +kernel
theorem dL_law_1146 : decode cL_law 1146 = .ok (.ireturn, 1) := by decide +kernel
end
section
/-! the walk judgement: J X ws pc lv st: from any heap that holds the world ws, with locals lv and stack st, the machine comes to its end -/
abbrev Cxt : Type := Program × Launch × Env × Room × State × MethodId × Array Value × List Frame × Method × Code × va_G × (Nat → Prop) × (State → Prop) × Nat × Nat × Nat
abbrev xP (X : Cxt) : Program := X.1
abbrev xL (X : Cxt) : Launch := X.2.1
abbrev xE (X : Cxt) : Env := X.2.2.1
abbrev xR (X : Cxt) : Room := X.2.2.2.1
abbrev xS (X : Cxt) : State := X.2.2.2.2.1
abbrev xM (X : Cxt) : MethodId := X.2.2.2.2.2.1
abbrev xa (X : Cxt) : Array Value := X.2.2.2.2.2.2.1
abbrev xB (X : Cxt) : List Frame := X.2.2.2.2.2.2.2.1
abbrev xMe (X : Cxt) : Method := X.2.2.2.2.2.2.2.2.1
abbrev xC (X : Cxt) : Code := X.2.2.2.2.2.2.2.2.2.1
abbrev xD (X : Cxt) : va_G := X.2.2.2.2.2.2.2.2.2.2.1
abbrev xA (X : Cxt) : Nat → Prop := X.2.2.2.2.2.2.2.2.2.2.2.1
abbrev xQ (X : Cxt) : State → Prop := X.2.2.2.2.2.2.2.2.2.2.2.2.1
abbrev xN (X : Cxt) : Nat := X.2.2.2.2.2.2.2.2.2.2.2.2.2.1
abbrev xk (X : Cxt) : Nat := X.2.2.2.2.2.2.2.2.2.2.2.2.2.2.1
abbrev xn (X : Cxt) : Nat := X.2.2.2.2.2.2.2.2.2.2.2.2.2.2.2
/-- the classes of arrays: [I, [Z, [Person, [Sheet, [[I -/
abbrev tyL (cy : Nat → ClassId) : List (ClassId × FieldType) := [(cy 0, .int), (cy 1, .boolean), (cy 2, .object "DebtLamps$Person"), (cy 3, .object "DebtLamps$Sheet"), (cy 4, .array .int)]
/-- links between nest mates -/
def nfL : List (String × Nat × String × String × String) := [("DebtLamps", 89, "DebtLamps$Town", "kindOf", "[I"), ("DebtLamps", 105, "DebtLamps$Town", "pence", "[[I"), ("DebtLamps", 83, "DebtLamps$Town", "people", "I"), ("DebtLamps", 102, "DebtLamps$Town", "bellSteps", "I"), ("DebtLamps", 208, "DebtLamps$Trail", "value", "I"), ("DebtLamps", 150, "DebtLamps$Readings", "count", "I"), ("DebtLamps", 186, "DebtLamps$Sheet", "cells", "[I"), ("DebtLamps", 183, "DebtLamps$Sheet", "lane", "I")]
def nmL : List (String × Nat × MethodName) := [("DebtLamps", 11, yX5_init), ("DebtLamps$Town", 11, yX1_init), ("DebtLamps$Town", 14, yX3_init), ("DebtLamps$Rich", 1, yX1_init), ("DebtLamps$Town", 17, yX0_init), ("DebtLamps$Bankrupt", 1, yX3_init), ("DebtLamps", 26, yX6_init), ("DebtLamps", 33, yX2_init), ("DebtLamps", 40, yX4_init)]
def Nst (U : State) : Prop := (∀ q ∈ nfL, va_Nw (.fieldLinkNest q.1 q.2.1 q.2.2.1 q.2.2.2.1 q.2.2.2.2 "DebtLamps") U) ∧ ∀ q ∈ nmL, va_Nw (.methodLinkNest q.1 q.2.1 q.2.2 "DebtLamps") U
def Kn (D : va_G) (cy : Nat → ClassId) (U : State) : Prop := va_K D vwCl (tyL cy) U ∧ Nst U
theorem Kn.warm {D : va_G} {cy : Nat → ClassId} {s U : State} (hW : s.WarmedH U.vm) (h : Kn D cy s) : Kn D cy U := ⟨va_K.moved hW.alike h.1, fun q hq => va_Nw.warmF hW (h.2.1 q hq), fun q hq => va_Nw.warmM hW (h.2.2 q hq)⟩
theorem Kn.same {D : va_G} {cy : Nat → ClassId} {s U : State} (hv : s.vm = U.vm) (h : Kn D cy s) : Kn D cy U := ⟨va_K.moved (by rw [hv]; exact Vm.Alike.refl _) h.1, fun q hq => va_Nw.same rfl hv (h.2.1 q hq), fun q hq => va_Nw.same rfl hv (h.2.2 q hq)⟩
def J (X : Cxt) (ws : va_W) (pc : Nat) (lv : List (Nat × Value)) (st : List Value) : Prop :=
  ∀ (H : Heap) (locs : List Loc) (ls : Array Slot), va_P (xD X) vwCl ws H → va_D (xA X) ws → va_S (xA X) (xS X).heap H locs → lv_has ls (xN X) lv → W (xP X) (xL X) (xE X) (xR X) (xS X) (xM X) (xa X) (xB X) (xMe X) (xC X) H locs (xk X) (xn X) (xQ X) (F0 (xM X) pc ls st)
/-- what is known of the fixed things -/
def Cx (X : Cxt) (l : Launch) (D : va_G) (cy : Nat → ClassId) (cc : ByteArray) (nL : Nat) (Ts : List Cond) (own : String) (rm : Room) : Prop :=
  ((xP X).tables.exec = Jvm.exec ∧ (xC X).code = cc) ∧ ((xC X).maxLocals = nL ∧ (xS X).vm.findClass own = some (xM X).cls ∧ (∀ w ∈ Ts, w.before (xa X) (xS X) = true)) ∧ (xL X = l ∧ xR X = rm ∧ xD X = D ∧ xN X = nL) ∧ Kn D cy (xS X) ∧ (∀ q, (xS X).heap.size ≤ q → xA X q) ∧ xk X ≤ rm.cells ∧ xn X ≤ rm.slots
/-- a contract: from the world wc, the method y with the arguments av returns rv u, the world is w1 u, for some u with post u -/
def Ct (l : Launch) (y : MethodName) (wl : List Cond) (rm : Room) (D : va_G) (cy : Nat → ClassId) (av : List Value) (wc : va_W) {S : Type} (post : S → Prop) (rv : S → Option Value) (w1 : S → va_W) : Prop :=
  ∀ sz : Nat, Met l y wl rm (va_Pc av (fun U => U.heap.size = sz ∧ va_P D vwCl wc U.heap ∧ Kn D cy U ∧ va_D (fun _ => True) wc)) (fun _ st oc t => (∃ u : S, oc = .returned (rv u) ∧ post u ∧ va_P D vwCl (w1 u) t.heap ∧ va_D (va_A wc sz) (w1 u)) ∧ va_F (va_A wc sz) st t) rm.cells rm.slots (va_A wc sz)
/-- how a walk ends -/
def Rt (X : Cxt) (ret : Option FieldType) {S : Type} (post : S → Prop) (rv : S → Option Value) (w1 : S → va_W) : Prop :=
  xQ X = MQ (xB X) (fun _ st oc t => (∃ u : S, oc = .returned (rv u) ∧ post u ∧ va_P (xD X) vwCl (w1 u) t.heap ∧ va_D (xA X) (w1 u)) ∧ va_F (xA X) st t) (xa X) (xS X) (xk X) (xn X) (xA X) ∧ (xMe X).sig.returnType = ret ∧ (xMe X).locks = false
theorem Ct.of {l : Launch} {y : MethodName} {wl wl' : List Cond} {rm : Room} {D : va_G} {cy : Nat → ClassId} {av : List Value} {wc : va_W} {S : Type} {post : S → Prop} {rv : S → Option Value} {w1 : S → va_W} {cc : ByteArray} {nL : Nat} {ret : Option FieldType} (hw : wl = .code y cc nL ret :: wl') (hy : plainName y.cls = true) (hz : rm.cells = 0 ∧ rm.slots = 0) (hle : (lg_sl av).length ≤ nL)
    (body : ∀ X : Cxt, Cx X l D cy cc nL wl y.cls rm → Rt X ret post rv w1 → J X wc 0 (lv_args 0 av) []) : Ct l y wl rm D cy av wc post rv w1 := by
  intro sz
  rw [hz.1, hz.2]
  refine Met.ofW (cc := cc) (maxL := nL) (ret := ret) hy hw ?_
  intro p e s m args below meth c s₁ B hml hv
  obtain ⟨rfl, hsz, hP, hK, hD0⟩ := hv
  subst hsz
  rw [lg_entry_eq]
  have hts := atoms_spec (ws := wl) B.pre
  exact body (p, l, e, (headSpec wl rm).room, s, m, av.toArray, below, meth, c, D, va_A wc s.heap.size, _, nL, 0, 0)
    ⟨⟨B.exec, B.bytes⟩, ⟨hml, findClass_of_methodNamed B.named, hts⟩, ⟨rfl, rfl, rfl, rfl⟩, hK, fun q h => Or.inr h, Nat.zero_le _, Nat.zero_le _⟩ ⟨rfl, B.returns, B.notSynchronized⟩ s.heap [] _ hP hD0.self va_S.rf (lv_entry av hle)
section JR
variable {X : Cxt} {l : Launch} {D : va_G} {cy : Nat → ClassId} {cc : ByteArray} {nL : Nat} {Ts : List Cond} {own : String} {rm : Room} {ws : va_W} {pc : Nat} {lv : List (Nat × Value)} {st : List Value}
theorem j_iret {S : Type} {post : S → Prop} {rv : S → Option Value} {w1 : S → va_W} {v : Int32} (C : Cx X l D cy cc nL Ts own rm) (E : Rt X (some .int) post rv w1) (hd : decode cc pc = .ok (.ireturn, 1)) (u : S) (hp : post u) (hv : rv u = some (.int v)) (hw : w1 u = ws) : J X ws pc lv [.int v] := by
  subst hw
  intro H locs ls hP hD hS hl
  rw [E.1]
  exact W.iret C.1.1 C.1.2 E.2.1 (fun t ht hW => ⟨⟨u, by rw [hv], hp, by rw [ht]; exact hP, hD⟩, hS.F ht⟩) hS.2.2 hd E.2.2
theorem j_zret {S : Type} {post : S → Prop} {rv : S → Option Value} {w1 : S → va_W} {v : Int32} {ty : FieldType} (C : Cx X l D cy cc nL Ts own rm) (E : Rt X (some ty) post rv w1) (hd : decode cc pc = .ok (.ireturn, 1)) (hn : narrow ty (.int v) = .int v) (u : S) (hp : post u) (hv : rv u = some (.int v)) (hw : w1 u = ws) : J X ws pc lv [.int v] := by
  subst hw
  intro H locs ls hP hD hS hl
  rw [E.1]
  exact W.zret C.1.1 C.1.2 E.2.1 hn (fun t ht hW => ⟨⟨u, by rw [hv], hp, by rw [ht]; exact hP, hD⟩, hS.F ht⟩) hS.2.2 hd E.2.2
theorem j_lret {S : Type} {post : S → Prop} {rv : S → Option Value} {w1 : S → va_W} {v : Int64} (C : Cx X l D cy cc nL Ts own rm) (E : Rt X (some .long) post rv w1) (hd : decode cc pc = .ok (.lreturn, 1)) (u : S) (hp : post u) (hv : rv u = some (.long v)) (hw : w1 u = ws) : J X ws pc lv [.long v] := by
  subst hw
  intro H locs ls hP hD hS hl
  rw [E.1]
  exact W.lret C.1.1 C.1.2 E.2.1 (fun t ht hW => ⟨⟨u, by rw [hv], hp, by rw [ht]; exact hP, hD⟩, hS.F ht⟩) hS.2.2 hd E.2.2
theorem j_aret {S : Type} {post : S → Prop} {rv : S → Option Value} {w1 : S → va_W} {a : Nat} {n : String} (C : Cx X l D cy cc nL Ts own rm) (E : Rt X (some (.object n)) post rv w1) (hd : decode cc pc = .ok (.areturn, 1)) (u : S) (hp : post u) (hv : rv u = some (.ref a)) (hw : w1 u = ws) : J X ws pc lv [.ref a] := by
  subst hw
  intro H locs ls hP hD hS hl
  rw [E.1]
  exact W.aret C.1.1 C.1.2 E.2.1 (Or.inl ⟨n, rfl⟩) (Or.inr ⟨a, rfl⟩) (fun t ht hW => ⟨⟨u, by rw [hv], hp, by rw [ht]; exact hP, hD⟩, hS.F ht⟩) hS.2.2 hd E.2.2
theorem j_vret {S : Type} {post : S → Prop} {rv : S → Option Value} {w1 : S → va_W} (C : Cx X l D cy cc nL Ts own rm) (E : Rt X none post rv w1) (hd : decode cc pc = .ok (.return_, 1)) (u : S) (hp : post u) (hv : rv u = none) (hw : w1 u = ws) : J X ws pc lv [] := by
  subst hw
  intro H locs ls hP hD hS hl
  rw [E.1]
  exact W.vret C.1.1 C.1.2 E.2.1 (fun t ht hW => ⟨⟨u, by rw [hv], hp, by rw [ht]; exact hP, hD⟩, hS.F ht⟩) hS.2.2 hd E.2.2
theorem j_iconst (C : Cx X l D cy cc nL Ts own rm) {n : Int} {v : Int32} (hd : decode cc pc = .ok (.iconst n, 1)) (hv : Int32.ofInt n = v) (k : J X ws (pc + 1) lv (.int v :: st)) : J X ws pc lv st := fun H locs ls hP hD hS hl => lv_iconst C.1.1 C.1.2 hd hv (k H locs ls hP hD hS hl)
theorem j_bipush (C : Cx X l D cy cc nL Ts own rm) {n : Int} {v : Int32} (hd : decode cc pc = .ok (.bipush n, 2)) (hv : (Int8.ofInt n).toInt32 = v) (k : J X ws (pc + 2) lv (.int v :: st)) : J X ws pc lv st := fun H locs ls hP hD hS hl => lv_bipush C.1.1 C.1.2 hd hv (k H locs ls hP hD hS hl)
theorem j_sipush (C : Cx X l D cy cc nL Ts own rm) {n : Int} {v : Int32} (hd : decode cc pc = .ok (.sipush n, 3)) (hv : (Int16.ofInt n).toInt32 = v) (k : J X ws (pc + 3) lv (.int v :: st)) : J X ws pc lv st := fun H locs ls hP hD hS hl => lv_sipush C.1.1 C.1.2 hd hv (k H locs ls hP hD hS hl)
theorem j_lconst (C : Cx X l D cy cc nL Ts own rm) {n : Fin 2} {v : Int64} (hd : decode cc pc = .ok (.lconst n, 1)) (hv : Int64.ofNat (n : Nat) = v) (k : J X ws (pc + 1) lv (.long v :: st)) : J X ws pc lv st := fun H locs ls hP hD hS hl => lv_lconst C.1.1 C.1.2 hd hv (k H locs ls hP hD hS hl)
theorem j_iload_n (C : Cx X l D cy cc nL Ts own rm) {k0 : Fin 4} {i : Nat} {x : Int32} (q : Nat) (hd : decode cc pc = .ok (.iload_n k0, 1)) (hi : (k0 : Nat) = i) (hq : lv[q]? = some (i, .int x)) (k : J X ws (pc + 1) lv (.int x :: st)) : J X ws pc lv st := fun H locs ls hP hD hS hl => lv_iload_n C.1.1 C.1.2 hd hi (lv_at hl q hq) (k H locs ls hP hD hS hl)
theorem j_iload (C : Cx X l D cy cc nL Ts own rm) {i : Nat} {x : Int32} (q : Nat) (hd : decode cc pc = .ok (.iload i, 2)) (hq : lv[q]? = some (i, .int x)) (k : J X ws (pc + 2) lv (.int x :: st)) : J X ws pc lv st := fun H locs ls hP hD hS hl => lv_iload C.1.1 C.1.2 hd (lv_at hl q hq) (k H locs ls hP hD hS hl)
theorem j_istore_n (C : Cx X l D cy cc nL Ts own rm) {k0 : Fin 4} {i : Nat} {x : Int32} {lv' : List (Nat × Value)} (hd : decode cc pc = .ok (.istore_n k0, 1)) (hi : (k0 : Nat) = i) (hn : i < nL) (hv : (i, Value.int x) :: lv.filter (fun q => !(q.1 == i) && !(q.1 + 1 == i && q.2.category == 2)) = lv') (k : J X ws (pc + 1) lv' st) : J X ws pc lv (.int x :: st) := fun H locs ls hP hD hS hl => lv_istore_n C.1.1 C.1.2 hd hi hl (by rw [C.2.2.1.2.2.2]; exact hn) hv (fun ls' hl' => k H locs ls' hP hD hS hl')
theorem j_istore (C : Cx X l D cy cc nL Ts own rm) {i : Nat} {x : Int32} {lv' : List (Nat × Value)} (hd : decode cc pc = .ok (.istore i, 2)) (hn : i < nL) (hv : (i, Value.int x) :: lv.filter (fun q => !(q.1 == i) && !(q.1 + 1 == i && q.2.category == 2)) = lv') (k : J X ws (pc + 2) lv' st) : J X ws pc lv (.int x :: st) := fun H locs ls hP hD hS hl => lv_istore C.1.1 C.1.2 hd hl (by rw [C.2.2.1.2.2.2]; exact hn) hv (fun ls' hl' => k H locs ls' hP hD hS hl')
theorem j_lload_n (C : Cx X l D cy cc nL Ts own rm) {k0 : Fin 4} {i : Nat} {x : Int64} (q : Nat) (hd : decode cc pc = .ok (.lload_n k0, 1)) (hi : (k0 : Nat) = i) (hq : lv[q]? = some (i, .long x)) (k : J X ws (pc + 1) lv (.long x :: st)) : J X ws pc lv st := fun H locs ls hP hD hS hl => lv_lload_n C.1.1 C.1.2 hd hi (lv_at hl q hq) (k H locs ls hP hD hS hl)
theorem j_lload (C : Cx X l D cy cc nL Ts own rm) {i : Nat} {x : Int64} (q : Nat) (hd : decode cc pc = .ok (.lload i, 2)) (hq : lv[q]? = some (i, .long x)) (k : J X ws (pc + 2) lv (.long x :: st)) : J X ws pc lv st := fun H locs ls hP hD hS hl => lv_lload C.1.1 C.1.2 hd (lv_at hl q hq) (k H locs ls hP hD hS hl)
theorem j_lstore_n (C : Cx X l D cy cc nL Ts own rm) {k0 : Fin 4} {i : Nat} {x : Int64} {lv' : List (Nat × Value)} (hd : decode cc pc = .ok (.lstore_n k0, 1)) (hi : (k0 : Nat) = i) (hn : i + 1 < nL) (hv : (i, Value.long x) :: lv.filter (fun q => !(q.1 == i) && (!(q.1 == i + 1) && !(q.1 + 1 == i && q.2.category == 2))) = lv') (k : J X ws (pc + 1) lv' st) : J X ws pc lv (.long x :: st) := fun H locs ls hP hD hS hl => lv_lstore_n C.1.1 C.1.2 hd hi hl (by rw [C.2.2.1.2.2.2]; exact hn) hv (fun ls' hl' => k H locs ls' hP hD hS hl')
theorem j_lstore (C : Cx X l D cy cc nL Ts own rm) {i : Nat} {x : Int64} {lv' : List (Nat × Value)} (hd : decode cc pc = .ok (.lstore i, 2)) (hn : i + 1 < nL) (hv : (i, Value.long x) :: lv.filter (fun q => !(q.1 == i) && (!(q.1 == i + 1) && !(q.1 + 1 == i && q.2.category == 2))) = lv') (k : J X ws (pc + 2) lv' st) : J X ws pc lv (.long x :: st) := fun H locs ls hP hD hS hl => lv_lstore C.1.1 C.1.2 hd hl (by rw [C.2.2.1.2.2.2]; exact hn) hv (fun ls' hl' => k H locs ls' hP hD hS hl')
theorem j_aload_n (C : Cx X l D cy cc nL Ts own rm) {k0 : Fin 4} {i : Nat} {x : Nat} (q : Nat) (hd : decode cc pc = .ok (.aload_n k0, 1)) (hi : (k0 : Nat) = i) (hq : lv[q]? = some (i, .ref x)) (k : J X ws (pc + 1) lv (.ref x :: st)) : J X ws pc lv st := fun H locs ls hP hD hS hl => lv_aload_n C.1.1 C.1.2 hd hi (lv_at hl q hq) (k H locs ls hP hD hS hl)
theorem j_aload (C : Cx X l D cy cc nL Ts own rm) {i : Nat} {x : Nat} (q : Nat) (hd : decode cc pc = .ok (.aload i, 2)) (hq : lv[q]? = some (i, .ref x)) (k : J X ws (pc + 2) lv (.ref x :: st)) : J X ws pc lv st := fun H locs ls hP hD hS hl => lv_aload C.1.1 C.1.2 hd (lv_at hl q hq) (k H locs ls hP hD hS hl)
theorem j_astore_n (C : Cx X l D cy cc nL Ts own rm) {k0 : Fin 4} {i : Nat} {x : Nat} {lv' : List (Nat × Value)} (hd : decode cc pc = .ok (.astore_n k0, 1)) (hi : (k0 : Nat) = i) (hn : i < nL) (hv : (i, Value.ref x) :: lv.filter (fun q => !(q.1 == i) && !(q.1 + 1 == i && q.2.category == 2)) = lv') (k : J X ws (pc + 1) lv' st) : J X ws pc lv (.ref x :: st) := fun H locs ls hP hD hS hl => lv_astore_n C.1.1 C.1.2 hd hi hl (by rw [C.2.2.1.2.2.2]; exact hn) hv (fun ls' hl' => k H locs ls' hP hD hS hl')
theorem j_astore (C : Cx X l D cy cc nL Ts own rm) {i : Nat} {x : Nat} {lv' : List (Nat × Value)} (hd : decode cc pc = .ok (.astore i, 2)) (hn : i < nL) (hv : (i, Value.ref x) :: lv.filter (fun q => !(q.1 == i) && !(q.1 + 1 == i && q.2.category == 2)) = lv') (k : J X ws (pc + 2) lv' st) : J X ws pc lv (.ref x :: st) := fun H locs ls hP hD hS hl => lv_astore C.1.1 C.1.2 hd hl (by rw [C.2.2.1.2.2.2]; exact hn) hv (fun ls' hl' => k H locs ls' hP hD hS hl')
theorem j_iinc (C : Cx X l D cy cc nL Ts own rm) {i : Nat} {n : Int} {x v : Int32} {lv' : List (Nat × Value)} (q : Nat) (hd : decode cc pc = .ok (.iinc i n, 3)) (hq : lv[q]? = some (i, .int x)) (hv : x + Int32.ofInt n = v) (hn : i < nL) (hf : (i, Value.int v) :: lv.filter (fun q => !(q.1 == i) && !(q.1 + 1 == i && q.2.category == 2)) = lv') (k : J X ws (pc + 3) lv' st) : J X ws pc lv st := fun H locs ls hP hD hS hl => lv_iinc C.1.1 C.1.2 hd hl hq hv (by rw [C.2.2.1.2.2.2]; exact hn) hf (fun ls' hl' => k H locs ls' hP hD hS hl')
theorem j_iadd (C : Cx X l D cy cc nL Ts own rm) {x y v : Int32} (hd : decode cc pc = .ok (.iadd, 1)) (hv : x + y = v) (k : J X ws (pc + 1) lv (.int v :: st)) : J X ws pc lv (.int y :: .int x :: st) := fun H locs ls hP hD hS hl => lv_iadd C.1.1 C.1.2 hd (hv.symm ▸ k H locs ls hP hD hS hl)
theorem j_isub (C : Cx X l D cy cc nL Ts own rm) {x y v : Int32} (hd : decode cc pc = .ok (.isub, 1)) (hv : x - y = v) (k : J X ws (pc + 1) lv (.int v :: st)) : J X ws pc lv (.int y :: .int x :: st) := fun H locs ls hP hD hS hl => lv_isub C.1.1 C.1.2 hd (hv.symm ▸ k H locs ls hP hD hS hl)
theorem j_imul (C : Cx X l D cy cc nL Ts own rm) {x y v : Int32} (hd : decode cc pc = .ok (.imul, 1)) (hv : x * y = v) (k : J X ws (pc + 1) lv (.int v :: st)) : J X ws pc lv (.int y :: .int x :: st) := fun H locs ls hP hD hS hl => lv_imul C.1.1 C.1.2 hd (hv.symm ▸ k H locs ls hP hD hS hl)
theorem j_iand (C : Cx X l D cy cc nL Ts own rm) {x y v : Int32} (hd : decode cc pc = .ok (.iand, 1)) (hv : x &&& y = v) (k : J X ws (pc + 1) lv (.int v :: st)) : J X ws pc lv (.int y :: .int x :: st) := fun H locs ls hP hD hS hl => lv_iand C.1.1 C.1.2 hd (hv.symm ▸ k H locs ls hP hD hS hl)
theorem j_ior (C : Cx X l D cy cc nL Ts own rm) {x y v : Int32} (hd : decode cc pc = .ok (.ior, 1)) (hv : x ||| y = v) (k : J X ws (pc + 1) lv (.int v :: st)) : J X ws pc lv (.int y :: .int x :: st) := fun H locs ls hP hD hS hl => lv_ior C.1.1 C.1.2 hd (hv.symm ▸ k H locs ls hP hD hS hl)
theorem j_ixor (C : Cx X l D cy cc nL Ts own rm) {x y v : Int32} (hd : decode cc pc = .ok (.ixor, 1)) (hv : x ^^^ y = v) (k : J X ws (pc + 1) lv (.int v :: st)) : J X ws pc lv (.int y :: .int x :: st) := fun H locs ls hP hD hS hl => lv_ixor C.1.1 C.1.2 hd (hv.symm ▸ k H locs ls hP hD hS hl)
theorem j_ishl (C : Cx X l D cy cc nL Ts own rm) {x y v : Int32} (hd : decode cc pc = .ok (.ishl, 1)) (hv : x <<< (y &&& 31) = v) (k : J X ws (pc + 1) lv (.int v :: st)) : J X ws pc lv (.int y :: .int x :: st) := fun H locs ls hP hD hS hl => lv_ishl C.1.1 C.1.2 hd (hv.symm ▸ k H locs ls hP hD hS hl)
theorem j_ishr (C : Cx X l D cy cc nL Ts own rm) {x y v : Int32} (hd : decode cc pc = .ok (.ishr, 1)) (hv : x >>> (y &&& 31) = v) (k : J X ws (pc + 1) lv (.int v :: st)) : J X ws pc lv (.int y :: .int x :: st) := fun H locs ls hP hD hS hl => lv_ishr C.1.1 C.1.2 hd (hv.symm ▸ k H locs ls hP hD hS hl)
theorem j_iushr (C : Cx X l D cy cc nL Ts own rm) {x y v : Int32} (hd : decode cc pc = .ok (.iushr, 1)) (hv : (x.toUInt32 >>> (y.toUInt32 &&& Int32.toUInt32 31)).toInt32 = v) (k : J X ws (pc + 1) lv (.int v :: st)) : J X ws pc lv (.int y :: .int x :: st) := fun H locs ls hP hD hS hl => lv_iushr C.1.1 C.1.2 hd hv (k H locs ls hP hD hS hl)
theorem j_idiv (C : Cx X l D cy cc nL Ts own rm) {x y v : Int32} (hd : decode cc pc = .ok (.idiv, 1)) (hne : ¬ y = 0) (hv : x / y = v) (k : J X ws (pc + 1) lv (.int v :: st)) : J X ws pc lv (.int y :: .int x :: st) := fun H locs ls hP hD hS hl => lv_idiv C.1.1 C.1.2 hd hne (hv.symm ▸ k H locs ls hP hD hS hl)
theorem j_irem (C : Cx X l D cy cc nL Ts own rm) {x y v : Int32} (hd : decode cc pc = .ok (.irem, 1)) (hne : ¬ y = 0) (hv : x - x / y * y = v) (k : J X ws (pc + 1) lv (.int v :: st)) : J X ws pc lv (.int y :: .int x :: st) := fun H locs ls hP hD hS hl => lv_irem C.1.1 C.1.2 hd hne (hv.symm ▸ k H locs ls hP hD hS hl)
theorem j_ldiv (C : Cx X l D cy cc nL Ts own rm) {x y v : Int64} (hd : decode cc pc = .ok (.ldiv, 1)) (hne : ¬ y = 0) (hv : x / y = v) (k : J X ws (pc + 1) lv (.long v :: st)) : J X ws pc lv (.long y :: .long x :: st) := fun H locs ls hP hD hS hl => lv_ldiv C.1.1 C.1.2 hd hne (hv.symm ▸ k H locs ls hP hD hS hl)
theorem j_lrem (C : Cx X l D cy cc nL Ts own rm) {x y v : Int64} (hd : decode cc pc = .ok (.lrem, 1)) (hne : ¬ y = 0) (hv : x - x / y * y = v) (k : J X ws (pc + 1) lv (.long v :: st)) : J X ws pc lv (.long y :: .long x :: st) := fun H locs ls hP hD hS hl => lv_lrem C.1.1 C.1.2 hd hne (hv.symm ▸ k H locs ls hP hD hS hl)
theorem j_ineg (C : Cx X l D cy cc nL Ts own rm) {x v : Int32} (hd : decode cc pc = .ok (.ineg, 1)) (hv : -x = v) (k : J X ws (pc + 1) lv (.int v :: st)) : J X ws pc lv (.int x :: st) := fun H locs ls hP hD hS hl => lv_ineg C.1.1 C.1.2 hd (hv.symm ▸ k H locs ls hP hD hS hl)
theorem j_i2b (C : Cx X l D cy cc nL Ts own rm) {x v : Int32} (hd : decode cc pc = .ok (.i2b, 1)) (hv : x.toInt8.toInt32 = v) (k : J X ws (pc + 1) lv (.int v :: st)) : J X ws pc lv (.int x :: st) := fun H locs ls hP hD hS hl => lv_i2b C.1.1 C.1.2 hd hv (k H locs ls hP hD hS hl)
theorem j_i2s (C : Cx X l D cy cc nL Ts own rm) {x v : Int32} (hd : decode cc pc = .ok (.i2s, 1)) (hv : x.toInt16.toInt32 = v) (k : J X ws (pc + 1) lv (.int v :: st)) : J X ws pc lv (.int x :: st) := fun H locs ls hP hD hS hl => lv_i2s C.1.1 C.1.2 hd hv (k H locs ls hP hD hS hl)
theorem j_i2l (C : Cx X l D cy cc nL Ts own rm) {x : Int32} {v : Int64} (hd : decode cc pc = .ok (.i2l, 1)) (hv : x.toInt64 = v) (k : J X ws (pc + 1) lv (.long v :: st)) : J X ws pc lv (.int x :: st) := fun H locs ls hP hD hS hl => lv_i2l C.1.1 C.1.2 hd hv (k H locs ls hP hD hS hl)
theorem j_dup (C : Cx X l D cy cc nL Ts own rm) {x : Value} (hd : decode cc pc = .ok (.dup, 1)) (hv : x.category = 1) (k : J X ws (pc + 1) lv (x :: x :: st)) : J X ws pc lv (x :: st) := fun H locs ls hP hD hS hl => lv_dup C.1.1 C.1.2 hd hv (k H locs ls hP hD hS hl)
theorem j_dup2 (C : Cx X l D cy cc nL Ts own rm) {x y : Value} (hd : decode cc pc = .ok (.dup2, 1)) (hx : x.category = 1) (hy : y.category = 1) (k : J X ws (pc + 1) lv (x :: y :: x :: y :: st)) : J X ws pc lv (x :: y :: st) := fun H locs ls hP hD hS hl => lv_dup2_11 C.1.1 C.1.2 hd hx hy (k H locs ls hP hD hS hl)
theorem j_goto (C : Cx X l D cy cc nL Ts own rm) {off : Int} {tgt : Nat} (hd : decode cc pc = .ok (.goto off, 3)) (ht : (pc : Int) + off = (tgt : Int)) (k : J X ws tgt lv st) : J X ws pc lv st := fun H locs ls hP hD hS hl => lv_goto C.1.1 C.1.2 hd ht (k H locs ls hP hD hS hl)
theorem j_icmp_eq (C : Cx X l D cy cc nL Ts own rm) {x y : Int32} {off : Int} {tgt : Nat} (hd : decode cc pc = .ok (.if_icmp .eq off, 3)) (ht : (pc : Int) + off = (tgt : Int)) (kt : x = y → J X ws tgt lv st) (kf : ¬ x = y → J X ws (pc + 3) lv st) : J X ws pc lv (.int y :: .int x :: st) := fun H locs ls hP hD hS hl => lv_icmp_eq C.1.1 C.1.2 hd ht (fun h => kt h H locs ls hP hD hS hl) (fun h => kf h H locs ls hP hD hS hl)
theorem j_if_eq (C : Cx X l D cy cc nL Ts own rm) {x : Int32} {off : Int} {tgt : Nat} (hd : decode cc pc = .ok (.ifCond .eq off, 3)) (ht : (pc : Int) + off = (tgt : Int)) (kt : x = 0 → J X ws tgt lv st) (kf : ¬ x = 0 → J X ws (pc + 3) lv st) : J X ws pc lv (.int x :: st) := fun H locs ls hP hD hS hl => lv_if_eq C.1.1 C.1.2 hd ht (fun h => kt h H locs ls hP hD hS hl) (fun h => kf h H locs ls hP hD hS hl)
theorem j_icmp_eqN (C : Cx X l D cy cc nL Ts own rm) {a b : Nat} {off : Int} {tgt : Nat} (hd : decode cc pc = .ok (.if_icmp .eq off, 3)) (ht : (pc : Int) + off = (tgt : Int)) (ha : a < 2 ^ 31) (hb : b < 2 ^ 31) (kt : a = b → J X ws tgt lv st) (kf : a ≠ b → J X ws (pc + 3) lv st) : J X ws pc lv (.int (nI b) :: .int (nI a) :: st) := j_icmp_eq C hd ht (fun h => kt ((nI_eq ha hb).mp h)) (fun h => kf (fun e => h ((nI_eq ha hb).mpr e)))
theorem j_if_eqN (C : Cx X l D cy cc nL Ts own rm) {a : Nat} {off : Int} {tgt : Nat} (hd : decode cc pc = .ok (.ifCond .eq off, 3)) (ht : (pc : Int) + off = (tgt : Int)) (ha : a < 2 ^ 31) (kt : a = 0 → J X ws tgt lv st) (kf : a ≠ 0 → J X ws (pc + 3) lv st) : J X ws pc lv (.int (nI a) :: st) := by
  have hb : 0 < 2 ^ 31 := by decide
  exact j_if_eq C hd ht (fun h => kt (by rw [← nI_0] at h; exact (nI_eq ha hb).mp h)) (fun h => kf (by rw [← nI_0] at h; exact fun e => h ((nI_eq ha hb).mpr e)))
theorem j_icmp_ne (C : Cx X l D cy cc nL Ts own rm) {x y : Int32} {off : Int} {tgt : Nat} (hd : decode cc pc = .ok (.if_icmp .ne off, 3)) (ht : (pc : Int) + off = (tgt : Int)) (kt : ¬ x = y → J X ws tgt lv st) (kf : x = y → J X ws (pc + 3) lv st) : J X ws pc lv (.int y :: .int x :: st) := fun H locs ls hP hD hS hl => lv_icmp_ne C.1.1 C.1.2 hd ht (fun h => kt h H locs ls hP hD hS hl) (fun h => kf h H locs ls hP hD hS hl)
theorem j_if_ne (C : Cx X l D cy cc nL Ts own rm) {x : Int32} {off : Int} {tgt : Nat} (hd : decode cc pc = .ok (.ifCond .ne off, 3)) (ht : (pc : Int) + off = (tgt : Int)) (kt : ¬ x = 0 → J X ws tgt lv st) (kf : x = 0 → J X ws (pc + 3) lv st) : J X ws pc lv (.int x :: st) := fun H locs ls hP hD hS hl => lv_if_ne C.1.1 C.1.2 hd ht (fun h => kt h H locs ls hP hD hS hl) (fun h => kf h H locs ls hP hD hS hl)
theorem j_icmp_neN (C : Cx X l D cy cc nL Ts own rm) {a b : Nat} {off : Int} {tgt : Nat} (hd : decode cc pc = .ok (.if_icmp .ne off, 3)) (ht : (pc : Int) + off = (tgt : Int)) (ha : a < 2 ^ 31) (hb : b < 2 ^ 31) (kt : a ≠ b → J X ws tgt lv st) (kf : a = b → J X ws (pc + 3) lv st) : J X ws pc lv (.int (nI b) :: .int (nI a) :: st) := j_icmp_ne C hd ht (fun h => kt (fun e => h ((nI_eq ha hb).mpr e))) (fun h => kf ((nI_eq ha hb).mp h))
theorem j_if_neN (C : Cx X l D cy cc nL Ts own rm) {a : Nat} {off : Int} {tgt : Nat} (hd : decode cc pc = .ok (.ifCond .ne off, 3)) (ht : (pc : Int) + off = (tgt : Int)) (ha : a < 2 ^ 31) (kt : a ≠ 0 → J X ws tgt lv st) (kf : a = 0 → J X ws (pc + 3) lv st) : J X ws pc lv (.int (nI a) :: st) := by
  have hb : 0 < 2 ^ 31 := by decide
  exact j_if_ne C hd ht (fun h => kt (by rw [← nI_0] at h; exact fun e => h ((nI_eq ha hb).mpr e))) (fun h => kf (by rw [← nI_0] at h; exact (nI_eq ha hb).mp h))
theorem j_icmp_lt (C : Cx X l D cy cc nL Ts own rm) {x y : Int32} {off : Int} {tgt : Nat} (hd : decode cc pc = .ok (.if_icmp .lt off, 3)) (ht : (pc : Int) + off = (tgt : Int)) (kt : x < y → J X ws tgt lv st) (kf : ¬ x < y → J X ws (pc + 3) lv st) : J X ws pc lv (.int y :: .int x :: st) := fun H locs ls hP hD hS hl => lv_icmp_lt C.1.1 C.1.2 hd ht (fun h => kt h H locs ls hP hD hS hl) (fun h => kf h H locs ls hP hD hS hl)
theorem j_if_lt (C : Cx X l D cy cc nL Ts own rm) {x : Int32} {off : Int} {tgt : Nat} (hd : decode cc pc = .ok (.ifCond .lt off, 3)) (ht : (pc : Int) + off = (tgt : Int)) (kt : x < 0 → J X ws tgt lv st) (kf : ¬ x < 0 → J X ws (pc + 3) lv st) : J X ws pc lv (.int x :: st) := fun H locs ls hP hD hS hl => lv_if_lt C.1.1 C.1.2 hd ht (fun h => kt h H locs ls hP hD hS hl) (fun h => kf h H locs ls hP hD hS hl)
theorem j_icmp_ltN (C : Cx X l D cy cc nL Ts own rm) {a b : Nat} {off : Int} {tgt : Nat} (hd : decode cc pc = .ok (.if_icmp .lt off, 3)) (ht : (pc : Int) + off = (tgt : Int)) (ha : a < 2 ^ 31) (hb : b < 2 ^ 31) (kt : a < b → J X ws tgt lv st) (kf : b ≤ a → J X ws (pc + 3) lv st) : J X ws pc lv (.int (nI b) :: .int (nI a) :: st) := j_icmp_lt C hd ht (fun h => kt ((nI_ltI ha hb).mp h)) (fun h => kf (Nat.not_lt.mp (fun e => h ((nI_ltI ha hb).mpr e))))
theorem j_if_ltN (C : Cx X l D cy cc nL Ts own rm) {a : Nat} {off : Int} {tgt : Nat} (hd : decode cc pc = .ok (.ifCond .lt off, 3)) (ht : (pc : Int) + off = (tgt : Int)) (ha : a < 2 ^ 31) (kt : a < 0 → J X ws tgt lv st) (kf : 0 ≤ a → J X ws (pc + 3) lv st) : J X ws pc lv (.int (nI a) :: st) := by
  have hb : 0 < 2 ^ 31 := by decide
  exact j_if_lt C hd ht (fun h => kt (by rw [← nI_0] at h; exact (nI_ltI ha hb).mp h)) (fun h => kf (by rw [← nI_0] at h; exact Nat.not_lt.mp (fun e => h ((nI_ltI ha hb).mpr e))))
theorem j_icmp_ge (C : Cx X l D cy cc nL Ts own rm) {x y : Int32} {off : Int} {tgt : Nat} (hd : decode cc pc = .ok (.if_icmp .ge off, 3)) (ht : (pc : Int) + off = (tgt : Int)) (kt : y ≤ x → J X ws tgt lv st) (kf : ¬ y ≤ x → J X ws (pc + 3) lv st) : J X ws pc lv (.int y :: .int x :: st) := fun H locs ls hP hD hS hl => lv_icmp_ge C.1.1 C.1.2 hd ht (fun h => kt h H locs ls hP hD hS hl) (fun h => kf h H locs ls hP hD hS hl)
theorem j_if_ge (C : Cx X l D cy cc nL Ts own rm) {x : Int32} {off : Int} {tgt : Nat} (hd : decode cc pc = .ok (.ifCond .ge off, 3)) (ht : (pc : Int) + off = (tgt : Int)) (kt : 0 ≤ x → J X ws tgt lv st) (kf : ¬ 0 ≤ x → J X ws (pc + 3) lv st) : J X ws pc lv (.int x :: st) := fun H locs ls hP hD hS hl => lv_if_ge C.1.1 C.1.2 hd ht (fun h => kt h H locs ls hP hD hS hl) (fun h => kf h H locs ls hP hD hS hl)
theorem j_icmp_geN (C : Cx X l D cy cc nL Ts own rm) {a b : Nat} {off : Int} {tgt : Nat} (hd : decode cc pc = .ok (.if_icmp .ge off, 3)) (ht : (pc : Int) + off = (tgt : Int)) (ha : a < 2 ^ 31) (hb : b < 2 ^ 31) (kt : b ≤ a → J X ws tgt lv st) (kf : a < b → J X ws (pc + 3) lv st) : J X ws pc lv (.int (nI b) :: .int (nI a) :: st) := j_icmp_ge C hd ht (fun h => kt ((nI_leI hb ha).mp h)) (fun h => kf (Nat.not_le.mp (fun e => h ((nI_leI hb ha).mpr e))))
theorem j_if_geN (C : Cx X l D cy cc nL Ts own rm) {a : Nat} {off : Int} {tgt : Nat} (hd : decode cc pc = .ok (.ifCond .ge off, 3)) (ht : (pc : Int) + off = (tgt : Int)) (ha : a < 2 ^ 31) (kt : 0 ≤ a → J X ws tgt lv st) (kf : a < 0 → J X ws (pc + 3) lv st) : J X ws pc lv (.int (nI a) :: st) := by
  have hb : 0 < 2 ^ 31 := by decide
  exact j_if_ge C hd ht (fun h => kt (by rw [← nI_0] at h; exact (nI_leI hb ha).mp h)) (fun h => kf (by rw [← nI_0] at h; exact Nat.not_le.mp (fun e => h ((nI_leI hb ha).mpr e))))
theorem j_icmp_gt (C : Cx X l D cy cc nL Ts own rm) {x y : Int32} {off : Int} {tgt : Nat} (hd : decode cc pc = .ok (.if_icmp .gt off, 3)) (ht : (pc : Int) + off = (tgt : Int)) (kt : y < x → J X ws tgt lv st) (kf : ¬ y < x → J X ws (pc + 3) lv st) : J X ws pc lv (.int y :: .int x :: st) := fun H locs ls hP hD hS hl => lv_icmp_gt C.1.1 C.1.2 hd ht (fun h => kt h H locs ls hP hD hS hl) (fun h => kf h H locs ls hP hD hS hl)
theorem j_if_gt (C : Cx X l D cy cc nL Ts own rm) {x : Int32} {off : Int} {tgt : Nat} (hd : decode cc pc = .ok (.ifCond .gt off, 3)) (ht : (pc : Int) + off = (tgt : Int)) (kt : 0 < x → J X ws tgt lv st) (kf : ¬ 0 < x → J X ws (pc + 3) lv st) : J X ws pc lv (.int x :: st) := fun H locs ls hP hD hS hl => lv_if_gt C.1.1 C.1.2 hd ht (fun h => kt h H locs ls hP hD hS hl) (fun h => kf h H locs ls hP hD hS hl)
theorem j_icmp_gtN (C : Cx X l D cy cc nL Ts own rm) {a b : Nat} {off : Int} {tgt : Nat} (hd : decode cc pc = .ok (.if_icmp .gt off, 3)) (ht : (pc : Int) + off = (tgt : Int)) (ha : a < 2 ^ 31) (hb : b < 2 ^ 31) (kt : b < a → J X ws tgt lv st) (kf : a ≤ b → J X ws (pc + 3) lv st) : J X ws pc lv (.int (nI b) :: .int (nI a) :: st) := j_icmp_gt C hd ht (fun h => kt ((nI_ltI hb ha).mp h)) (fun h => kf (Nat.not_lt.mp (fun e => h ((nI_ltI hb ha).mpr e))))
theorem j_if_gtN (C : Cx X l D cy cc nL Ts own rm) {a : Nat} {off : Int} {tgt : Nat} (hd : decode cc pc = .ok (.ifCond .gt off, 3)) (ht : (pc : Int) + off = (tgt : Int)) (ha : a < 2 ^ 31) (kt : 0 < a → J X ws tgt lv st) (kf : a ≤ 0 → J X ws (pc + 3) lv st) : J X ws pc lv (.int (nI a) :: st) := by
  have hb : 0 < 2 ^ 31 := by decide
  exact j_if_gt C hd ht (fun h => kt (by rw [← nI_0] at h; exact (nI_ltI hb ha).mp h)) (fun h => kf (by rw [← nI_0] at h; exact Nat.not_lt.mp (fun e => h ((nI_ltI hb ha).mpr e))))
theorem j_icmp_le (C : Cx X l D cy cc nL Ts own rm) {x y : Int32} {off : Int} {tgt : Nat} (hd : decode cc pc = .ok (.if_icmp .le off, 3)) (ht : (pc : Int) + off = (tgt : Int)) (kt : x ≤ y → J X ws tgt lv st) (kf : ¬ x ≤ y → J X ws (pc + 3) lv st) : J X ws pc lv (.int y :: .int x :: st) := fun H locs ls hP hD hS hl => lv_icmp_le C.1.1 C.1.2 hd ht (fun h => kt h H locs ls hP hD hS hl) (fun h => kf h H locs ls hP hD hS hl)
theorem j_if_le (C : Cx X l D cy cc nL Ts own rm) {x : Int32} {off : Int} {tgt : Nat} (hd : decode cc pc = .ok (.ifCond .le off, 3)) (ht : (pc : Int) + off = (tgt : Int)) (kt : x ≤ 0 → J X ws tgt lv st) (kf : ¬ x ≤ 0 → J X ws (pc + 3) lv st) : J X ws pc lv (.int x :: st) := fun H locs ls hP hD hS hl => lv_if_le C.1.1 C.1.2 hd ht (fun h => kt h H locs ls hP hD hS hl) (fun h => kf h H locs ls hP hD hS hl)
theorem j_icmp_leN (C : Cx X l D cy cc nL Ts own rm) {a b : Nat} {off : Int} {tgt : Nat} (hd : decode cc pc = .ok (.if_icmp .le off, 3)) (ht : (pc : Int) + off = (tgt : Int)) (ha : a < 2 ^ 31) (hb : b < 2 ^ 31) (kt : a ≤ b → J X ws tgt lv st) (kf : b < a → J X ws (pc + 3) lv st) : J X ws pc lv (.int (nI b) :: .int (nI a) :: st) := j_icmp_le C hd ht (fun h => kt ((nI_leI ha hb).mp h)) (fun h => kf (Nat.not_le.mp (fun e => h ((nI_leI ha hb).mpr e))))
theorem j_if_leN (C : Cx X l D cy cc nL Ts own rm) {a : Nat} {off : Int} {tgt : Nat} (hd : decode cc pc = .ok (.ifCond .le off, 3)) (ht : (pc : Int) + off = (tgt : Int)) (ha : a < 2 ^ 31) (kt : a ≤ 0 → J X ws tgt lv st) (kf : 0 < a → J X ws (pc + 3) lv st) : J X ws pc lv (.int (nI a) :: st) := by
  have hb : 0 < 2 ^ 31 := by decide
  exact j_if_le C hd ht (fun h => kt (by rw [← nI_0] at h; exact (nI_leI ha hb).mp h)) (fun h => kf (by rw [← nI_0] at h; exact Nat.not_le.mp (fun e => h ((nI_leI ha hb).mpr e))))
theorem j_table {x : Int32} {dflt lo hi : Int} {offs : Array Int} {len : Nat} (C : Cx X l D cy cc nL Ts own rm) (hd : decode cc pc = .ok (.tableswitch dflt lo hi offs, len)) (td : Nat) (htd : (pc : Int) + dflt = (td : Int)) (kd : (x.toInt < lo ∨ hi < x.toInt) → J X ws td lv st) (kt : ¬ x.toInt < lo → ¬ hi < x.toInt → ∃ (off : Int) (tgt : Nat), offs[(x.toInt - lo).toNat]? = some off ∧ (pc : Int) + off = (tgt : Int) ∧ J X ws tgt lv st) : J X ws pc lv (.int x :: st) := by
  intro H locs ls hP hD hS hl
  by_cases h1 : x.toInt < lo
  · exact lv_tableOut C.1.1 C.1.2 hd (Or.inl h1) htd (kd (Or.inl h1) H locs ls hP hD hS hl)
  · by_cases h2 : hi < x.toInt
    · exact lv_tableOut C.1.1 C.1.2 hd (Or.inr h2) htd (kd (Or.inr h2) H locs ls hP hD hS hl)
    · obtain ⟨off, tgt, h3, h4, k⟩ := kt h1 h2
      exact lv_tableIn C.1.1 C.1.2 hd h1 h2 h3 h4 (k H locs ls hP hD hS hl)
theorem j_lookup {x : Int32} {dflt : Int} {ps : Array (Int × Int)} {len : Nat} {off : Int} {tgt : Nat} (C : Cx X l D cy cc nL Ts own rm) (hd : decode cc pc = .ok (.lookupswitch dflt ps, len)) (hp : (ps.toList.zip (ps.toList.drop 1)).all (fun (a, next) => a.1 < next.1) = true) (ho : Op.lookupswitch.offset ps.toList dflt x.toInt = off) (ht : (pc : Int) + off = (tgt : Int)) (k : J X ws tgt lv st) : J X ws pc lv (.int x :: st) := fun H locs ls hP hD hS hl => lv_lookup C.1.1 C.1.2 hd hp ho ht (k H locs ls hP hD hS hl)
theorem j_ldc2 {index : Nat} {v : Int64} (C : Cx X l D cy cc nL Ts own rm) (hc : Cond.constantLong own index v ∈ Ts) (hd : decode cc pc = .ok (.ldc2_w index, 3)) (k : J X ws (pc + 3) lv (.long v :: st)) : J X ws pc lv st := fun H locs ls hP hD hS hl => lv_ldc2 C.1.1 C.1.2 C.2.1.2.1 (C.2.1.2.2 _ hc) hd (k H locs ls hP hD hS hl)
theorem j_get {a ci N index : Nat} {fs : List Value} {Cn ref : String} {T : u_T} {v : Value} (C : Cx X l D cy cc nL Ts own rm) (hin : ∀ w ∈ u_ws Cn T N, w ∈ Ts) (k0 : Nat) (hlk : Cond.fieldLink own index ref (T k0).2.1 (T k0).2.2.1 ∈ Ts) (q0 : Nat) (he : ws[q0]? = some (a, .inr (ci, fs))) (hc : vwCl[ci]? = some (Cn, T, N)) (hk : k0 < N) (hrf : (T k0).1 = ref) (hv : fs[k0]? = some v) (hd : decode cc pc = .ok (.getfield index, 3)) (k : J X ws (pc + 3) lv (v :: st)) : J X ws pc lv (.ref a :: st) := by
  intro H locs ls hP hD hS hl
  have hK := C.2.2.2.1.1
  rw [C.2.2.1.2.2.1] at hP
  exact va_get C.1.1 C.1.2 C.2.1.2.2 hin C.2.1.2.1 hK hP q0 he hc k0 hk (C.2.1.2.2 _ hlk) (fun x h => by rw [← hrf]; exact h) hv hd (k H locs ls (by rw [C.2.2.1.2.2.1]; exact hP) hD hS hl)
theorem j_getN {a ci N index : Nat} {fs : List Value} {Cn ref : String} {T : u_T} {v : Value} (C : Cx X l D cy cc nL Ts own rm) (hin : ∀ w ∈ u_ws Cn T N, w ∈ Ts) (k0 : Nat) (hlk : (own, index, ref, (T k0).2.1, (T k0).2.2.1) ∈ nfL) (q0 : Nat) (he : ws[q0]? = some (a, .inr (ci, fs))) (hc : vwCl[ci]? = some (Cn, T, N)) (hk : k0 < N) (hrf : (T k0).1 = ref) (hv : fs[k0]? = some v) (hd : decode cc pc = .ok (.getfield index, 3)) (k : J X ws (pc + 3) lv (v :: st)) : J X ws pc lv (.ref a :: st) := by
  intro H locs ls hP hD hS hl
  have hK := C.2.2.2.1.1
  rw [C.2.2.1.2.2.1] at hP
  exact va_getN (host := "DebtLamps") C.1.1 C.1.2 C.2.1.2.2 hin C.2.1.2.1 hK hP q0 he hc k0 hk (va_Nw.use rfl (C.2.2.2.1.2.1 _ hlk)) (fun x h => by rw [← hrf]; exact h) hv hd (k H locs ls (by rw [C.2.2.1.2.2.1]; exact hP) hD hS hl)
theorem j_put {a ci N index : Nat} {fs : List Value} {Cn ref : String} {T : u_T} {x : Int32} {ws' : va_W} (C : Cx X l D cy cc nL Ts own rm) (hin : ∀ w ∈ u_ws Cn T N, w ∈ Ts) (k0 : Nat) (hlk : Cond.fieldLink own index ref (T k0).2.1 (T k0).2.2.1 ∈ Ts) (ty0 : Nat → FieldType) (hty : ∀ k, k < N → parseFieldDescriptor (T k).2.2.1 = some (ty0 k)) (hnm : ∀ a, a < N → ∀ b, b < N → a ≠ b → (T a).2.1 ≠ (T b).2.1) (q0 : Nat) (he : ws[q0]? = some (a, .inr (ci, fs))) (hc : vwCl[ci]? = some (Cn, T, N)) (hk : k0 < N) (hrf : (T k0).1 = ref) (hfin : (T k0).2.2.2 = false) (hds : parseFieldDescriptor (T k0).2.2.1 = some .int) (hln : k0 < fs.length) (hw : ws.set q0 (a, .inr (ci, fs.set k0 (.int x))) = ws') (hd : decode cc pc = .ok (.putfield index, 3)) (k : J X ws' (pc + 3) lv st) : J X ws pc lv (.int x :: .ref a :: st) := by
  intro H locs ls hP hD hS hl
  have hK := C.2.2.2.1.1
  rw [C.2.2.1.2.2.1] at hP
  subst hw
  exact va_put C.1.1 C.1.2 C.2.1.2.2 hin ty0 hty hnm C.2.1.2.1 hK hP hD hS q0 he hc k0 hk (C.2.1.2.2 _ hlk) (fun x h => by rw [← hrf]; exact h) hfin hds rfl rfl hln hd (fun H1 locs1 p1 d1 s1 => k H1 locs1 ls (by rw [C.2.2.1.2.2.1]; exact p1) d1 s1 hl)
theorem j_putN {a ci N index : Nat} {fs : List Value} {Cn ref : String} {T : u_T} {x : Int32} {ws' : va_W} (C : Cx X l D cy cc nL Ts own rm) (hin : ∀ w ∈ u_ws Cn T N, w ∈ Ts) (k0 : Nat) (hlk : (own, index, ref, (T k0).2.1, (T k0).2.2.1) ∈ nfL) (ty0 : Nat → FieldType) (hty : ∀ k, k < N → parseFieldDescriptor (T k).2.2.1 = some (ty0 k)) (hnm : ∀ a, a < N → ∀ b, b < N → a ≠ b → (T a).2.1 ≠ (T b).2.1) (q0 : Nat) (he : ws[q0]? = some (a, .inr (ci, fs))) (hc : vwCl[ci]? = some (Cn, T, N)) (hk : k0 < N) (hrf : (T k0).1 = ref) (hfin : (T k0).2.2.2 = false) (hds : parseFieldDescriptor (T k0).2.2.1 = some .int) (hln : k0 < fs.length) (hw : ws.set q0 (a, .inr (ci, fs.set k0 (.int x))) = ws') (hd : decode cc pc = .ok (.putfield index, 3)) (k : J X ws' (pc + 3) lv st) : J X ws pc lv (.int x :: .ref a :: st) := by
  intro H locs ls hP hD hS hl
  have hK := C.2.2.2.1.1
  rw [C.2.2.1.2.2.1] at hP
  subst hw
  exact va_putN (host := "DebtLamps") C.1.1 C.1.2 C.2.1.2.2 hin ty0 hty hnm C.2.1.2.1 hK hP hD hS q0 he hc k0 hk (va_Nw.use rfl (C.2.2.2.1.2.1 _ hlk)) (fun x h => by rw [← hrf]; exact h) hfin hds rfl rfl hln hd (fun H1 locs1 p1 d1 s1 => k H1 locs1 ls (by rw [C.2.2.1.2.2.1]; exact p1) d1 s1 hl)
theorem j_iald {a n j : Nat} {f : Nat → Int32} {v : Int32} (C : Cx X l D cy cc nL Ts own rm) (q0 : Nat) (ha : ws[q0]? = some (a, .inl (cy 0, n, .inl f))) (hj : j < n) (hn : n < 2 ^ 31) (hv : f j = v) (hd : decode cc pc = .ok (.iaload, 1)) (k : J X ws (pc + 1) lv (.int v :: st)) : J X ws pc lv (.int (nI j) :: .ref a :: st) := by
  intro H locs ls hP hD hS hl
  have hK := C.2.2.2.1.1
  rw [C.2.2.1.2.2.1] at hP
  refine va_iald C.1.1 C.1.2 hK hP q0 0 ha rfl (vp_in_nI hj hn) hd ?_
  rw [nI_clamp (Nat.lt_trans hj hn), hv]
  exact k H locs ls (by rw [C.2.2.1.2.2.1]; exact hP) hD hS hl
theorem j_zald {a n j : Nat} {f : Nat → Int32} {v : Int32} (C : Cx X l D cy cc nL Ts own rm) (q0 : Nat) (ha : ws[q0]? = some (a, .inl (cy 1, n, .inl f))) (hj : j < n) (hn : n < 2 ^ 31) (hv : f j = v) (hd : decode cc pc = .ok (.baload, 1)) (k : J X ws (pc + 1) lv (.int v :: st)) : J X ws pc lv (.int (nI j) :: .ref a :: st) := by
  intro H locs ls hP hD hS hl
  have hK := C.2.2.2.1.1
  rw [C.2.2.1.2.2.1] at hP
  refine va_zald C.1.1 C.1.2 hK hP q0 1 ha rfl (vp_in_nI hj hn) hd ?_
  rw [nI_clamp (Nat.lt_trans hj hn), hv]
  exact k H locs ls (by rw [C.2.2.1.2.2.1]; exact hP) hD hS hl
theorem j_iast {a n j : Nat} {f : Nat → Int32} {x : Int32} {ws' : va_W} (C : Cx X l D cy cc nL Ts own rm) (q0 : Nat) (ha : ws[q0]? = some (a, .inl (cy 0, n, .inl f))) (hj : j < n) (hn : n < 2 ^ 31) (hw : ws.set q0 (a, .inl (cy 0, n, .inl (upd f j x))) = ws') (hd : decode cc pc = .ok (.iastore, 1)) (k : J X ws' (pc + 1) lv st) : J X ws pc lv (.int x :: .int (nI j) :: .ref a :: st) := by
  intro H locs ls hP hD hS hl
  have hK := C.2.2.2.1.1
  rw [C.2.2.1.2.2.1] at hP
  subst hw
  refine va_iast C.1.1 C.1.2 hK hP hD hS q0 0 ha rfl (vp_in_nI hj hn) hd (fun H1 locs1 p1 d1 s1 => ?_)
  rw [nI_clamp (Nat.lt_trans hj hn)] at p1 d1
  exact k H1 locs1 ls (by rw [C.2.2.1.2.2.1]; exact p1) d1 s1 hl
theorem j_zast {a n j : Nat} {f : Nat → Int32} {x : Int32} {ws' : va_W} (C : Cx X l D cy cc nL Ts own rm) (q0 : Nat) (ha : ws[q0]? = some (a, .inl (cy 1, n, .inl f))) (hj : j < n) (hn : n < 2 ^ 31) (hz : vp_nar .boolean x = x) (hw : ws.set q0 (a, .inl (cy 1, n, .inl (upd f j x))) = ws') (hd : decode cc pc = .ok (.bastore, 1)) (k : J X ws' (pc + 1) lv st) : J X ws pc lv (.int x :: .int (nI j) :: .ref a :: st) := by
  intro H locs ls hP hD hS hl
  have hK := C.2.2.2.1.1
  rw [C.2.2.1.2.2.1] at hP
  subst hw
  refine va_zast C.1.1 C.1.2 hK hP hD hS q0 1 ha rfl (vp_in_nI hj hn) hd (fun H1 locs1 p1 d1 s1 => ?_)
  rw [nI_clamp (Nat.lt_trans hj hn), hz] at p1 d1
  exact k H1 locs1 ls (by rw [C.2.2.1.2.2.1]; exact p1) d1 s1 hl
theorem j_aald {a n j b t0 : Nat} {f : Nat → Option Nat} {Cn : String} (C : Cx X l D cy cc nL Ts own rm) (q0 : Nat) (ha : ws[q0]? = some (a, .inl (cy t0, n, .inr (.inr (.inr (.inr f)))))) (ht : (tyL cy)[t0]? = some (cy t0, .object Cn)) (hj : j < n) (hn : n < 2 ^ 31) (hv : f j = some b) (hd : decode cc pc = .ok (.aaload, 1)) (k : J X ws (pc + 1) lv (.ref b :: st)) : J X ws pc lv (.int (nI j) :: .ref a :: st) := by
  intro H locs ls hP hD hS hl
  have hK := C.2.2.2.1.1
  rw [C.2.2.1.2.2.1] at hP
  refine va_aldq C.1.1 C.1.2 hK hP q0 t0 ha ht (vp_in_nI hj hn) hd ?_
  rw [nI_clamp (Nat.lt_trans hj hn), hv]
  exact k H locs ls (by rw [C.2.2.1.2.2.1]; exact hP) hD hS hl
theorem j_gald {a n j b : Nat} {f : Nat → Option Nat} (C : Cx X l D cy cc nL Ts own rm) (q0 : Nat) (ha : ws[q0]? = some (a, .inl (cy 4, n, .inr (.inr (.inr (.inr f)))))) (hj : j < n) (hn : n < 2 ^ 31) (hv : f j = some b) (hd : decode cc pc = .ok (.aaload, 1)) (k : J X ws (pc + 1) lv (.ref b :: st)) : J X ws pc lv (.int (nI j) :: .ref a :: st) := by
  intro H locs ls hP hD hS hl
  have hK := C.2.2.2.1.1
  rw [C.2.2.1.2.2.1] at hP
  have hc := nI_clamp (Nat.lt_trans hj hn)
  have hin : ¬ (nI j < 0 ∨ n ≤ (nI j).toNatClampNeg) := vp_in_nI hj hn
  exact W.aald (v := .ref b) (ty := .array .int) C.1.1 C.1.2 (hP q0 _ ha) ((hK.2 4 _ rfl).1 n (fun j => va_rf (f j))) rfl (fun q => by cases q) (by show ¬ (nI j < 0 ∨ (arrV _ _ _).slots.size ≤ _); rw [arrV_size]; exact hin) (by show (arrV _ _ _).slots[_]? = _; rw [hc, arrV_read _ _ hj, hv]; rfl) rfl rfl hd (k H locs ls (by rw [C.2.2.1.2.2.1]; exact hP) hD hS hl)
theorem J.eq {ws' : va_W} {lv' : List (Nat × Value)} {st' : List Value} (k : J X ws' pc lv' st') (hw : ws = ws') (hl : lv = lv') (hs : st = st') : J X ws pc lv st := by subst hw; subst hl; subst hs; exact k
theorem J.sub {lv' : List (Nat × Value)} (ks : List Nat) (hl : lv_pick lv ks = lv') (k : J X ws pc lv' st) : J X ws pc lv st := fun H locs ls hP hD hS h => k H locs ls hP hD hS (lv_sub h ks hl)
end JR
theorem dD_l {A : Nat → Prop} {w1 w2 : va_W} (h : va_D A (w1 ++ w2)) : va_D A w1 := by
  have e : ∀ (i : Nat) (p : Nat × va_E), w1[i]? = some p → (w1 ++ w2)[i]? = some p := fun i p hi => by
    rw [List.getElem?_append_left (List.getElem?_eq_some_iff.mp hi).1]; exact hi
  exact ⟨fun i j p q hi hj he => h.1 i j p q (e i p hi) (e j q hj) he, fun k q hk => h.2 k q (e k q hk)⟩
theorem dD_r {A : Nat → Prop} {w1 w2 : va_W} (h : va_D A (w1 ++ w2)) : va_D A w2 := by
  have e : ∀ (i : Nat) (p : Nat × va_E), w2[i]? = some p → (w1 ++ w2)[w1.length + i]? = some p := fun i p hi => by
    rw [List.getElem?_append_right (Nat.le_add_right _ _), Nat.add_sub_cancel_left]; exact hi
  exact ⟨fun i j p q hi hj he => Nat.add_left_cancel (h.1 _ _ p q (e i p hi) (e j q hj) he), fun k q hk => h.2 _ q (e k q hk)⟩
theorem dD_x {A : Nat → Prop} {w1 w2 : va_W} (h : va_D A (w1 ++ w2)) (i j : Nat) (p q : Nat × va_E) (hi : w1[i]? = some p) (hj : w2[j]? = some q) : p.1 ≠ q.1 := by
  intro he
  have h1 : i < w1.length := (List.getElem?_eq_some_iff.mp hi).1
  have h2 := h.1 i (w1.length + j) p q (by rw [List.getElem?_append_left h1]; exact hi) (by rw [List.getElem?_append_right (Nat.le_add_right _ _), Nat.add_sub_cancel_left]; exact hj) he
  omega
theorem dP_l {D : va_G} {cl : List vw_C} {w1 w2 : va_W} {H : Heap} (h : va_P D cl (w1 ++ w2) H) : va_P D cl w1 H := fun k q hk => h k q (by rw [List.getElem?_append_left (List.getElem?_eq_some_iff.mp hk).1]; exact hk)
theorem dP_r {D : va_G} {cl : List vw_C} {w1 w2 : va_W} {H : Heap} (h : va_P D cl (w1 ++ w2) H) : va_P D cl w2 H := fun k q hk => h (w1.length + k) q (by rw [List.getElem?_append_right (Nat.le_add_right _ _), Nat.add_sub_cancel_left]; exact hk)
/-- behind a call whose world is the middle one -/
theorem mid_join {A0 : Nat → Prop} {D : va_G} {cl : List vw_C} {A M B M' : va_W} {H H1 : Heap} (hP : va_P D cl (A ++ (M ++ B)) H) (hD : va_D A0 (A ++ (M ++ B))) (hk : ∀ q : Nat, q < H.size → ¬ va_A M H.size q → H1[q]? = H[q]?) (hF : ∀ q, va_A M H.size q → A0 q) (hP1 : va_P D cl M' H1) (hD1 : va_D (va_A M H.size) M') : va_P D cl (A ++ (M' ++ B)) H1 ∧ va_D A0 (A ++ (M' ++ B)) := by
  have nA : ∀ (k : Nat) (q : Nat × va_E), A[k]? = some q → q.1 < H.size ∧ ¬ va_A M H.size q.1 := fun k q hq => by
    have hlt := (dP_l hP k q hq).lt
    refine ⟨hlt, fun h => ?_⟩
    rcases h with ⟨k2, e, h⟩ | h
    · have h3 : (M ++ B)[k2]? = some (q.1, e) := by rw [List.getElem?_append_left (List.getElem?_eq_some_iff.mp h).1]; exact h
      exact dD_x hD k k2 q (q.1, e) hq h3 rfl
    · omega
  have nB : ∀ (k : Nat) (q : Nat × va_E), B[k]? = some q → q.1 < H.size ∧ ¬ va_A M H.size q.1 := fun k q hq => by
    have hlt := (dP_r (dP_r hP) k q hq).lt
    refine ⟨hlt, fun h => ?_⟩
    rcases h with ⟨k2, e, h⟩ | h
    · exact dD_x (dD_r hD) k2 k (q.1, e) q h hq rfl
    · omega
  have hD1' : va_D A0 M' := hD1.weaken (fun k q _ h => hF q.1 h)
  refine ⟨va_P.app (fun k q hq => (dP_l hP k q hq).kept (hk q.1 (nA k q hq).1 (nA k q hq).2)) (va_P.app hP1 (fun k q hq => (dP_r (dP_r hP) k q hq).kept (hk q.1 (nB k q hq).1 (nB k q hq).2))), ?_⟩
  refine va_D.app (dD_l hD) (va_D.app hD1' (dD_r (dD_r hD)) (fun i j p q hi hj he => (nB j q hj).2 (he ▸ hD1.2 i p hi))) (fun i j p q hi hj he => ?_)
  rcases Nat.lt_or_ge j M'.length with hl | hl
  · rw [List.getElem?_append_left hl] at hj
    exact (nA i p hi).2 (he ▸ hD1.2 j q hj)
  · rw [List.getElem?_append_right hl] at hj
    refine dD_x hD i (M.length + (j - M'.length)) p q hi ?_ he
    rw [List.getElem?_append_right (Nat.le_add_right _ _), Nat.add_sub_cancel_left]; exact hj
theorem mid_free {A0 : Nat → Prop} {A M B : va_W} {H0 H : Heap} {locs : List Loc} (hD : va_D A0 (A ++ (M ++ B))) (hS : va_S A0 H0 H locs) (hA : ∀ q, H0.size ≤ q → A0 q) : ∀ q, va_A M H.size q → A0 q := by
  intro q h
  rcases h with ⟨k, e, h⟩ | h
  · exact (dD_l (dD_r hD)).2 k (q, e) h
  · exact hA q (Nat.le_trans hS.1 h)
section JC
variable {X : Cxt} {l : Launch} {D : va_G} {cy : Nat → ClassId} {cc : ByteArray} {nL : Nat} {Ts : List Cond} {own : String} {rm : Room} {ws : va_W} {pc : Nat} {lv : List (Nat × Value)} {st : List Value}
variable {y : MethodName} {wl wl' : List Cond} {rmc : Room} {As : List Value} {b : Nat} {M : va_W} {S : Type} {post : S → Prop} {rv : S → Option Value} {w1 : S → va_W} {bytes : ByteArray} {maxL index : Nat} {ret : Option FieldType} {Cn : String} {rest : List Value}
/-- a call that ran: the walk goes on behind it -/
theorem j_go {av : List Value} {A' B : va_W} {g : List Value} {ls : Array Slot} {H : Heap} {locs : List Loc} (C : Cx X l D cy cc nL Ts own rm) (hP : va_P (xD X) vwCl (A' ++ (M ++ B)) H) (hD : va_D (xA X) (A' ++ (M ++ B))) (hS : va_S (xA X) (xS X).heap H locs) (hl : lv_has ls (xN X) lv)
    (hr : va_Run (xP X) (xL X) (xE X) (xR X) (xS X) (xM X) (xa X) (xB X) (xMe X) (xC X) H locs (xk X) (xn X) 0 0 (F0 (xM X) pc ls g) rest ((fun _ st oc t => (∃ u : S, oc = .returned (rv u) ∧ post u ∧ va_P (xD X) vwCl (w1 u) t.heap ∧ va_D (va_A M H.size) (w1 u)) ∧ va_F (va_A M H.size) st t : Array Value → State → Outcome → State → Prop) av.toArray) (va_A M H.size))
    (k : ∀ u, post u → J X (A' ++ (w1 u ++ B)) (pc + 3) lv ((rv u).toList ++ rest)) : W (xP X) (xL X) (xE X) (xR X) (xS X) (xM X) (xa X) (xB X) (xMe X) (xC X) H locs (xk X) (xn X) (xQ X) (F0 (xM X) pc ls g) := by
  have hA := C.2.2.2.2.1
  intro T hT Xs
  obtain ⟨v, st₀, t, T', L, h0, X', hL, e1, e2, ⟨⟨u, hv, hp, hP1, hD1⟩, hz, hk⟩, stp⟩ := hr T hT Xs
  cases hv
  rw [h0] at hz hk
  have hF := mid_free hD hS hA
  rw [← e1] at hz hP1
  have hk' : ∀ q : Nat, q < H.size → ¬ va_A M H.size q → T'.heap[q]? = H[q]? := fun q h1 h2 => by rw [e1]; exact hk q h1 h2
  obtain ⟨hP2, hD2⟩ := mid_join hP hD hk' hF hP1 hD1
  obtain ⟨t2, a1, b1⟩ := k u hp T'.heap (locs ++ L) ls hP2 hD2 ⟨Nat.le_trans hS.1 hz, fun q h1 h2 => by rw [hk' q (Nat.lt_of_lt_of_le h1 hS.1) (fun z => h2 (hF q z))]; exact hS.2.1 q h1 h2, fun q hq => by
      rcases List.mem_append.mp hq with h | h
      · exact hS.2.2 q h
      · exact hF _ (hL q h)⟩ hl T' rfl X'
  exact ⟨t2, stp t2 a1, b1⟩
theorem pre_ok {M : va_W} {sz : Nat} {H : Heap} (hK : Kn D cy (xS X)) (hsz : H.size = sz) (hPm : va_P D vwCl M H) (hDm : va_D (fun _ => True) M) (av : List Value) : FrameBlind (va_Pc av (fun U => U.heap.size = sz ∧ va_P D vwCl M U.heap ∧ Kn D cy U ∧ va_D (fun _ => True) M)) ∧ ∀ U : State, U.heap = H → (xS X).WarmedH U.vm → va_Pc av (fun U => U.heap.size = sz ∧ va_P D vwCl M U.heap ∧ Kn D cy U ∧ va_D (fun _ => True) M) av.toArray U :=
  ⟨fun a U g mk q => by obtain ⟨q0, q1, qP, qK, qD⟩ := q; exact ⟨q0, q1, qP, Kn.same rfl qK, qD⟩, fun U hU hW => ⟨rfl, by rw [hU]; exact hsz, by rw [hU]; exact hPm, hK.warm hW, hDm⟩⟩
theorem j_callV {ci N : Nat} {fs : List Value} {T : u_T} (C : Cx X l D cy cc nL Ts own rm) (Mt : Ct l y wl rmc D cy (.ref b :: As) M post rv w1) (g : GoodIn Ts (wsV own index Cn y wl)) (hw : wl = .code y bytes maxL ret :: wl') (na : Nat) (hna : As.length = na) (hc : y.cls = Cn ∧ y.cls ≠ "java/lang/invoke/MethodHandle" ∧ y.cls ≠ "java/lang/invoke/VarHandle" ∧ (parseMethodDescriptor y.desc).map (fun d => d.parameters.length) = some na) (hR : rmc.cells = 0 ∧ rmc.slots = 0 ∧ rmc.frames + 1 ≤ rm.frames ∧ 8 + (maxL + 11) + rmc.locals ≤ rm.locals) (A' B : va_W) (hws : ws = A' ++ (M ++ B)) (q0 : Nat) (hq : M[q0]? = some (b, .inr (ci, fs))) (hci : vwCl[ci]? = some (Cn, T, N)) (hst : (rest.map fun v => v.category).sum ≤ 8) (hd : decode cc pc = .ok (.invokevirtual index, 3)) (hs : st = As.reverse ++ .ref b :: rest)
    (k : ∀ u, post u → J X (A' ++ (w1 u ++ B)) (pc + 3) lv ((rv u).toList ++ rest)) : J X ws pc lv st := by
  subst hws; subst hs
  intro H locs ls hP hD hS hl
  have hM := Mt H.size
  rw [hR.1, hR.2.1] at hM
  rw [C.2.2.1.2.2.1] at hP
  have hpm := pre_ok (X := X) C.2.2.2.1 rfl (dP_l (dP_r hP)) ((dD_l (dD_r hD)).weaken (fun _ _ _ _ => trivial)) (.ref b :: As)
  rw [← C.2.2.1.1] at hM
  have hnl := C.2.2.1.2.2.2
  refine j_go C (by rw [C.2.2.1.2.2.1]; exact hP) hD hS hl (av := .ref b :: As) ?_ k
  rw [C.2.2.1.2.2.1]
  exact va_runV (As := As) (rest := rest) ⟨C.1.1, C.1.2, C.2.1.1, C.2.1.2.1, C.2.1.2.2⟩ hM (cwV na C.2.1.2.2 g hw hR.1 hR.2.1 hc (by rw [C.2.2.1.2.1]; exact hR.2.2)) ⟨hpm.1, va_recv C.2.2.2.1.1 (dP_l (dP_r hP)) hci hq, hpm.2⟩ rfl hna (by rw [← hnl]; exact hl.1) rfl (lv_room hst) hd (by rw [C.2.2.1.2.1]; exact C.2.2.2.2.2)
theorem j_callS (C : Cx X l D cy cc nL Ts own rm) (Mt : Ct l y wl rmc D cy As M post rv w1) (g : GoodIn Ts (va_wsS own index y wl)) (hw : wl = .code y bytes maxL ret :: wl') (na : Nat) (hna : As.length = na) (hc : y.cls ≠ "java/lang/invoke/MethodHandle" ∧ y.cls ≠ "java/lang/invoke/VarHandle" ∧ (parseMethodDescriptor y.desc).map (fun d => d.parameters.length) = some na) (hR : rmc.cells = 0 ∧ rmc.slots = 0 ∧ rmc.frames + 1 ≤ rm.frames ∧ 8 + (maxL + 11) + rmc.locals ≤ rm.locals) (A' B : va_W) (hws : ws = A' ++ (M ++ B)) (hst : (rest.map fun v => v.category).sum ≤ 8) (hd : decode cc pc = .ok (.invokestatic index, 3)) (hs : st = As.reverse ++ rest)
    (k : ∀ u, post u → J X (A' ++ (w1 u ++ B)) (pc + 3) lv ((rv u).toList ++ rest)) : J X ws pc lv st := by
  subst hws; subst hs
  intro H locs ls hP hD hS hl
  have hM := Mt H.size
  rw [hR.1, hR.2.1] at hM
  rw [C.2.2.1.2.2.1] at hP
  have hpm := pre_ok (X := X) C.2.2.2.1 rfl (dP_l (dP_r hP)) ((dD_l (dD_r hD)).weaken (fun _ _ _ _ => trivial)) As
  rw [← C.2.2.1.1] at hM
  have hnl := C.2.2.1.2.2.2
  refine j_go C (by rw [C.2.2.1.2.2.1]; exact hP) hD hS hl (av := As) ?_ k
  rw [C.2.2.1.2.2.1]
  exact va_runS (As := As) (rest := rest) ⟨C.1.1, C.1.2, C.2.1.1, C.2.1.2.1, C.2.1.2.2⟩ hM (va_cwS na C.2.1.2.2 g hw hR.1 hR.2.1 hc (by rw [C.2.2.1.2.1]; exact hR.2.2)) hpm rfl hna (by rw [← hnl]; exact hl.1) rfl (lv_room hst) hd (by rw [C.2.2.1.2.1]; exact C.2.2.2.2.2)
end JC
end
section
/-! numbers -/
theorem nI_inc (a : Nat) : nI a + Int32.ofInt 1 = nI (a + 1) := nI_1 a
theorem nI_dec {a : Nat} (h : 0 < a) : nI a + Int32.ofInt (-1) = nI (a - 1) := sb_m1 h
theorem sm_31 : ∀ n, n < 32 → ((nI n &&& 31).toBitVec.smod 32).toNat = n := by decide +kernel
theorem p2_lt {b : Nat} (h : b < 31) : 2 ^ b < 2 ^ 31 := Nat.pow_lt_pow_right (by decide) h
theorem sh_l {b : Nat} (h : b < 31) : nI 1 <<< (nI b &&& 31) = nI (2 ^ b) := by
  have h2 := p2_lt h
  have h3 := pk_shlN (n := 1) (nI b &&& 31) b (sm_31 b (by omega)) (by omega)
  rw [Nat.one_mul] at h3
  exact h3
theorem sh_r {x b : Nat} (hx : x < 2 ^ 31) (hb : b < 32) : nI x >>> (nI b &&& 31) = nI (x / 2 ^ b) := pk_shrN hx _ b (sm_31 b hb)
theorem nn_and (a b : Nat) : nI a &&& nI b = nI (a &&& b) := by
  apply Int32.toBitVec_inj.1
  show BitVec.ofNat 32 a &&& BitVec.ofNat 32 b = BitVec.ofNat 32 (a &&& b)
  apply BitVec.eq_of_getLsbD_eq
  intro i hi
  simp [hi]
theorem nn_or (a b : Nat) : nI a ||| nI b = nI (a ||| b) := by
  apply Int32.toBitVec_inj.1
  show BitVec.ofNat 32 a ||| BitVec.ofNat 32 b = BitVec.ofNat 32 (a ||| b)
  apply BitVec.eq_of_getLsbD_eq
  intro i hi
  simp [hi]
theorem an_1 (x : Nat) : nI x &&& nI 1 = nI (x % 2) := by rw [nn_and, Nat.and_one_is_mod]
theorem or_2 {s i : Nat} (h : s < 2 ^ i) : nI s ||| nI (2 ^ i) = nI (s + 2 ^ i) := by
  rw [nn_or, Nat.or_comm]
  have h2 := Nat.two_pow_add_eq_or_of_lt h 1
  rw [Nat.mul_one] at h2
  rw [← h2, Nat.add_comm]
/-! the town's arithmetic -/
def wt (k p : Nat) : Nat := if k = 0 then p else if k = 1 then (if p = 0 then 0 else p + 1) else 2 * p
theorem wt_le {k p : Nat} (h : p ≤ 9) : wt k p ≤ 18 := by unfold wt; split <;> (try split) <;> (try split) <;> omega
theorem wt_0 {k p : Nat} : wt k p = 0 ↔ p = 0 := by unfold wt; split <;> (try split) <;> (try split) <;> omega
def wo (w : Nat → Nat) (o : Option Nat) : Nat := match o with
  | none => 0
  | some a => w a
def lgt (w : Nat → Nat) : Nat → Option Nat
  | 0 => none
  | n + 1 => if wo w (lgt w n) < w n then some n else lgt w n
def mst (w : Nat → Nat) (n : Nat) : Nat := wo w (lgt w n)
def lI (o : Option Nat) : Int32 := match o with
  | none => -9
  | some a => nI a
theorem lgt_y {w : Nat → Nat} {n : Nat} (h : mst w n < w n) : lgt w (n + 1) = some n := if_pos h
theorem lgt_n {w : Nat → Nat} {n : Nat} (h : w n ≤ mst w n) : lgt w (n + 1) = lgt w n := if_neg (Nat.not_lt.mpr h)
theorem mst_y {w : Nat → Nat} {n : Nat} (h : mst w n < w n) : mst w (n + 1) = w n := by unfold mst; rw [lgt_y h]; rfl
theorem mst_n {w : Nat → Nat} {n : Nat} (h : w n ≤ mst w n) : mst w (n + 1) = mst w n := by unfold mst; rw [lgt_n h]
theorem lgt_lt {w : Nat → Nat} : ∀ {n a : Nat}, lgt w n = some a → a < n
  | 0, a, h => by cases h
  | n + 1, a, h => by
    by_cases c : mst w n < w n
    · rw [lgt_y c] at h; cases h; omega
    · rw [lgt_n (Nat.not_lt.mp c)] at h; exact Nat.lt_succ_of_lt (lgt_lt h)
theorem lgt_pos {w : Nat → Nat} : ∀ {n a : Nat}, lgt w n = some a → 0 < w a
  | 0, a, h => by cases h
  | n + 1, a, h => by
    by_cases c : mst w n < w n
    · rw [lgt_y c] at h; cases h; omega
    · rw [lgt_n (Nat.not_lt.mp c)] at h; exact lgt_pos h
theorem lgt_cong {w v : Nat → Nat} : ∀ {n : Nat}, (∀ a, a < n → w a = v a) → lgt w n = lgt v n
  | 0, _ => rfl
  | n + 1, h => by
    have h1 := lgt_cong (n := n) (fun a ha => h a (by omega))
    have h2 : mst w n = mst v n := by
      unfold mst
      rw [h1]
      cases e : lgt v n with
      | none => rfl
      | some a => exact h a (Nat.lt_succ_of_lt (lgt_lt e))
    have h3 := h n (by omega)
    by_cases c : mst v n < v n
    · rw [lgt_y c, lgt_y (by omega)]
    · rw [lgt_n (Nat.not_lt.mp c), lgt_n (by omega), h1]
theorem mst_le {w : Nat → Nat} {c : Nat} (n : Nat) (h : ∀ a, a < n → w a ≤ c) : mst w n ≤ c := by
  unfold mst
  cases e : lgt w n with
  | none => exact Nat.zero_le _
  | some a => exact h a (lgt_lt e)
theorem lI_eq {o : Option Nat} {q : Nat} (h : ∀ a, o = some a → a < 2 ^ 31) (hq : q < 2 ^ 31) : lI o = nI q ↔ o = some q := by
  cases o with
  | none =>
    refine ⟨fun e => ?_, fun e => by cases e⟩
    have e1 : (-9 : Int32).toInt = (nI q).toInt := congrArg Int32.toInt e
    rw [nI_toInt hq] at e1
    have e2 : (-9 : Int32).toInt = -9 := by decide
    omega
  | some a =>
    refine ⟨fun e => ?_, fun e => by cases e; rfl⟩
    rw [(nI_eq (h a rfl) hq).mp e]
theorem lI_none {o : Option Nat} (h : ∀ a, o = some a → a < 2 ^ 31) : lI o = -9 ↔ o = none := by
  cases o with
  | none => exact ⟨fun _ => rfl, fun _ => rfl⟩
  | some a =>
    refine ⟨fun e => ?_, fun e => by cases e⟩
    have e1 : (nI a).toInt = (-9 : Int32).toInt := congrArg Int32.toInt e
    rw [nI_toInt (h a rfl)] at e1
    have e2 : (-9 : Int32).toInt = -9 := by decide
    omega
/-- sets told as bits -/
def bset (P : Nat → Bool) : Nat → Nat
  | 0 => 0
  | n + 1 => bset P n + (if P n then 2 ^ n else 0)
theorem bset_y {P : Nat → Bool} {n : Nat} (h : P n = true) : bset P (n + 1) = bset P n + 2 ^ n := by show bset P n + _ = _; rw [if_pos h]
theorem bset_n {P : Nat → Bool} {n : Nat} (h : P n = false) : bset P (n + 1) = bset P n := by show bset P n + _ = _; rw [if_neg (by rw [h]; decide)]; rfl
theorem bset_lt (P : Nat → Bool) : ∀ n, bset P n < 2 ^ n
  | 0 => by show 0 < 1; decide
  | n + 1 => by
    have h := bset_lt P n
    have e : 2 ^ (n + 1) = 2 ^ n + 2 ^ n := by rw [Nat.pow_succ]; omega
    show bset P n + _ < _
    split <;> omega
theorem bset_le6 (P : Nat → Bool) {n : Nat} (h : n ≤ 6) : bset P n < 64 := Nat.lt_of_lt_of_le (bset_lt P n) (Nat.pow_le_pow_right (by decide) h)
def bitP (s : Nat) : Nat → Bool := fun b => decide (s / 2 ^ b % 2 = 1)
theorem bit_hi {s n i : Nat} (h : s < 2 ^ n) (hi : n ≤ i) : bitP s i = false := by
  have h2 : 2 ^ n ≤ 2 ^ i := Nat.pow_le_pow_right (by decide) hi
  unfold bitP
  rw [Nat.div_eq_of_lt (Nat.lt_of_lt_of_le h h2)]
  decide
theorem bset_bit (P : Nat → Bool) : ∀ n i, i < n → bitP (bset P n) i = P i
  | 0, i, h => by omega
  | n + 1, i, h => by
    rcases Nat.lt_or_ge i n with q | q
    · have ih := bset_bit P n i q
      cases e : P n with
      | false => rw [bset_n e]; exact ih
      | true =>
        rw [bset_y e, ← ih]
        unfold bitP
        have e2 : 2 ^ n = 2 ^ i * (2 * 2 ^ (n - i - 1)) := by
          rw [← Nat.mul_assoc, ← Nat.pow_succ, ← Nat.pow_add]
          congr 1
          omega
        rw [e2, Nat.add_mul_div_left _ _ (Nat.two_pow_pos i), Nat.add_mul_mod_self_left]
    · have e0 : i = n := by omega
      subst e0
      have hl := bset_lt P i
      cases e : P i with
      | false => rw [bset_n e]; exact bit_hi hl (Nat.le_refl _)
      | true =>
        rw [bset_y e]
        unfold bitP
        rw [Nat.add_div_right _ (Nat.two_pow_pos i), Nat.div_eq_of_lt hl]
        decide
theorem bset_cong {P Q : Nat → Bool} : ∀ {n : Nat}, (∀ i, i < n → P i = Q i) → bset P n = bset Q n
  | 0, _ => rfl
  | n + 1, h => by
    show bset P n + _ = bset Q n + _
    rw [bset_cong (fun i hi => h i (by omega)), h n (by omega)]
/-- steps -/
def dn (P : Nat → Bool) (q : Nat) : Nat → Nat
  | 0 => 0
  | n + 1 => if P n = true then max (dn P q n) (q - n) else dn P q n
def upp (P : Nat → Bool) (q : Nat) : Nat → Nat
  | 0 => 0
  | n + 1 => if P n = true then max (upp P q n) (n - q) else upp P q n
def stp (P : Nat → Bool) (q n : Nat) : Nat := dn P q n + upp P q n + min (dn P q n) (upp P q n)
theorem dn_y {P : Nat → Bool} {q n : Nat} (h : P n = true) : dn P q (n + 1) = max (dn P q n) (q - n) := if_pos h
theorem dn_n {P : Nat → Bool} {q n : Nat} (h : P n = false) : dn P q (n + 1) = dn P q n := if_neg (by rw [h]; decide)
theorem upp_y {P : Nat → Bool} {q n : Nat} (h : P n = true) : upp P q (n + 1) = max (upp P q n) (n - q) := if_pos h
theorem upp_n {P : Nat → Bool} {q n : Nat} (h : P n = false) : upp P q (n + 1) = upp P q n := if_neg (by rw [h]; decide)
theorem dn_le (P : Nat → Bool) (q : Nat) : ∀ n, dn P q n ≤ q
  | 0 => Nat.zero_le _
  | n + 1 => by
    have h := dn_le P q n
    show (if _ then _ else _) ≤ _
    split
    · exact Nat.max_le.mpr ⟨h, by omega⟩
    · exact h
theorem upp_le (P : Nat → Bool) (q : Nat) : ∀ n, upp P q n ≤ n
  | 0 => Nat.zero_le _
  | n + 1 => by
    have h := upp_le P q n
    show (if _ then _ else _) ≤ _
    split
    · exact Nat.max_le.mpr ⟨by omega, by omega⟩
    · omega
theorem stp_hi {P : Nat → Bool} {q n : Nat} : ∀ {m : Nat}, (∀ i, n ≤ i → P i = false) → stp P q (n + m) = stp P q n
  | 0, _ => rfl
  | m + 1, h => by
    have ih := stp_hi (P := P) (q := q) (n := n) (m := m) h
    have hf := h (n + m) (Nat.le_add_right _ _)
    unfold stp at ih ⊢
    rw [← Nat.add_assoc, dn_n hf, upp_n hf]
    exact ih
/-- who lights which lamp, rounds, dusks -/
def wF (k : Nat → Nat) (p : Nat → Nat → Nat) (b : Nat) : Nat → Nat := fun a => wt (k a) (p a b)
def lg (N : Nat) (k : Nat → Nat) (p : Nat → Nat → Nat) (b : Nat) : Option Nat := lgt (wF k p b) N
def wL (k : Nat → Nat) (p : Nat → Nat → Nat) (b L : Nat) : Nat → Nat := fun a => if L / 2 ^ a % 2 = 1 then 0 else wt (k a) (p a b)
theorem wL_0 (k : Nat → Nat) (p : Nat → Nat → Nat) (b : Nat) : wL k p b 0 = wF k p b := by
  funext a
  unfold wL wF
  rw [Nat.zero_div, if_neg (by decide)]
def rnd (N : Nat) (k : Nat → Nat) (p : Nat → Nat → Nat) (q : Nat) : Nat := bset (fun b => lg N k p b == some q) N
def litS (N : Nat) (k : Nat → Nat) (p : Nat → Nat → Nat) : Nat := bset (fun b => (lg N k p b).isSome) N
def sps (N : Nat) (k : Nat → Nat) (p : Nat → Nat → Nat) (q : Nat) : Nat := stp (bitP (rnd N k p q)) q N
def dk (N B : Nat) (k : Nat → Nat) (p : Nat → Nat → Nat) : Nat → Nat → Nat := fun a b => if lg N k p b = some a then (if sps N k p a ≤ B then p a b - 1 else min 9 (2 * p a b)) else p a b
def dks (N B : Nat) (k : Nat → Nat) : Nat → (Nat → Nat → Nat) → Nat → Nat → Nat
  | 0, p => p
  | n + 1, p => dk N B k (dks N B k n p)
def psum (p : Nat → Nat → Nat) (a : Nat) : Nat → Nat
  | 0 => 0
  | n + 1 => psum p a n + p a n
/-- the arrays hold the town -/
def Ag (N : Nat) (k : Nat → Nat) (p : Nat → Nat → Nat) (kf : Nat → Int32) (pf : Nat → Nat → Int32) : Prop := N ≤ 6 ∧ (∀ a, a < N → kf a = nI (k a) ∧ k a ≤ 2) ∧ ∀ a, a < N → p a a = 0 ∧ ∀ b, b < N → pf a b = nI (p a b) ∧ p a b ≤ 9
section AG
variable {N B : Nat} {k : Nat → Nat} {p : Nat → Nat → Nat} {kf : Nat → Int32} {pf : Nat → Nat → Int32}
theorem Ag.n (h : Ag N k p kf pf) : N ≤ 6 := h.1
theorem Ag.kk (h : Ag N k p kf pf) {a : Nat} (ha : a < N) : kf a = nI (k a) := (h.2.1 a ha).1
theorem Ag.k2 (h : Ag N k p kf pf) {a : Nat} (ha : a < N) : k a ≤ 2 := (h.2.1 a ha).2
theorem Ag.pp (h : Ag N k p kf pf) {a b : Nat} (ha : a < N) (hb : b < N) : pf a b = nI (p a b) := ((h.2.2 a ha).2 b hb).1
theorem Ag.p9 (h : Ag N k p kf pf) {a b : Nat} (ha : a < N) (hb : b < N) : p a b ≤ 9 := ((h.2.2 a ha).2 b hb).2
theorem Ag.p0 (h : Ag N k p kf pf) {a : Nat} (ha : a < N) : p a a = 0 := (h.2.2 a ha).1
theorem Ag.w (h : Ag N k p kf pf) {a b : Nat} (ha : a < N) (hb : b < N) : wt (k a) (p a b) ≤ 18 := wt_le (h.p9 ha hb)
theorem Ag.m (h : Ag N k p kf pf) {b L i : Nat} (hb : b < N) (hi : i ≤ N) : mst (wL k p b L) i ≤ 18 := mst_le i (fun a ha => by
  unfold wL
  split
  · exact Nat.zero_le _
  · exact h.w (by omega) hb)
theorem lg_lt {b a : Nat} (h : lg N k p b = some a) : a < N := lgt_lt h
theorem lg_31 (hN : N ≤ 6) {b : Nat} : ∀ a, lg N k p b = some a → a < 2 ^ 31 := fun a h => by have := lgt_lt h; omega
theorem dk9 (h : Ag N k p kf pf) {a b : Nat} (ha : a < N) (hb : b < N) : dk N B k p a b ≤ 9 := by
  have h9 := h.p9 ha hb
  unfold dk
  split <;> (try split) <;> omega
theorem dk0 (h : Ag N k p kf pf) {a : Nat} (ha : a < N) : dk N B k p a a = 0 := by
  have h9 := h.p0 ha
  unfold dk
  split <;> (try split) <;> omega
theorem rnd_lt (hN : N ≤ 6) (q : Nat) : rnd N k p q < 64 := bset_le6 _ hN
theorem rnd_ltN (q : Nat) : rnd N k p q < 2 ^ N := bset_lt _ _
theorem sps_6 (hN : N ≤ 6) (q : Nat) : stp (bitP (rnd N k p q)) q 6 = sps N k p q := by
  have h := stp_hi (P := bitP (rnd N k p q)) (q := q) (n := N) (m := 6 - N) (fun i hi => bit_hi (rnd_ltN q) hi)
  rw [show N + (6 - N) = 6 by omega] at h
  exact h
theorem sps_le (hN : N ≤ 6) {q : Nat} (hq : q < 6) : sps N k p q ≤ 18 := by
  unfold sps stp
  have h1 := dn_le (bitP (rnd N k p q)) q N
  have h2 := upp_le (bitP (rnd N k p q)) q N
  omega
end AG
/-- two indices -/
def updR (pf : Nat → Nat → Int32) (i : Nat) (g : Nat → Int32) : Nat → Nat → Int32 := fun k => if k = i then g else pf k
/-! the worlds -/
abbrev rr (f : Nat → Option Nat) : (Nat → Int32) ⊕ (Nat → Int64) ⊕ (Nat → UInt32) ⊕ (Nat → UInt64) ⊕ (Nat → Option Nat) := .inr (.inr (.inr (.inr f)))
def wT (a : Nat → Nat) (cy : Nat → ClassId) (vN vB : Int32) (kf : Nat → Int32) (pf : Nat → Nat → Int32) (lf tf : Nat → Int32) : va_W :=
  [(a 0, .inr (5, [.ref (a 1), .ref (a 2), .ref (a 3), .ref (a 4), .ref (a 5), .int vN, .int vB])), (a 1, .inl (cy 2, 3, rr (fun i => if i < 3 then some (a (6 + i)) else none))), (a 2, .inl (cy 0, 6, .inl kf)), (a 3, .inl (cy 4, 6, rr (fun i => if i < 6 then some (a (9 + i)) else none))), (a 4, .inl (cy 0, 6, .inl lf)), (a 5, .inl (cy 1, 6, .inl tf)), (a 6, .inr (1, [])), (a 7, .inr (3, [])), (a 8, .inr (0, [])),
   (a 9, .inl (cy 0, 6, .inl (pf 0))), (a 10, .inl (cy 0, 6, .inl (pf 1))), (a 11, .inl (cy 0, 6, .inl (pf 2))), (a 12, .inl (cy 0, 6, .inl (pf 3))), (a 13, .inl (cy 0, 6, .inl (pf 4))), (a 14, .inl (cy 0, 6, .inl (pf 5)))]
theorem lt6 {P : Nat → Prop} (h0 : P 0) (h1 : P 1) (h2 : P 2) (h3 : P 3) (h4 : P 4) (h5 : P 5) {i : Nat} (hi : i < 6) : P i := by
  match i, hi with
  | 0, _ => exact h0
  | 1, _ => exact h1
  | 2, _ => exact h2
  | 3, _ => exact h3
  | 4, _ => exact h4
  | 5, _ => exact h5
  | n + 6, h => omega
theorem wT_row {a : Nat → Nat} {cy : Nat → ClassId} {vN vB : Int32} {kf : Nat → Int32} {pf : Nat → Nat → Int32} {lf tf : Nat → Int32} {i : Nat} (hi : i < 6) : (wT a cy vN vB kf pf lf tf)[9 + i]? = some (a (9 + i), .inl (cy 0, 6, .inl (pf i))) := lt6 (P := fun i => (wT a cy vN vB kf pf lf tf)[9 + i]? = some (a (9 + i), .inl (cy 0, 6, .inl (pf i)))) rfl rfl rfl rfl rfl rfl hi
theorem wT_set {a : Nat → Nat} {cy : Nat → ClassId} {vN vB : Int32} {kf : Nat → Int32} {pf : Nat → Nat → Int32} {lf tf : Nat → Int32} {i : Nat} {g : Nat → Int32} (hi : i < 6) : (wT a cy vN vB kf pf lf tf).set (9 + i) (a (9 + i), .inl (cy 0, 6, .inl g)) = wT a cy vN vB kf (updR pf i g) lf tf := lt6 (P := fun i => (wT a cy vN vB kf pf lf tf).set (9 + i) (a (9 + i), .inl (cy 0, 6, .inl g)) = wT a cy vN vB kf (updR pf i g) lf tf) rfl rfl rfl rfl rfl rfl hi
theorem wT_out {a : Nat → Nat} {i : Nat} (hi : i < 6) : (if i < 6 then some (a (9 + i)) else none) = some (a (9 + i)) := if_pos hi
end
section
section JD
variable {X : Cxt} {l : Launch} {D : va_G} {cy : Nat → ClassId} {cc : ByteArray} {nL : Nat} {Ts : List Cond} {own : String} {rm : Room} {ws : va_W} {pc : Nat} {lv : List (Nat × Value)} {st : List Value}
variable {y : MethodName} {wl wl' : List Cond} {rmc : Room} {As : List Value} {b : Nat} {M : va_W} {S : Type} {post : S → Prop} {rv : S → Option Value} {w1 : S → va_W} {bytes : ByteArray} {maxL index : Nat} {ret : Option FieldType} {Cn : String} {rest : List Value}
theorem j_callV0 {ci N : Nat} {fs : List Value} {T : u_T} (C : Cx X l D cy cc nL Ts own rm) (Mt : Ct l y wl rmc D cy (.ref b :: As) ws post rv w1) (g : GoodIn Ts (wsV own index Cn y wl)) (hw : wl = .code y bytes maxL ret :: wl') (na : Nat) (hna : As.length = na) (hc : y.cls = Cn ∧ y.cls ≠ "java/lang/invoke/MethodHandle" ∧ y.cls ≠ "java/lang/invoke/VarHandle" ∧ (parseMethodDescriptor y.desc).map (fun d => d.parameters.length) = some na) (hR : rmc.cells = 0 ∧ rmc.slots = 0 ∧ rmc.frames + 1 ≤ rm.frames ∧ 8 + (maxL + 11) + rmc.locals ≤ rm.locals) (q0 : Nat) (hq : ws[q0]? = some (b, .inr (ci, fs))) (hci : vwCl[ci]? = some (Cn, T, N)) (hst : (rest.map fun v => v.category).sum ≤ 8) (hd : decode cc pc = .ok (.invokevirtual index, 3)) (hs : st = As.reverse ++ .ref b :: rest)
    (k : ∀ u, post u → J X (w1 u) (pc + 3) lv ((rv u).toList ++ rest)) : J X ws pc lv st :=
  j_callV C Mt g hw na hna hc hR [] [] (by rw [List.append_nil]; rfl) q0 hq hci hst hd hs (fun u hp => by rw [List.append_nil]; exact k u hp)
theorem j_callS0 (C : Cx X l D cy cc nL Ts own rm) (Mt : Ct l y wl rmc D cy As ws post rv w1) (g : GoodIn Ts (va_wsS own index y wl)) (hw : wl = .code y bytes maxL ret :: wl') (na : Nat) (hna : As.length = na) (hc : y.cls ≠ "java/lang/invoke/MethodHandle" ∧ y.cls ≠ "java/lang/invoke/VarHandle" ∧ (parseMethodDescriptor y.desc).map (fun d => d.parameters.length) = some na) (hR : rmc.cells = 0 ∧ rmc.slots = 0 ∧ rmc.frames + 1 ≤ rm.frames ∧ 8 + (maxL + 11) + rmc.locals ≤ rm.locals) (hst : (rest.map fun v => v.category).sum ≤ 8) (hd : decode cc pc = .ok (.invokestatic index, 3)) (hs : st = As.reverse ++ rest)
    (k : ∀ u, post u → J X (w1 u) (pc + 3) lv ((rv u).toList ++ rest)) : J X ws pc lv st :=
  j_callS C Mt g hw na hna hc hR [] [] (by rw [List.append_nil]; rfl) hst hd hs (fun u hp => by rw [List.append_nil]; exact k u hp)
/-- a static method that looks at no cell -/
theorem j_callP (C : Cx X l D cy cc nL Ts own rm) (Mt : Ct l y wl rmc D cy As [] post rv (fun _ => [])) (g : GoodIn Ts (va_wsS own index y wl)) (hw : wl = .code y bytes maxL ret :: wl') (na : Nat) (hna : As.length = na) (hc : y.cls ≠ "java/lang/invoke/MethodHandle" ∧ y.cls ≠ "java/lang/invoke/VarHandle" ∧ (parseMethodDescriptor y.desc).map (fun d => d.parameters.length) = some na) (hR : rmc.cells = 0 ∧ rmc.slots = 0 ∧ rmc.frames + 1 ≤ rm.frames ∧ 8 + (maxL + 11) + rmc.locals ≤ rm.locals) (hst : (rest.map fun v => v.category).sum ≤ 8) (hd : decode cc pc = .ok (.invokestatic index, 3)) (hs : st = As.reverse ++ rest)
    (k : ∀ u, post u → J X ws (pc + 3) lv ((rv u).toList ++ rest)) : J X ws pc lv st :=
  j_callS C Mt g hw na hna hc hR [] ws rfl hst hd hs (fun u hp => k u hp)
/-- an overriding method, by the overridden one's name -/
theorem j_callO {ci N : Nat} {fs : List Value} {T : u_T} {owner : String} {x : MethodName} {b0 : ByteArray} {m0 : Nat} {r0 : Option FieldType} (C : Cx X l D cy cc nL Ts own rm) (Mt : Ct l y wl rmc D cy (.ref b :: As) M post rv w1) (g : GoodIn Ts (va_wsO own index Cn owner x y wl)) (hw : wl = .code y bytes maxL ret :: wl') (h0 : Cond.code ⟨owner, x.name, x.desc⟩ b0 m0 r0 ∈ Ts) (na : Nat) (hna : As.length = na) (hc : owner ≠ "java/lang/invoke/MethodHandle" ∧ owner ≠ "java/lang/invoke/VarHandle" ∧ (parseMethodDescriptor x.desc).map (fun d => d.parameters.length) = some na) (hR : rmc.cells = 0 ∧ rmc.slots = 0 ∧ rmc.frames + 1 ≤ rm.frames ∧ 8 + (maxL + 11) + rmc.locals ≤ rm.locals) (A' B : va_W) (hws : ws = A' ++ (M ++ B)) (q0 : Nat) (hq : M[q0]? = some (b, .inr (ci, fs))) (hci : vwCl[ci]? = some (Cn, T, N)) (hst : (rest.map fun v => v.category).sum ≤ 8) (hd : decode cc pc = .ok (.invokevirtual index, 3)) (hs : st = As.reverse ++ .ref b :: rest)
    (k : ∀ u, post u → J X (A' ++ (w1 u ++ B)) (pc + 3) lv ((rv u).toList ++ rest)) : J X ws pc lv st := by
  subst hws; subst hs
  intro H locs ls hP hD hS hl
  have hM := Mt H.size
  rw [hR.1, hR.2.1] at hM
  rw [C.2.2.1.2.2.1] at hP
  have hpm := pre_ok (X := X) C.2.2.2.1 rfl (dP_l (dP_r hP)) ((dD_l (dD_r hD)).weaken (fun _ _ _ _ => trivial)) (.ref b :: As)
  rw [← C.2.2.1.1] at hM
  have hnl := C.2.2.1.2.2.2
  refine j_go C (by rw [C.2.2.1.2.2.1]; exact hP) hD hS hl (av := .ref b :: As) ?_ k
  rw [C.2.2.1.2.2.1]
  exact va_runU (As := As) (rest := rest) ⟨C.1.1, C.1.2, C.2.1.1, C.2.1.2.1, C.2.1.2.2⟩ hM (va_cwO na C.2.1.2.2 g hw hR.1 hR.2.1 h0 hc (by rw [C.2.2.1.2.1]; exact hR.2.2)) ⟨hpm.1, va_recv C.2.2.2.1.1 (dP_l (dP_r hP)) hci hq, hpm.2⟩ rfl hna (by rw [← hnl]; exact hl.1) rfl (lv_room hst) hd (by rw [C.2.2.1.2.1]; exact C.2.2.2.2.2)
/-- an inherited method, by its own name -/
theorem j_callU {ci N : Nat} {fs : List Value} {T : u_T} {owner : String} {x : MethodName} (C : Cx X l D cy cc nL Ts own rm) (Mt : Ct l y wl rmc D cy (.ref b :: As) M post rv w1) (g : GoodIn Ts (va_wsU own index Cn owner x y wl)) (hw : wl = .code y bytes maxL ret :: wl') (hyx : y = ⟨owner, x.name, x.desc⟩) (na : Nat) (hna : As.length = na) (hc : owner ≠ "java/lang/invoke/MethodHandle" ∧ owner ≠ "java/lang/invoke/VarHandle" ∧ (parseMethodDescriptor x.desc).map (fun d => d.parameters.length) = some na) (hR : rmc.cells = 0 ∧ rmc.slots = 0 ∧ rmc.frames + 1 ≤ rm.frames ∧ 8 + (maxL + 11) + rmc.locals ≤ rm.locals) (A' B : va_W) (hws : ws = A' ++ (M ++ B)) (q0 : Nat) (hq : M[q0]? = some (b, .inr (ci, fs))) (hci : vwCl[ci]? = some (Cn, T, N)) (hst : (rest.map fun v => v.category).sum ≤ 8) (hd : decode cc pc = .ok (.invokevirtual index, 3)) (hs : st = As.reverse ++ .ref b :: rest)
    (k : ∀ u, post u → J X (A' ++ (w1 u ++ B)) (pc + 3) lv ((rv u).toList ++ rest)) : J X ws pc lv st := by
  subst hws; subst hs
  intro H locs ls hP hD hS hl
  have hM := Mt H.size
  rw [hR.1, hR.2.1] at hM
  rw [C.2.2.1.2.2.1] at hP
  have hpm := pre_ok (X := X) C.2.2.2.1 rfl (dP_l (dP_r hP)) ((dD_l (dD_r hD)).weaken (fun _ _ _ _ => trivial)) (.ref b :: As)
  rw [← C.2.2.1.1] at hM
  have hnl := C.2.2.1.2.2.2
  refine j_go C (by rw [C.2.2.1.2.2.1]; exact hP) hD hS hl (av := .ref b :: As) ?_ k
  rw [C.2.2.1.2.2.1]
  exact va_runU (As := As) (rest := rest) ⟨C.1.1, C.1.2, C.2.1.1, C.2.1.2.1, C.2.1.2.2⟩ hM (va_cwU na C.2.1.2.2 g hw hR.1 hR.2.1 hyx hc (by rw [C.2.2.1.2.1]; exact hR.2.2)) ⟨hpm.1, va_recv C.2.2.2.1.1 (dP_l (dP_r hP)) hci hq, hpm.2⟩ rfl hna (by rw [← hnl]; exact hl.1) rfl (lv_room hst) hd (by rw [C.2.2.1.2.1]; exact C.2.2.2.2.2)
/-- a method of the class above -/
theorem j_callSU {ci N : Nat} {fs : List Value} {T : u_T} (C : Cx X l D cy cc nL Ts own rm) (Mt : Ct l y wl rmc D cy (.ref b :: As) M post rv w1) (g : GoodIn Ts (va_wsSU own index y wl)) (hw : wl = .code y bytes maxL ret :: wl') (na : Nat) (hna : As.length = na) (hc : y.name ≠ "<init>" ∧ (parseMethodDescriptor y.desc).map (fun d => d.parameters.length) = some na) (hR : rmc.cells = 0 ∧ rmc.slots = 0 ∧ rmc.frames + 1 ≤ rm.frames ∧ 8 + (maxL + 11) + rmc.locals ≤ rm.locals) (A' B : va_W) (hws : ws = A' ++ (M ++ B)) (q0 : Nat) (hq : M[q0]? = some (b, .inr (ci, fs))) (hci : vwCl[ci]? = some (Cn, T, N)) (hst : (rest.map fun v => v.category).sum ≤ 8) (hd : decode cc pc = .ok (.invokespecial index, 3)) (hs : st = As.reverse ++ .ref b :: rest)
    (k : ∀ u, post u → J X (A' ++ (w1 u ++ B)) (pc + 3) lv ((rv u).toList ++ rest)) : J X ws pc lv st := by
  subst hws; subst hs
  intro H locs ls hP hD hS hl
  have hM := Mt H.size
  rw [hR.1, hR.2.1] at hM
  rw [C.2.2.1.2.2.1] at hP
  have hpm := pre_ok (X := X) C.2.2.2.1 rfl (dP_l (dP_r hP)) ((dD_l (dD_r hD)).weaken (fun _ _ _ _ => trivial)) (.ref b :: As)
  rw [← C.2.2.1.1] at hM
  have hnl := C.2.2.1.2.2.2
  refine j_go C (by rw [C.2.2.1.2.2.1]; exact hP) hD hS hl (av := .ref b :: As) ?_ k
  rw [C.2.2.1.2.2.1]
  exact va_runSU (As := As) (rest := rest) (C.2.2.2.1.1.1 ci _ hci).2 ⟨C.1.1, C.1.2, C.2.1.1, C.2.1.2.1, C.2.1.2.2⟩ hM (va_cwSU na C.2.1.2.2 g hw hR.1 hR.2.1 hc (by rw [C.2.2.1.2.1]; exact hR.2.2)) ⟨hpm.1, va_recv C.2.2.2.1.1 (dP_l (dP_r hP)) hci hq, hpm.2⟩ rfl hna (by rw [← hnl]; exact hl.1) rfl (lv_room hst) hd (by rw [C.2.2.1.2.1]; exact C.2.2.2.2.2)
theorem j_mmax {x y v : Int32} (C : Cx X l D cy cc nL Ts own rm) (h1 : Cond.methodLink own index Lib.Math.max.name ∈ Ts) (h2 : Cond.static Lib.Math.max.name ∈ Ts) (h3 : Cond.initialized "java/lang/Math" ∈ Ts) (h4 : Cond.code Lib.Math.max.name Lib.Math.max.code 2 (some .int) ∈ Ts) (hR : 1 ≤ rm.frames ∧ (rest.map fun v => v.category).sum + 13 ≤ rm.locals) (hv : (if x < y then y else x) = v) (hd : decode cc pc = .ok (.invokestatic index, 3)) (k : J X ws (pc + 3) lv (.int v :: rest)) : J X ws pc lv (.int y :: .int x :: rest) := by
  subst hv
  intro H locs ls hP hD hS hl
  exact va_mmax C.1.1 C.1.2 (by rw [C.2.1.1, ← C.2.2.1.2.2.2]; exact hl.1.symm) C.2.1.2.1 (C.2.1.2.2 _ h1) (C.2.1.2.2 _ h2) (C.2.1.2.2 _ h3) (C.2.1.2.2 _ h4) (by rw [C.2.2.1.2.1]; exact hR.1) (by rw [C.2.2.1.2.1]; exact hR.2) (by rw [C.2.2.1.2.1]; exact C.2.2.2.2.2.1) (by rw [C.2.2.1.2.1]; exact C.2.2.2.2.2.2) hd (k H locs ls hP hD hS hl)
theorem j_mmin {x y v : Int32} (C : Cx X l D cy cc nL Ts own rm) (h1 : Cond.methodLink own index Lib.Math.min.name ∈ Ts) (h2 : Cond.static Lib.Math.min.name ∈ Ts) (h3 : Cond.initialized "java/lang/Math" ∈ Ts) (h4 : Cond.code Lib.Math.min.name Lib.Math.min.code 2 (some .int) ∈ Ts) (hR : 1 ≤ rm.frames ∧ (rest.map fun v => v.category).sum + 13 ≤ rm.locals) (hv : (if y < x then y else x) = v) (hd : decode cc pc = .ok (.invokestatic index, 3)) (k : J X ws (pc + 3) lv (.int v :: rest)) : J X ws pc lv (.int y :: .int x :: rest) := by
  subst hv
  intro H locs ls hP hD hS hl
  exact va_mmin C.1.1 C.1.2 (by rw [C.2.1.1, ← C.2.2.1.2.2.2]; exact hl.1.symm) C.2.1.2.1 (C.2.1.2.2 _ h1) (C.2.1.2.2 _ h2) (C.2.1.2.2 _ h3) (C.2.1.2.2 _ h4) (by rw [C.2.2.1.2.1]; exact hR.1) (by rw [C.2.2.1.2.1]; exact hR.2) (by rw [C.2.2.1.2.1]; exact C.2.2.2.2.2.1) (by rw [C.2.2.1.2.1]; exact C.2.2.2.2.2.2) hd (k H locs ls hP hD hS hl)
theorem j_mabs {x v : Int32} (C : Cx X l D cy cc nL Ts own rm) (h1 : Cond.methodLink own index Lib.Math.abs.name ∈ Ts) (h2 : Cond.static Lib.Math.abs.name ∈ Ts) (h3 : Cond.initialized "java/lang/Math" ∈ Ts) (h4 : Cond.code Lib.Math.abs.name Lib.Math.abs.code 1 (some .int) ∈ Ts) (hR : 1 ≤ rm.frames ∧ (rest.map fun v => v.category).sum + 13 ≤ rm.locals) (hv : (if 0 ≤ x then x else 0 - x) = v) (hd : decode cc pc = .ok (.invokestatic index, 3)) (k : J X ws (pc + 3) lv (.int v :: rest)) : J X ws pc lv (.int x :: rest) := by
  subst hv
  intro H locs ls hP hD hS hl
  exact va_mabs C.1.1 C.1.2 (by rw [C.2.1.1, ← C.2.2.1.2.2.2]; exact hl.1.symm) C.2.1.2.1 (C.2.1.2.2 _ h1) (C.2.1.2.2 _ h2) (C.2.1.2.2 _ h3) (C.2.1.2.2 _ h4) (by rw [C.2.2.1.2.1]; exact hR.1) (by rw [C.2.2.1.2.1]; exact hR.2) (by rw [C.2.2.1.2.1]; exact C.2.2.2.2.2.1) (by rw [C.2.2.1.2.1]; exact C.2.2.2.2.2.2) hd (k H locs ls hP hD hS hl)
end JD
theorem mx_n {a b : Nat} (ha : a < 2 ^ 31) (hb : b < 2 ^ 31) : (if nI a < nI b then nI b else nI a) = nI (max a b) := by
  by_cases h : a < b
  · rw [if_pos ((nI_ltI ha hb).mpr h), Nat.max_eq_right (by omega)]
  · rw [if_neg (fun e => h ((nI_ltI ha hb).mp e)), Nat.max_eq_left (by omega)]
theorem mn_n {a b : Nat} (ha : a < 2 ^ 31) (hb : b < 2 ^ 31) : (if nI b < nI a then nI b else nI a) = nI (min a b) := by
  by_cases h : b < a
  · rw [if_pos ((nI_ltI hb ha).mpr h), Nat.min_eq_right (by omega)]
  · rw [if_neg (fun e => h ((nI_ltI hb ha).mp e)), Nat.min_eq_left (by omega)]
theorem mx_s {d q b : Nat} (hd : d < 2 ^ 30) (hq : q < 2 ^ 30) (hb : b < 2 ^ 30) : (if nI d < nI q - nI b then nI q - nI b else nI d) = nI (max d (q - b)) := by
  rcases Nat.lt_or_ge q b with h | h
  · have h1 := pk_sneg hb h
    have h2 : ¬ nI d < nI q - nI b := fun e => nI_pos (n := d) (by omega) (by
      rw [Int32.lt_iff_toInt_lt] at e h1 ⊢
      omega)
    rw [if_neg h2, show q - b = 0 by omega, Nat.max_eq_left (Nat.zero_le _)]
  · rw [pk_sub h]
    exact mx_n (by omega) (by omega)
end
section
def wO (h ci : Nat) : va_W := [(h, .inr (ci, []))]
set_option maxHeartbeats 4000000 in
set_option maxRecDepth 20000 in
theorem c_X1_weigh {l : Launch} {D : va_G} {cy : Nat → ClassId} (h x : Nat) (hx : x ≤ 9) : Ct l yX1_weigh wsX1_weigh ({ frames := 0, cells := 0, slots := 0, locals := 0 }) D cy [.ref h, .int (nI x)] (wO h 1) (fun _ : Unit => True) (fun _ => some (.int (nI (wt 0 x)))) (fun _ => wO h 1) := by
  refine Ct.of (cc := cX1_weigh) (nL := 2) (ret := (some .int)) rfl (by decide) ⟨rfl, rfl⟩ (Nat.le_of_ble_eq_true rfl) ?_
  intro X C E
  have C : Cx X l D cy cX1_weigh 2 wsX1_weigh RX1 ({ frames := 0, cells := 0, slots := 0, locals := 0 }) := C
  show J X (wO h 1) 0 [(0, .ref h), (1, .int (nI x))] []
  refine j_iload_n C 1 dX1_weigh_0 rfl rfl ?_
  exact j_iret C E dX1_weigh_1 () trivial (by simp [wt]) rfl
set_option maxHeartbeats 4000000 in
set_option maxRecDepth 20000 in
theorem c_X3_weigh {l : Launch} {D : va_G} {cy : Nat → ClassId} (h x : Nat) (hx : x ≤ 9) : Ct l yX3_weigh wsX3_weigh ({ frames := 0, cells := 0, slots := 0, locals := 0 }) D cy [.ref h, .int (nI x)] (wO h 3) (fun _ : Unit => True) (fun _ => some (.int (nI (wt 1 x)))) (fun _ => wO h 3) := by
  refine Ct.of (cc := cX3_weigh) (nL := 2) (ret := (some .int)) rfl (by decide) ⟨rfl, rfl⟩ (Nat.le_of_ble_eq_true rfl) ?_
  intro X C E
  have C : Cx X l D cy cX3_weigh 2 wsX3_weigh RX3 ({ frames := 0, cells := 0, slots := 0, locals := 0 }) := C
  show J X (wO h 3) 0 [(0, .ref h), (1, .int (nI x))] []
  refine j_iload_n C 1 dX3_weigh_0 rfl rfl ?_
  refine j_if_leN (tgt := 10) C dX3_weigh_1 (by decide) (by omega) (fun c1 => ?_) (fun c1 => ?_)
  · refine j_iconst (v := nI 0) C dX3_weigh_10 (by decide) ?_
    exact j_iret C E dX3_weigh_11 () trivial (by simp [wt]; split <;> congr 1 <;> omega) rfl
  · refine j_iload_n C 1 dX3_weigh_4 rfl rfl ?_
    refine j_iconst (v := nI 1) C dX3_weigh_5 (by decide) ?_
    refine j_iadd (v := nI (x + 1)) C dX3_weigh_6 (nI_add _ _) ?_
    refine j_goto (tgt := 11) C dX3_weigh_7 (by decide) ?_
    exact j_iret C E dX3_weigh_11 () trivial (by simp [wt]; split <;> congr 1 <;> omega) rfl
set_option maxHeartbeats 4000000 in
set_option maxRecDepth 20000 in
theorem c_X0_weigh {l : Launch} {D : va_G} {cy : Nat → ClassId} (h x : Nat) (hx : x ≤ 9) : Ct l yX0_weigh wsX0_weigh ({ frames := 0, cells := 0, slots := 0, locals := 0 }) D cy [.ref h, .int (nI x)] (wO h 0) (fun _ : Unit => True) (fun _ => some (.int (nI (wt 2 x)))) (fun _ => wO h 0) := by
  refine Ct.of (cc := cX0_weigh) (nL := 2) (ret := (some .int)) rfl (by decide) ⟨rfl, rfl⟩ (Nat.le_of_ble_eq_true rfl) ?_
  intro X C E
  have C : Cx X l D cy cX0_weigh 2 wsX0_weigh RX0 ({ frames := 0, cells := 0, slots := 0, locals := 0 }) := C
  show J X (wO h 0) 0 [(0, .ref h), (1, .int (nI x))] []
  refine j_iconst (v := nI 2) C dX0_weigh_0 (by decide) ?_
  refine j_iload_n C 1 dX0_weigh_1 rfl rfl ?_
  refine j_imul (v := nI (2 * x)) C dX0_weigh_2 (pk_mul _ _) ?_
  exact j_iret C E dX0_weigh_3 () trivial (by simp [wt]) rfl
set_option maxHeartbeats 4000000 in
set_option maxRecDepth 20000 in
theorem c_X5_weightOf {l : Launch} {D : va_G} {cy : Nat → ClassId} (a : Nat → Nat) (N B : Nat) (kf : Nat → Int32) (pf : Nat → Nat → Int32) (lf tf : Nat → Int32) (k : Nat → Nat) (p : Nat → Nat → Nat) (hT : Ag N k p kf pf) (i j : Nat) (hi : i < N) (hj : j < N) : Ct l yX5_weightOf wsX5_weightOf ({ frames := 1, cells := 0, slots := 0, locals := 21 }) D cy [.ref (a 0), .int (nI i), .int (nI j)] (wT a cy (nI N) (nI B) kf pf lf tf) (fun _ : Unit => True) (fun _ => some (.int (nI (wt (k i) (p i j))))) (fun _ => wT a cy (nI N) (nI B) kf pf lf tf) := by
  refine Ct.of (cc := cX5_weightOf) (nL := 3) (ret := (some .int)) rfl (by decide) ⟨rfl, rfl⟩ (Nat.le_of_ble_eq_true rfl) ?_
  intro X C E
  have C : Cx X l D cy cX5_weightOf 3 wsX5_weightOf RX5 ({ frames := 1, cells := 0, slots := 0, locals := 21 }) := C
  have m0 : ∀ w ∈ u_ws RX5 TX5 7, w ∈ wsX5_weightOf := by decide +kernel
  have m1 : Cond.fieldLink RX5 18 RX5 (TX5 0).2.1 (TX5 0).2.2.1 ∈ wsX5_weightOf := by decide +kernel
  have m2 : Cond.fieldLink RX5 24 RX5 (TX5 1).2.1 (TX5 1).2.2.1 ∈ wsX5_weightOf := by decide +kernel
  have m3 : Cond.fieldLink RX5 30 RX5 (TX5 2).2.1 (TX5 2).2.2.1 ∈ wsX5_weightOf := by decide +kernel
  have m4 : Cond.code ⟨"DebtLamps$Person", "weigh", "(I)I"⟩ cX1_weigh 2 (some .int) ∈ wsX5_weightOf := by decide +kernel
  have hN := hT.n
  show J X (wT a cy (nI N) (nI B) kf pf lf tf) 0 [(0, .ref (a 0)), (1, .int (nI i)), (2, .int (nI j))] []
  refine j_aload_n C 0 dX5_weightOf_0 rfl rfl ?_
  refine j_get C m0 0 m1 0 rfl rfl (by decide) rfl rfl dX5_weightOf_1 ?_
  refine j_aload_n C 0 dX5_weightOf_4 rfl rfl ?_
  refine j_get C m0 1 m2 0 rfl rfl (by decide) rfl rfl dX5_weightOf_5 ?_
  refine j_iload_n C 1 dX5_weightOf_8 rfl rfl ?_
  have := hT.k2 (a := i) (by omega)
  refine j_iald (v := nI (k i)) C 2 rfl (by omega) (by decide) (hT.kk (by omega)) dX5_weightOf_9 ?_
  refine j_aald (t0 := 2) (Cn := "DebtLamps$Person") (b := a (6 + (k i))) C 1 rfl rfl (by omega) (by decide) (if_pos (by omega)) dX5_weightOf_10 ?_
  refine j_aload_n C 0 dX5_weightOf_11 rfl rfl ?_
  refine j_get C m0 2 m3 0 rfl rfl (by decide) rfl rfl dX5_weightOf_12 ?_
  refine j_iload_n C 1 dX5_weightOf_15 rfl rfl ?_
  refine j_gald (b := a (9 + i)) C 3 rfl (by omega) (by decide) (wT_out (by omega)) dX5_weightOf_16 ?_
  refine j_iload_n C 2 dX5_weightOf_17 rfl rfl ?_
  have := hT.p9 (a := i) (b := j) (by omega) (by omega)
  refine j_iald (v := nI (p i j)) C (9 + i) (wT_row (by omega)) (by omega) (by decide) (hT.pp (by omega) (by omega)) dX5_weightOf_18 ?_
  have hk3 : k i = 0 ∨ k i = 1 ∨ k i = 2 := by omega
  rcases hk3 with e | e | e
  · rw [e]
    refine j_callV (As := [.int (nI (p i j))]) (rest := []) C (c_X1_weigh (a 6) (p i j) (by omega)) gX5_weightOf_X1_weigh rfl 1 rfl (by decide +kernel) (by decide) (List.take 6 (wT a cy (nI N) (nI B) kf pf lf tf)) (List.drop 7 (wT a cy (nI N) (nI B) kf pf lf tf)) rfl 0 rfl rfl (Nat.le_of_ble_eq_true rfl) dX5_weightOf_19 rfl (fun _ _ => ?_)
    show J X (wT a cy (nI N) (nI B) kf pf lf tf) 22 [(0, .ref (a 0)), (1, .int (nI i)), (2, .int (nI j))] [.int (nI (wt 0 (p i j)))]
    exact j_iret C E dX5_weightOf_22 () trivial (by rw [e]) rfl
  · rw [e]
    refine j_callO (b0 := cX1_weigh) (m0 := 2) (r0 := some .int) (As := [.int (nI (p i j))]) (rest := []) C (c_X3_weigh (a 7) (p i j) (by omega)) gX5_weightOf_X3_weigh_u75X3 rfl m4 1 rfl (by decide +kernel) (by decide) (List.take 7 (wT a cy (nI N) (nI B) kf pf lf tf)) (List.drop 8 (wT a cy (nI N) (nI B) kf pf lf tf)) rfl 0 rfl rfl (Nat.le_of_ble_eq_true rfl) dX5_weightOf_19 rfl (fun _ _ => ?_)
    show J X (wT a cy (nI N) (nI B) kf pf lf tf) 22 [(0, .ref (a 0)), (1, .int (nI i)), (2, .int (nI j))] [.int (nI (wt 1 (p i j)))]
    exact j_iret C E dX5_weightOf_22 () trivial (by rw [e]) rfl
  · rw [e]
    refine j_callO (b0 := cX1_weigh) (m0 := 2) (r0 := some .int) (As := [.int (nI (p i j))]) (rest := []) C (c_X0_weigh (a 8) (p i j) (by omega)) gX5_weightOf_X0_weigh_u75X0 rfl m4 1 rfl (by decide +kernel) (by decide) (List.take 8 (wT a cy (nI N) (nI B) kf pf lf tf)) (List.drop 9 (wT a cy (nI N) (nI B) kf pf lf tf)) rfl 0 rfl rfl (Nat.le_of_ble_eq_true rfl) dX5_weightOf_19 rfl (fun _ _ => ?_)
    show J X (wT a cy (nI N) (nI B) kf pf lf tf) 22 [(0, .ref (a 0)), (1, .int (nI i)), (2, .int (nI j))] [.int (nI (wt 2 (p i j)))]
    exact j_iret C E dX5_weightOf_22 () trivial (by rw [e]) rfl
end
section
theorem updR_s {pf : Nat → Nat → Int32} {i : Nat} {g : Nat → Int32} : updR pf i g i = g := if_pos rfl
theorem updR_n {pf : Nat → Nat → Int32} {i j : Nat} {g : Nat → Int32} (h : j ≠ i) : updR pf i g j = pf j := if_neg h
theorem wL_1 {k : Nat → Nat} {p : Nat → Nat → Nat} {b L i : Nat} (h : L / 2 ^ i % 2 = 1) : wL k p b L i = 0 := if_pos h
theorem wL_2 {k : Nat → Nat} {p : Nat → Nat → Nat} {b L i : Nat} (h : L / 2 ^ i % 2 ≠ 1) : wL k p b L i = wt (k i) (p i b) := if_neg h
theorem isSome_of {o : Option Nat} (h : ¬ lI o = -9) : o.isSome = true := by
  cases o with
  | none => exact absurd rfl h
  | some a => rfl
theorem some_of {o : Option Nat} (h : ¬ lI o = -9) : ∃ a, o = some a := by
  cases o with
  | none => exact absurd rfl h
  | some a => exact ⟨a, rfl⟩
/-- f below i, g from i on -/
def fil (f g : Nat → Int32) (i : Nat) : Nat → Int32 := fun j => if j < i then f j else g j
theorem fil_0 (f g : Nat → Int32) : fil f g 0 = g := by funext j; exact if_neg (Nat.not_lt_zero j)
theorem fil_in {f g : Nat → Int32} {i j : Nat} (h : j < i) : fil f g i j = f j := if_pos h
theorem fil_out {f g : Nat → Int32} {i j : Nat} (h : i ≤ j) : fil f g i j = g j := if_neg (Nat.not_lt.mpr h)
theorem fil_s (f g : Nat → Int32) (i : Nat) : upd (fil f g i) i (f i) = fil f g (i + 1) := by
  funext j
  by_cases h : j = i
  · subst h
    rw [pk_us, fil_in (Nat.lt_succ_self _)]
  · rw [pk_un h]
    rcases Nat.lt_or_ge j i with q | q
    · rw [fil_in q, fil_in (by omega)]
    · rw [fil_out q, fil_out (by omega)]
def lgF (N : Nat) (k : Nat → Nat) (p : Nat → Nat → Nat) : Nat → Int32 := fun j => lI (lg N k p j)
/-- whether one is in time, as the machine holds it -/
def tI (N B : Nat) (k : Nat → Nat) (p : Nat → Nat → Nat) (j : Nat) : Int32 := if sps N k p j ≤ B then nI 1 else nI 0
theorem tI_y {N B : Nat} {k : Nat → Nat} {p : Nat → Nat → Nat} {j : Nat} (h : sps N k p j ≤ B) : tI N B k p j = nI 1 := if_pos h
theorem tI_n {N B : Nat} {k : Nat → Nat} {p : Nat → Nat → Nat} {j : Nat} (h : B < sps N k p j) : tI N B k p j = nI 0 := if_neg (Nat.not_le.mpr h)
theorem tI_0 {N B : Nat} {k : Nat → Nat} {p : Nat → Nat → Nat} {j : Nat} (h : tI N B k p j = 0) : B < sps N k p j := by
  rcases Nat.lt_or_ge B (sps N k p j) with q | q
  · exact q
  · rw [tI_y q] at h
    exact absurd h (by decide)
theorem tI_1 {N B : Nat} {k : Nat → Nat} {p : Nat → Nat → Nat} {j : Nat} (h : ¬ tI N B k p j = 0) : sps N k p j ≤ B := by
  rcases Nat.lt_or_ge B (sps N k p j) with q | q
  · exact absurd (tI_n q) (fun e => h (by rw [e]; decide))
  · exact q
/-- the pence behind a dusk, as the machine holds them: the columns below i are done -/
def pfD (N B : Nat) (k : Nat → Nat) (p : Nat → Nat → Nat) (pf : Nat → Nat → Int32) (i : Nat) : Nat → Nat → Int32 := fun a b => if b < i ∧ lg N k p b = some a then nI (dk N B k p a b) else pf a b
section PFD
variable {N B : Nat} {k : Nat → Nat} {p : Nat → Nat → Nat} {kf : Nat → Int32} {pf : Nat → Nat → Int32}
theorem pfD_0 : pfD N B k p pf 0 = pf := by funext a b; exact if_neg (fun h => Nat.not_lt_zero _ h.1)
theorem pfD_at {i q : Nat} : pfD N B k p pf i q i = pf q i := if_neg (fun h => Nat.lt_irrefl _ h.1)
theorem pfD_n {i : Nat} (h : lg N k p i = none) : pfD N B k p pf (i + 1) = pfD N B k p pf i := by
  funext a b
  unfold pfD
  by_cases hb : b = i
  · subst hb
    rw [if_neg (fun e => by rw [h] at e; cases e.2), if_neg (fun e => by rw [h] at e; cases e.2)]
  · have e : (b < i + 1 ∧ lg N k p b = some a) ↔ (b < i ∧ lg N k p b = some a) := ⟨fun z => ⟨by omega, z.2⟩, fun z => ⟨by omega, z.2⟩⟩
    by_cases z : b < i ∧ lg N k p b = some a
    · rw [if_pos z, if_pos (e.mpr z)]
    · rw [if_neg z, if_neg (fun w => z (e.mp w))]
theorem pfD_s {i q v : Nat} (h : lg N k p i = some q) (hv : dk N B k p q i = v) : updR (pfD N B k p pf i) q (upd (pfD N B k p pf i q) i (nI v)) = pfD N B k p pf (i + 1) := by
  funext a b
  by_cases ha : a = q
  · subst ha
    rw [updR_s]
    by_cases hb : b = i
    · subst hb
      rw [pk_us]
      unfold pfD
      rw [if_pos ⟨Nat.lt_succ_self _, h⟩, hv]
    · rw [pk_un hb]
      unfold pfD
      by_cases z : b < i ∧ lg N k p b = some a
      · rw [if_pos z, if_pos ⟨by omega, z.2⟩]
      · rw [if_neg z, if_neg (fun w => z ⟨by omega, w.2⟩)]
  · rw [updR_n ha]
    unfold pfD
    by_cases z : b < i ∧ lg N k p b = some a
    · rw [if_pos z, if_pos ⟨by omega, z.2⟩]
    · refine (if_neg z).trans (if_neg (fun w => ?_)).symm
      by_cases hb : b = i
      · subst hb
        rw [h] at w
        exact ha (Option.some.inj w.2).symm
      · exact z ⟨by omega, w.2⟩
theorem Ag.dk (h : Ag N k p kf pf) : Ag N k (dk N B k p) kf (pfD N B k p pf N) := by
  refine ⟨h.1, h.2.1, fun a ha => ⟨dk0 h ha, fun b hb => ⟨?_, dk9 h ha hb⟩⟩⟩
  show (if _ then _ else _) = _
  by_cases z : lg N k p b = some a
  · rw [if_pos ⟨hb, z⟩]
  · rw [if_neg (fun w => z w.2), h.pp ha hb]
    show nI (p a b) = nI (if _ then _ else _)
    rw [if_neg z]
theorem dk_in {q i : Nat} (h : lg N k p i = some q) (ht : sps N k p q ≤ B) : dk N B k p q i = max 0 (p q i - 1) := by
  show (if _ then _ else _) = _
  rw [if_pos h, if_pos ht, Nat.max_eq_right (Nat.zero_le _)]
theorem dk_out {q i : Nat} (h : lg N k p i = some q) (ht : B < sps N k p q) : dk N B k p q i = min 9 (2 * p q i) := by
  show (if _ then _ else _) = _
  rw [if_pos h, if_neg (Nat.not_le.mpr ht)]
end PFD
end
section
set_option maxHeartbeats 4000000 in
set_option maxRecDepth 20000 in
theorem c_X5_lighterAmong {l : Launch} {D : va_G} {cy : Nat → ClassId} (a : Nat → Nat) (N B : Nat) (kf : Nat → Int32) (pf : Nat → Nat → Int32) (lf tf : Nat → Int32) (k : Nat → Nat) (p : Nat → Nat → Nat) (hT : Ag N k p kf pf) (b L : Nat) (hb : b < N) (hL : L < 64) : Ct l yX5_lighterAmong wsX5_lighterAmong ({ frames := 2, cells := 0, slots := 0, locals := 43 }) D cy [.ref (a 0), .int (nI b), .int (nI L)] (wT a cy (nI N) (nI B) kf pf lf tf) (fun _ : Unit => True) (fun _ => some (.int (lI (lgt (wL k p b L) N)))) (fun _ => wT a cy (nI N) (nI B) kf pf lf tf) := by
  refine Ct.of (cc := cX5_lighterAmong) (nL := 7) (ret := (some .int)) rfl (by decide) ⟨rfl, rfl⟩ (Nat.le_of_ble_eq_true rfl) ?_
  intro X C E
  have C : Cx X l D cy cX5_lighterAmong 7 wsX5_lighterAmong RX5 ({ frames := 2, cells := 0, slots := 0, locals := 43 }) := C
  have m0 : ∀ w ∈ u_ws RX5 TX5 7, w ∈ wsX5_lighterAmong := by decide +kernel
  have m1 : Cond.fieldLink RX5 40 RX5 (TX5 5).2.1 (TX5 5).2.2.1 ∈ wsX5_lighterAmong := by decide +kernel
  have hN := hT.n
  show J X (wT a cy (nI N) (nI B) kf pf lf tf) 0 [(0, .ref (a 0)), (1, .int (nI b)), (2, .int (nI L))] []
  refine j_bipush (v := (-9)) C dX5_lighterAmong_0 (by decide) ?_
  refine j_istore_n (lv' := [(3, .int ((-9))), (0, .ref (a 0)), (1, .int (nI b)), (2, .int (nI L))]) C dX5_lighterAmong_2 rfl (by decide) rfl ?_
  refine j_iconst (v := nI 0) C dX5_lighterAmong_3 (by decide) ?_
  refine j_istore (lv' := [(4, .int (nI 0)), (3, .int ((-9))), (0, .ref (a 0)), (1, .int (nI b)), (2, .int (nI L))]) C dX5_lighterAmong_4 (by decide) rfl ?_
  refine j_iconst (v := nI 0) C dX5_lighterAmong_6 (by decide) ?_
  refine j_istore (lv' := [(5, .int (nI 0)), (4, .int (nI 0)), (3, .int ((-9))), (0, .ref (a 0)), (1, .int (nI b)), (2, .int (nI L))]) C dX5_lighterAmong_7 (by decide) rfl ?_
  refine J.sub [3, 4, 5, 2, 1, 0] rfl ?_
  have L9 : ∀ (n : Nat) (i : Nat), N - i < n → i ≤ N → J X (wT a cy (nI N) (nI B) kf pf lf tf) 9 [(0, .ref (a 0)), (1, .int (nI b)), (2, .int (nI L)), (3, .int (lI (lgt (wL k p b L) i))), (4, .int (nI (mst (wL k p b L) i))), (5, .int (nI i))] [] := by
    intro n
    induction n with
    | zero => intro i hm; exact absurd hm (Nat.not_lt_zero _)
    | succ n ih9 =>
      intro i h9_0 h9_1
      have hm := hT.m (b := b) (L := L) (i := i) (by omega) (by omega)
      refine j_iload C 5 dX5_lighterAmong_9 rfl ?_
      refine j_aload_n C 0 dX5_lighterAmong_11 rfl rfl ?_
      refine j_get C m0 5 m1 0 rfl rfl (by decide) rfl rfl dX5_lighterAmong_12 ?_
      refine j_icmp_geN (tgt := 60) C dX5_lighterAmong_15 (by decide) (by omega) (by omega) (fun c15 => ?_) (fun c15 => ?_)
      · refine j_iload_n C 3 dX5_lighterAmong_60 rfl rfl ?_
        exact j_iret C E dX5_lighterAmong_61 () trivial (by rw [show i = N by omega]) rfl
      · refine j_iload_n C 2 dX5_lighterAmong_18 rfl rfl ?_
        refine j_iload C 5 dX5_lighterAmong_19 rfl ?_
        refine j_ishr (v := nI (L / 2 ^ i)) C dX5_lighterAmong_21 (sh_r (by omega) (by omega)) ?_
        refine j_iconst (v := nI 1) C dX5_lighterAmong_22 (by decide) ?_
        refine j_iand (v := nI ((L / 2 ^ i) % 2)) C dX5_lighterAmong_23 (an_1 _) ?_
        refine j_iconst (v := nI 1) C dX5_lighterAmong_24 (by decide) ?_
        refine j_icmp_neN (tgt := 31) C dX5_lighterAmong_25 (by decide) (by omega) (by omega) (fun c25 => ?_) (fun c25 => ?_)
        · refine j_aload_n C 0 dX5_lighterAmong_31 rfl rfl ?_
          refine j_iload C 5 dX5_lighterAmong_32 rfl ?_
          refine j_iload_n C 1 dX5_lighterAmong_34 rfl rfl ?_
          refine j_callV0 (As := [.int (nI i), .int (nI b)]) (rest := []) C (c_X5_weightOf a N B kf pf lf tf k p hT i b (by omega) (by omega)) gX5_lighterAmong_X5_weightOf rfl 2 rfl (by decide +kernel) (by decide) 0 rfl rfl (Nat.le_of_ble_eq_true rfl) dX5_lighterAmong_35 rfl (fun _ _ => ?_)
          have hw := hT.w (a := i) (b := b) (by omega) (by omega)
          show J X (wT a cy (nI N) (nI B) kf pf lf tf) 38 [(0, .ref (a 0)), (1, .int (nI b)), (2, .int (nI L)), (3, .int (lI (lgt (wL k p b L) i))), (4, .int (nI (mst (wL k p b L) i))), (5, .int (nI i))] [.int (nI (wt (k i) (p i b)))]
          refine j_istore (lv' := [(6, .int (nI (wt (k i) (p i b)))), (0, .ref (a 0)), (1, .int (nI b)), (2, .int (nI L)), (3, .int (lI (lgt (wL k p b L) i))), (4, .int (nI (mst (wL k p b L) i))), (5, .int (nI i))]) C dX5_lighterAmong_38 (by decide) rfl ?_
          refine j_iload C 0 dX5_lighterAmong_40 rfl ?_
          refine j_iload C 5 dX5_lighterAmong_42 rfl ?_
          refine j_icmp_leN (tgt := 54) C dX5_lighterAmong_44 (by decide) (by omega) (by omega) (fun c44 => ?_) (fun c44 => ?_)
          · refine j_iinc (v := nI (i + 1)) (lv' := [(5, .int (nI (i + 1))), (6, .int (nI (wt (k i) (p i b)))), (0, .ref (a 0)), (1, .int (nI b)), (2, .int (nI L)), (3, .int (lI (lgt (wL k p b L) i))), (4, .int (nI (mst (wL k p b L) i)))]) C 6 dX5_lighterAmong_54 rfl (nI_inc i) (by decide) rfl ?_
            refine j_goto (tgt := 9) C dX5_lighterAmong_57 (by decide) ?_
            refine J.sub [2, 3, 4, 5, 6, 0] rfl ?_
            have e := ih9 (i + 1) (by omega) (by omega)
            first
              | (rw [lgt_n (by rw [wL_1 c25]; exact Nat.zero_le _), mst_n (by rw [wL_1 c25]; exact Nat.zero_le _)] at e; exact e)
              | (rw [lgt_n (by rw [wL_2 c25]; exact c44), mst_n (by rw [wL_2 c25]; exact c44)] at e; exact e)
              | (rw [lgt_y (by rw [wL_2 c25]; exact c44), mst_y (by rw [wL_2 c25]; exact c44), wL_2 c25] at e; exact e)
          · refine j_iload C 0 dX5_lighterAmong_47 rfl ?_
            refine j_istore (lv' := [(4, .int (nI (wt (k i) (p i b)))), (6, .int (nI (wt (k i) (p i b)))), (0, .ref (a 0)), (1, .int (nI b)), (2, .int (nI L)), (3, .int (lI (lgt (wL k p b L) i))), (5, .int (nI i))]) C dX5_lighterAmong_49 (by decide) rfl ?_
            refine j_iload C 6 dX5_lighterAmong_51 rfl ?_
            refine j_istore_n (lv' := [(3, .int (nI i)), (4, .int (nI (wt (k i) (p i b)))), (6, .int (nI (wt (k i) (p i b)))), (0, .ref (a 0)), (1, .int (nI b)), (2, .int (nI L)), (5, .int (nI i))]) C dX5_lighterAmong_53 rfl (by decide) rfl ?_
            refine j_iinc (v := nI (i + 1)) (lv' := [(5, .int (nI (i + 1))), (3, .int (nI i)), (4, .int (nI (wt (k i) (p i b)))), (6, .int (nI (wt (k i) (p i b)))), (0, .ref (a 0)), (1, .int (nI b)), (2, .int (nI L))]) C 6 dX5_lighterAmong_54 rfl (nI_inc i) (by decide) rfl ?_
            refine j_goto (tgt := 9) C dX5_lighterAmong_57 (by decide) ?_
            refine J.sub [4, 5, 6, 1, 2, 0] rfl ?_
            have e := ih9 (i + 1) (by omega) (by omega)
            first
              | (rw [lgt_n (by rw [wL_1 c25]; exact Nat.zero_le _), mst_n (by rw [wL_1 c25]; exact Nat.zero_le _)] at e; exact e)
              | (rw [lgt_n (by rw [wL_2 c25]; exact c44), mst_n (by rw [wL_2 c25]; exact c44)] at e; exact e)
              | (rw [lgt_y (by rw [wL_2 c25]; exact c44), mst_y (by rw [wL_2 c25]; exact c44), wL_2 c25] at e; exact e)
        · refine j_goto (tgt := 54) C dX5_lighterAmong_28 (by decide) ?_
          refine j_iinc (v := nI (i + 1)) (lv' := [(5, .int (nI (i + 1))), (0, .ref (a 0)), (1, .int (nI b)), (2, .int (nI L)), (3, .int (lI (lgt (wL k p b L) i))), (4, .int (nI (mst (wL k p b L) i)))]) C 5 dX5_lighterAmong_54 rfl (nI_inc i) (by decide) rfl ?_
          refine j_goto (tgt := 9) C dX5_lighterAmong_57 (by decide) ?_
          refine J.sub [1, 2, 3, 4, 5, 0] rfl ?_
          have e := ih9 (i + 1) (by omega) (by omega)
          first
            | (rw [lgt_n (by rw [wL_1 c25]; exact Nat.zero_le _), mst_n (by rw [wL_1 c25]; exact Nat.zero_le _)] at e; exact e)
            | (rw [lgt_n (by rw [wL_2 c25]; exact c44), mst_n (by rw [wL_2 c25]; exact c44)] at e; exact e)
            | (rw [lgt_y (by rw [wL_2 c25]; exact c44), mst_y (by rw [wL_2 c25]; exact c44), wL_2 c25] at e; exact e)
  have e := L9 (N + 1) 0 (by omega) (by omega)
  exact e
theorem c_X5_lighter0 {l : Launch} {D : va_G} {cy : Nat → ClassId} (a : Nat → Nat) (N B : Nat) (kf : Nat → Int32) (pf : Nat → Nat → Int32) (lf tf : Nat → Int32) (k : Nat → Nat) (p : Nat → Nat → Nat) (hT : Ag N k p kf pf) (b : Nat) (hb : b < N) : Ct l yX5_lighterAmong wsX5_lighterAmong ({ frames := 2, cells := 0, slots := 0, locals := 43 }) D cy [.ref (a 0), .int (nI b), .int (nI 0)] (wT a cy (nI N) (nI B) kf pf lf tf) (fun _ : Unit => True) (fun _ => some (.int (lI (lg N k p b)))) (fun _ => wT a cy (nI N) (nI B) kf pf lf tf) := by
  have h := c_X5_lighterAmong (l := l) (D := D) (cy := cy) a N B kf pf lf tf k p hT b 0 hb (by decide)
  rw [wL_0] at h
  exact h
set_option maxHeartbeats 4000000 in
set_option maxRecDepth 20000 in
theorem c_X5_litLamps {l : Launch} {D : va_G} {cy : Nat → ClassId} (a : Nat → Nat) (N B : Nat) (kf : Nat → Int32) (pf : Nat → Nat → Int32) (lf tf : Nat → Int32) (k : Nat → Nat) (p : Nat → Nat → Nat) (hT : Ag N k p kf pf)  : Ct l yX5_litLamps wsX5_litLamps ({ frames := 3, cells := 0, slots := 0, locals := 69 }) D cy [.ref (a 0)] (wT a cy (nI N) (nI B) kf pf lf tf) (fun _ : Unit => True) (fun _ => some (.int (nI (litS N k p)))) (fun _ => wT a cy (nI N) (nI B) kf pf lf tf) := by
  refine Ct.of (cc := cX5_litLamps) (nL := 3) (ret := (some .int)) rfl (by decide) ⟨rfl, rfl⟩ (Nat.le_of_ble_eq_true rfl) ?_
  intro X C E
  have C : Cx X l D cy cX5_litLamps 3 wsX5_litLamps RX5 ({ frames := 3, cells := 0, slots := 0, locals := 69 }) := C
  have m0 : ∀ w ∈ u_ws RX5 TX5 7, w ∈ wsX5_litLamps := by decide +kernel
  have m1 : Cond.fieldLink RX5 40 RX5 (TX5 5).2.1 (TX5 5).2.2.1 ∈ wsX5_litLamps := by decide +kernel
  have hN := hT.n
  show J X (wT a cy (nI N) (nI B) kf pf lf tf) 0 [(0, .ref (a 0))] []
  refine j_iconst (v := nI 0) C dX5_litLamps_0 (by decide) ?_
  refine j_istore_n (lv' := [(1, .int (nI 0)), (0, .ref (a 0))]) C dX5_litLamps_1 rfl (by decide) rfl ?_
  refine j_iconst (v := nI 0) C dX5_litLamps_2 (by decide) ?_
  refine j_istore_n (lv' := [(2, .int (nI 0)), (1, .int (nI 0)), (0, .ref (a 0))]) C dX5_litLamps_3 rfl (by decide) rfl ?_
  refine J.sub [2, 1, 0] rfl ?_
  have L4 : ∀ (n : Nat) (i : Nat), N - i < n → i ≤ N → J X (wT a cy (nI N) (nI B) kf pf lf tf) 4 [(0, .ref (a 0)), (1, .int (nI (bset (fun b => (lg N k p b).isSome) i))), (2, .int (nI i))] [] := by
    intro n
    induction n with
    | zero => intro i hm; exact absurd hm (Nat.not_lt_zero _)
    | succ n ih4 =>
      intro i h4_0 h4_1
      refine j_iload_n C 2 dX5_litLamps_4 rfl rfl ?_
      refine j_aload_n C 0 dX5_litLamps_5 rfl rfl ?_
      refine j_get C m0 5 m1 0 rfl rfl (by decide) rfl rfl dX5_litLamps_6 ?_
      refine j_icmp_geN (tgt := 35) C dX5_litLamps_9 (by decide) (by omega) (by omega) (fun c9 => ?_) (fun c9 => ?_)
      · refine j_iload_n C 1 dX5_litLamps_35 rfl rfl ?_
        exact j_iret C E dX5_litLamps_36 () trivial (by rw [show i = N by omega]; rfl) rfl
      · refine j_aload_n C 0 dX5_litLamps_12 rfl rfl ?_
        refine j_iload_n C 2 dX5_litLamps_13 rfl rfl ?_
        refine j_iconst (v := nI 0) C dX5_litLamps_14 (by decide) ?_
        refine j_callV0 (As := [.int (nI i), .int (nI 0)]) (rest := []) C (c_X5_lighter0 a N B kf pf lf tf k p hT i (by omega)) gX5_litLamps_X5_lighterAmong rfl 2 rfl (by decide +kernel) (by decide) 0 rfl rfl (Nat.le_of_ble_eq_true rfl) dX5_litLamps_15 rfl (fun _ _ => ?_)
        show J X (wT a cy (nI N) (nI B) kf pf lf tf) 18 [(0, .ref (a 0)), (1, .int (nI (bset (fun b => (lg N k p b).isSome) i))), (2, .int (nI i))] [.int (lI (lg N k p i))]
        refine j_bipush (v := (-9)) C dX5_litLamps_18 (by decide) ?_
        refine j_icmp_eq (tgt := 29) C dX5_litLamps_20 (by decide) (fun c20 => ?_) (fun c20 => ?_)
        · refine j_iinc (v := nI (i + 1)) (lv' := [(2, .int (nI (i + 1))), (0, .ref (a 0)), (1, .int (nI (bset (fun b => (lg N k p b).isSome) i)))]) C 2 dX5_litLamps_29 rfl (nI_inc i) (by decide) rfl ?_
          refine j_goto (tgt := 4) C dX5_litLamps_32 (by decide) ?_
          refine J.sub [1, 2, 0] rfl ?_
          have e := ih4 (i + 1) (by omega) (by omega)
          first
            | (rw [bset_n (by show (lg N k p i).isSome = false; rw [(lI_none (lg_31 hN)).mp c20]; rfl)] at e; exact e)
            | (rw [bset_y (isSome_of c20)] at e; exact e)
        · refine j_iload_n C 1 dX5_litLamps_23 rfl rfl ?_
          refine j_iconst (v := nI 1) C dX5_litLamps_24 (by decide) ?_
          refine j_iload_n C 2 dX5_litLamps_25 rfl rfl ?_
          refine j_ishl (v := nI (2 ^ i)) C dX5_litLamps_26 (sh_l (by omega)) ?_
          refine j_ior (v := nI (bset (fun b => (lg N k p b).isSome) i + 2 ^ i)) C dX5_litLamps_27 (or_2 (bset_lt _ _)) ?_
          refine j_istore_n (lv' := [(1, .int (nI (bset (fun b => (lg N k p b).isSome) i + 2 ^ i))), (0, .ref (a 0)), (2, .int (nI i))]) C dX5_litLamps_28 rfl (by decide) rfl ?_
          refine j_iinc (v := nI (i + 1)) (lv' := [(2, .int (nI (i + 1))), (1, .int (nI (bset (fun b => (lg N k p b).isSome) i + 2 ^ i))), (0, .ref (a 0))]) C 2 dX5_litLamps_29 rfl (nI_inc i) (by decide) rfl ?_
          refine j_goto (tgt := 4) C dX5_litLamps_32 (by decide) ?_
          refine J.sub [2, 1, 0] rfl ?_
          have e := ih4 (i + 1) (by omega) (by omega)
          first
            | (rw [bset_n (by show (lg N k p i).isSome = false; rw [(lI_none (lg_31 hN)).mp c20]; rfl)] at e; exact e)
            | (rw [bset_y (isSome_of c20)] at e; exact e)
  have e := L4 (N + 1) 0 (by omega) (by omega)
  exact e
set_option maxHeartbeats 4000000 in
set_option maxRecDepth 20000 in
theorem c_X5_findLighters {l : Launch} {D : va_G} {cy : Nat → ClassId} (a : Nat → Nat) (N B : Nat) (kf : Nat → Int32) (pf : Nat → Nat → Int32) (lf tf : Nat → Int32) (k : Nat → Nat) (p : Nat → Nat → Nat) (hT : Ag N k p kf pf)  : Ct l yX5_findLighters wsX5_findLighters ({ frames := 3, cells := 0, slots := 0, locals := 69 }) D cy [.ref (a 0)] (wT a cy (nI N) (nI B) kf pf lf tf) (fun _ : Unit => True) (fun _ => none) (fun _ => wT a cy (nI N) (nI B) kf pf (fil (lgF N k p) lf N) tf) := by
  refine Ct.of (cc := cX5_findLighters) (nL := 2) (ret := none) rfl (by decide) ⟨rfl, rfl⟩ (Nat.le_of_ble_eq_true rfl) ?_
  intro X C E
  have C : Cx X l D cy cX5_findLighters 2 wsX5_findLighters RX5 ({ frames := 3, cells := 0, slots := 0, locals := 69 }) := C
  have m0 : ∀ w ∈ u_ws RX5 TX5 7, w ∈ wsX5_findLighters := by decide +kernel
  have m1 : Cond.fieldLink RX5 40 RX5 (TX5 5).2.1 (TX5 5).2.2.1 ∈ wsX5_findLighters := by decide +kernel
  have m2 : Cond.fieldLink RX5 33 RX5 (TX5 3).2.1 (TX5 3).2.2.1 ∈ wsX5_findLighters := by decide +kernel
  have hN := hT.n
  show J X (wT a cy (nI N) (nI B) kf pf lf tf) 0 [(0, .ref (a 0))] []
  refine j_iconst (v := nI 0) C dX5_findLighters_0 (by decide) ?_
  refine j_istore_n (lv' := [(1, .int (nI 0)), (0, .ref (a 0))]) C dX5_findLighters_1 rfl (by decide) rfl ?_
  refine J.sub [1, 0] rfl ?_
  have L2 : ∀ (n : Nat) (i : Nat), N - i < n → i ≤ N → J X (wT a cy (nI N) (nI B) kf pf (fil (lgF N k p) lf i) tf) 2 [(0, .ref (a 0)), (1, .int (nI i))] [] := by
    intro n
    induction n with
    | zero => intro i hm; exact absurd hm (Nat.not_lt_zero _)
    | succ n ih2 =>
      intro i h2_0 h2_1
      refine j_iload_n C 1 dX5_findLighters_2 rfl rfl ?_
      refine j_aload_n C 0 dX5_findLighters_3 rfl rfl ?_
      refine j_get C m0 5 m1 0 rfl rfl (by decide) rfl rfl dX5_findLighters_4 ?_
      refine j_icmp_geN (tgt := 28) C dX5_findLighters_7 (by decide) (by omega) (by omega) (fun c7 => ?_) (fun c7 => ?_)
      · exact j_vret C E dX5_findLighters_28 () trivial rfl (by rw [show i = N by omega])
      · refine j_aload_n C 0 dX5_findLighters_10 rfl rfl ?_
        refine j_get C m0 3 m2 0 rfl rfl (by decide) rfl rfl dX5_findLighters_11 ?_
        refine j_iload_n C 1 dX5_findLighters_14 rfl rfl ?_
        refine j_aload_n C 0 dX5_findLighters_15 rfl rfl ?_
        refine j_iload_n C 1 dX5_findLighters_16 rfl rfl ?_
        refine j_iconst (v := nI 0) C dX5_findLighters_17 (by decide) ?_
        refine j_callV0 (As := [.int (nI i), .int (nI 0)]) (rest := [.int (nI i), .ref (a 4)]) C (c_X5_lighter0 a N B kf pf (fil (lgF N k p) lf i) tf k p hT i (by omega)) gX5_findLighters_X5_lighterAmong rfl 2 rfl (by decide +kernel) (by decide) 0 rfl rfl (Nat.le_of_ble_eq_true rfl) dX5_findLighters_18 rfl (fun _ _ => ?_)
        show J X (wT a cy (nI N) (nI B) kf pf (fil (lgF N k p) lf i) tf) 21 [(0, .ref (a 0)), (1, .int (nI i))] [.int (lI (lg N k p i)), .int (nI i), .ref (a 4)]
        refine j_iast (ws' := wT a cy (nI N) (nI B) kf pf (upd (fil (lgF N k p) lf i) i (lI (lg N k p i))) tf) C 4 rfl (by omega) (by decide) rfl dX5_findLighters_21 ?_
        refine j_iinc (v := nI (i + 1)) (lv' := [(1, .int (nI (i + 1))), (0, .ref (a 0))]) C 1 dX5_findLighters_22 rfl (nI_inc i) (by decide) rfl ?_
        refine j_goto (tgt := 2) C dX5_findLighters_25 (by decide) ?_
        refine J.sub [1, 0] rfl ?_
        have e := ih2 (i + 1) (by omega) (by omega)
        rw [← fil_s] at e
        exact e
  have e := L2 (N + 1) 0 (by omega) (by omega)
  rw [fil_0] at e
  exact e
set_option maxHeartbeats 4000000 in
set_option maxRecDepth 20000 in
theorem c_X5_roundByLighters {l : Launch} {D : va_G} {cy : Nat → ClassId} (a : Nat → Nat) (N B : Nat) (kf : Nat → Int32) (pf : Nat → Nat → Int32) (lf tf : Nat → Int32) (k : Nat → Nat) (p : Nat → Nat → Nat) (hT : Ag N k p kf pf) (hlf : ∀ j, j < N → lf j = lI (lg N k p j)) (q : Nat) (hq : q < 6) : Ct l yX5_roundByLighters wsX5_roundByLighters ({ frames := 0, cells := 0, slots := 0, locals := 0 }) D cy [.ref (a 0), .int (nI q)] (wT a cy (nI N) (nI B) kf pf lf tf) (fun _ : Unit => True) (fun _ => some (.int (nI (rnd N k p q)))) (fun _ => wT a cy (nI N) (nI B) kf pf lf tf) := by
  refine Ct.of (cc := cX5_roundByLighters) (nL := 4) (ret := (some .int)) rfl (by decide) ⟨rfl, rfl⟩ (Nat.le_of_ble_eq_true rfl) ?_
  intro X C E
  have C : Cx X l D cy cX5_roundByLighters 4 wsX5_roundByLighters RX5 ({ frames := 0, cells := 0, slots := 0, locals := 0 }) := C
  have m0 : ∀ w ∈ u_ws RX5 TX5 7, w ∈ wsX5_roundByLighters := by decide +kernel
  have m1 : Cond.fieldLink RX5 40 RX5 (TX5 5).2.1 (TX5 5).2.2.1 ∈ wsX5_roundByLighters := by decide +kernel
  have m2 : Cond.fieldLink RX5 33 RX5 (TX5 3).2.1 (TX5 3).2.2.1 ∈ wsX5_roundByLighters := by decide +kernel
  have hN := hT.n
  show J X (wT a cy (nI N) (nI B) kf pf lf tf) 0 [(0, .ref (a 0)), (1, .int (nI q))] []
  refine j_iconst (v := nI 0) C dX5_roundByLighters_0 (by decide) ?_
  refine j_istore_n (lv' := [(2, .int (nI 0)), (0, .ref (a 0)), (1, .int (nI q))]) C dX5_roundByLighters_1 rfl (by decide) rfl ?_
  refine j_iconst (v := nI 0) C dX5_roundByLighters_2 (by decide) ?_
  refine j_istore_n (lv' := [(3, .int (nI 0)), (2, .int (nI 0)), (0, .ref (a 0)), (1, .int (nI q))]) C dX5_roundByLighters_3 rfl (by decide) rfl ?_
  refine J.sub [2, 3, 1, 0] rfl ?_
  have L4 : ∀ (n : Nat) (i : Nat), N - i < n → i ≤ N → J X (wT a cy (nI N) (nI B) kf pf lf tf) 4 [(0, .ref (a 0)), (1, .int (nI q)), (2, .int (nI (bset (fun b => lg N k p b == some q) i))), (3, .int (nI i))] [] := by
    intro n
    induction n with
    | zero => intro i hm; exact absurd hm (Nat.not_lt_zero _)
    | succ n ih4 =>
      intro i h4_0 h4_1
      refine j_iload_n C 3 dX5_roundByLighters_4 rfl rfl ?_
      refine j_aload_n C 0 dX5_roundByLighters_5 rfl rfl ?_
      refine j_get C m0 5 m1 0 rfl rfl (by decide) rfl rfl dX5_roundByLighters_6 ?_
      refine j_icmp_geN (tgt := 34) C dX5_roundByLighters_9 (by decide) (by omega) (by omega) (fun c9 => ?_) (fun c9 => ?_)
      · refine j_iload_n C 2 dX5_roundByLighters_34 rfl rfl ?_
        exact j_iret C E dX5_roundByLighters_35 () trivial (by rw [show i = N by omega]; rfl) rfl
      · refine j_aload_n C 0 dX5_roundByLighters_12 rfl rfl ?_
        refine j_get C m0 3 m2 0 rfl rfl (by decide) rfl rfl dX5_roundByLighters_13 ?_
        refine j_iload_n C 3 dX5_roundByLighters_16 rfl rfl ?_
        refine j_iald (v := lI (lg N k p i)) C 4 rfl (by omega) (by decide) (hlf _ (by omega)) dX5_roundByLighters_17 ?_
        refine j_iload_n C 1 dX5_roundByLighters_18 rfl rfl ?_
        refine j_icmp_ne (tgt := 28) C dX5_roundByLighters_19 (by decide) (fun c19 => ?_) (fun c19 => ?_)
        · refine j_iinc (v := nI (i + 1)) (lv' := [(3, .int (nI (i + 1))), (0, .ref (a 0)), (1, .int (nI q)), (2, .int (nI (bset (fun b => lg N k p b == some q) i)))]) C 3 dX5_roundByLighters_28 rfl (nI_inc i) (by decide) rfl ?_
          refine j_goto (tgt := 4) C dX5_roundByLighters_31 (by decide) ?_
          refine J.sub [1, 2, 3, 0] rfl ?_
          have e := ih4 (i + 1) (by omega) (by omega)
          first
            | (rw [bset_n (by show (lg N k p i == some q) = false; rw [beq_eq_false_iff_ne]; exact fun z => c19 (by rw [z]; rfl))] at e; exact e)
            | (rw [bset_y (by show (lg N k p i == some q) = true; rw [(lI_eq (lg_31 hN) (by omega)).mp c19]; exact beq_self_eq_true _)] at e; exact e)
        · refine j_iload_n C 2 dX5_roundByLighters_22 rfl rfl ?_
          refine j_iconst (v := nI 1) C dX5_roundByLighters_23 (by decide) ?_
          refine j_iload_n C 3 dX5_roundByLighters_24 rfl rfl ?_
          refine j_ishl (v := nI (2 ^ i)) C dX5_roundByLighters_25 (sh_l (by omega)) ?_
          refine j_ior (v := nI (bset (fun b => lg N k p b == some q) i + 2 ^ i)) C dX5_roundByLighters_26 (or_2 (bset_lt _ _)) ?_
          refine j_istore_n (lv' := [(2, .int (nI (bset (fun b => lg N k p b == some q) i + 2 ^ i))), (0, .ref (a 0)), (1, .int (nI q)), (3, .int (nI i))]) C dX5_roundByLighters_27 rfl (by decide) rfl ?_
          refine j_iinc (v := nI (i + 1)) (lv' := [(3, .int (nI (i + 1))), (2, .int (nI (bset (fun b => lg N k p b == some q) i + 2 ^ i))), (0, .ref (a 0)), (1, .int (nI q))]) C 3 dX5_roundByLighters_28 rfl (nI_inc i) (by decide) rfl ?_
          refine j_goto (tgt := 4) C dX5_roundByLighters_31 (by decide) ?_
          refine J.sub [2, 3, 1, 0] rfl ?_
          have e := ih4 (i + 1) (by omega) (by omega)
          first
            | (rw [bset_n (by show (lg N k p i == some q) = false; rw [beq_eq_false_iff_ne]; exact fun z => c19 (by rw [z]; rfl))] at e; exact e)
            | (rw [bset_y (by show (lg N k p i == some q) = true; rw [(lI_eq (lg_31 hN) (by omega)).mp c19]; exact beq_self_eq_true _)] at e; exact e)
  have e := L4 (N + 1) 0 (by omega) (by omega)
  exact e
set_option maxHeartbeats 4000000 in
set_option maxRecDepth 20000 in
theorem c_X5_roundOf {l : Launch} {D : va_G} {cy : Nat → ClassId} (a : Nat → Nat) (N B : Nat) (kf : Nat → Int32) (pf : Nat → Nat → Int32) (lf tf : Nat → Int32) (k : Nat → Nat) (p : Nat → Nat → Nat) (hT : Ag N k p kf pf) (q : Nat) (hq : q < 6) : Ct l yX5_roundOf wsX5_roundOf ({ frames := 4, cells := 0, slots := 0, locals := 90 }) D cy [.ref (a 0), .int (nI q)] (wT a cy (nI N) (nI B) kf pf lf tf) (fun _ : Unit => True) (fun _ => some (.int (nI (rnd N k p q)))) (fun _ => wT a cy (nI N) (nI B) kf pf (fil (lgF N k p) lf N) tf) := by
  refine Ct.of (cc := cX5_roundOf) (nL := 2) (ret := (some .int)) rfl (by decide) ⟨rfl, rfl⟩ (Nat.le_of_ble_eq_true rfl) ?_
  intro X C E
  have C : Cx X l D cy cX5_roundOf 2 wsX5_roundOf RX5 ({ frames := 4, cells := 0, slots := 0, locals := 90 }) := C
  have hN := hT.n
  show J X (wT a cy (nI N) (nI B) kf pf lf tf) 0 [(0, .ref (a 0)), (1, .int (nI q))] []
  refine j_aload_n C 0 dX5_roundOf_0 rfl rfl ?_
  refine j_callV0 (As := []) (rest := []) C (c_X5_findLighters a N B kf pf lf tf k p hT) gX5_roundOf_X5_findLighters rfl 0 rfl (by decide +kernel) (by decide) 0 rfl rfl (Nat.le_of_ble_eq_true rfl) dX5_roundOf_1 rfl (fun _ _ => ?_)
  show J X (wT a cy (nI N) (nI B) kf pf (fil (lgF N k p) lf N) tf) 4 [(0, .ref (a 0)), (1, .int (nI q))] []
  refine j_aload_n C 0 dX5_roundOf_4 rfl rfl ?_
  refine j_iload_n C 1 dX5_roundOf_5 rfl rfl ?_
  refine j_callV0 (As := [.int (nI q)]) (rest := []) C (c_X5_roundByLighters a N B kf pf (fil (lgF N k p) lf N) tf k p hT (fun j hj => fil_in hj) q (by omega)) gX5_roundOf_X5_roundByLighters rfl 1 rfl (by decide +kernel) (by decide) 0 rfl rfl (Nat.le_of_ble_eq_true rfl) dX5_roundOf_6 rfl (fun _ _ => ?_)
  show J X (wT a cy (nI N) (nI B) kf pf (fil (lgF N k p) lf N) tf) 9 [(0, .ref (a 0)), (1, .int (nI q))] [.int (nI (rnd N k p q))]
  exact j_iret C E dX5_roundOf_9 () trivial rfl rfl
set_option maxHeartbeats 4000000 in
set_option maxRecDepth 20000 in
theorem c_X5_fewestSteps {l : Launch} {D : va_G} {cy : Nat → ClassId} (q s : Nat) (hq : q < 6) (hs : s < 64) : Ct l yX5_fewestSteps wsX5_fewestSteps ({ frames := 1, cells := 0, slots := 0, locals := 14 }) D cy [.int (nI q), .int (nI s)] (([] : va_W) ) (fun _ : Unit => True) (fun _ => some (.int (nI (stp (bitP s) q 6)))) (fun _ => []) := by
  refine Ct.of (cc := cX5_fewestSteps) (nL := 5) (ret := (some .int)) rfl (by decide) ⟨rfl, rfl⟩ (Nat.le_of_ble_eq_true rfl) ?_
  intro X C E
  have C : Cx X l D cy cX5_fewestSteps 5 wsX5_fewestSteps RX5 ({ frames := 1, cells := 0, slots := 0, locals := 14 }) := C
  have m0 : Cond.methodLink RX5 102 Lib.Math.min.name ∈ wsX5_fewestSteps := by decide +kernel
  have m1 : Cond.static Lib.Math.min.name ∈ wsX5_fewestSteps := by decide +kernel
  have m2 : Cond.initialized "java/lang/Math" ∈ wsX5_fewestSteps := by decide +kernel
  have m3 : Cond.code Lib.Math.min.name Lib.Math.min.code 2 (some .int) ∈ wsX5_fewestSteps := by decide +kernel
  have m4 : Cond.methodLink RX5 97 Lib.Math.max.name ∈ wsX5_fewestSteps := by decide +kernel
  have m5 : Cond.static Lib.Math.max.name ∈ wsX5_fewestSteps := by decide +kernel
  have m6 : Cond.code Lib.Math.max.name Lib.Math.max.code 2 (some .int) ∈ wsX5_fewestSteps := by decide +kernel
  show J X (([] : va_W) ) 0 [(0, .int (nI q)), (1, .int (nI s))] []
  refine j_iconst (v := nI 0) C dX5_fewestSteps_0 (by decide) ?_
  refine j_istore_n (lv' := [(2, .int (nI 0)), (0, .int (nI q)), (1, .int (nI s))]) C dX5_fewestSteps_1 rfl (by decide) rfl ?_
  refine j_iconst (v := nI 0) C dX5_fewestSteps_2 (by decide) ?_
  refine j_istore_n (lv' := [(3, .int (nI 0)), (2, .int (nI 0)), (0, .int (nI q)), (1, .int (nI s))]) C dX5_fewestSteps_3 rfl (by decide) rfl ?_
  refine j_iconst (v := nI 0) C dX5_fewestSteps_4 (by decide) ?_
  refine j_istore (lv' := [(4, .int (nI 0)), (3, .int (nI 0)), (2, .int (nI 0)), (0, .int (nI q)), (1, .int (nI s))]) C dX5_fewestSteps_5 (by decide) rfl ?_
  refine J.sub [3, 4, 2, 1, 0] rfl ?_
  have L7 : ∀ (n : Nat) (i : Nat), 6 - i < n → i ≤ 6 → J X (([] : va_W) ) 7 [(0, .int (nI q)), (1, .int (nI s)), (2, .int (nI (dn (bitP s) q i))), (3, .int (nI (upp (bitP s) q i))), (4, .int (nI i))] [] := by
    intro n
    induction n with
    | zero => intro i hm; exact absurd hm (Nat.not_lt_zero _)
    | succ n ih7 =>
      intro i h7_0 h7_1
      have hdn := dn_le (bitP s) q i
      have hup := upp_le (bitP s) q i
      refine j_iload C 4 dX5_fewestSteps_7 rfl ?_
      refine j_bipush (v := nI 6) C dX5_fewestSteps_9 (by decide) ?_
      refine j_icmp_geN (tgt := 50) C dX5_fewestSteps_11 (by decide) (by omega) (by omega) (fun c11 => ?_) (fun c11 => ?_)
      · refine j_iload_n C 2 dX5_fewestSteps_50 rfl rfl ?_
        refine j_iload_n C 3 dX5_fewestSteps_51 rfl rfl ?_
        refine j_iadd (v := nI ((dn (bitP s) q i) + (upp (bitP s) q i))) C dX5_fewestSteps_52 (nI_add _ _) ?_
        refine j_iload_n C 2 dX5_fewestSteps_53 rfl rfl ?_
        refine j_iload_n C 3 dX5_fewestSteps_54 rfl rfl ?_
        refine j_mmin (v := nI (min (dn (bitP s) q i) (upp (bitP s) q i))) (rest := [.int (nI ((dn (bitP s) q i) + (upp (bitP s) q i)))]) C m0 m1 m2 m3 ⟨by decide, Nat.le_of_ble_eq_true rfl⟩ (mn_n (by omega) (by omega)) dX5_fewestSteps_55 ?_
        refine j_iadd (v := nI (((dn (bitP s) q i) + (upp (bitP s) q i)) + (min (dn (bitP s) q i) (upp (bitP s) q i)))) C dX5_fewestSteps_58 (nI_add _ _) ?_
        exact j_iret C E dX5_fewestSteps_59 () trivial (by rw [show i = 6 by omega]; rfl) rfl
      · refine j_iload_n C 1 dX5_fewestSteps_14 rfl rfl ?_
        refine j_iload C 4 dX5_fewestSteps_15 rfl ?_
        refine j_ishr (v := nI (s / 2 ^ i)) C dX5_fewestSteps_17 (sh_r (by omega) (by omega)) ?_
        refine j_iconst (v := nI 1) C dX5_fewestSteps_18 (by decide) ?_
        refine j_iand (v := nI ((s / 2 ^ i) % 2)) C dX5_fewestSteps_19 (an_1 _) ?_
        refine j_if_neN (tgt := 26) C dX5_fewestSteps_20 (by decide) (by omega) (fun c20 => ?_) (fun c20 => ?_)
        · have hb : bitP s i = true := decide_eq_true (by omega)
          refine j_iload_n C 2 dX5_fewestSteps_26 rfl rfl ?_
          refine j_iload_n C 0 dX5_fewestSteps_27 rfl rfl ?_
          refine j_iload C 4 dX5_fewestSteps_28 rfl ?_
          refine j_isub (v := nI q - nI i) C dX5_fewestSteps_30 rfl ?_
          refine j_mmax (v := nI (max (dn (bitP s) q i) (q - i))) (rest := []) C m4 m5 m2 m6 ⟨by decide, Nat.le_of_ble_eq_true rfl⟩ (mx_s (by omega) (by omega) (by omega)) dX5_fewestSteps_31 ?_
          refine j_istore_n (lv' := [(2, .int (nI (max (dn (bitP s) q i) (q - i)))), (0, .int (nI q)), (1, .int (nI s)), (3, .int (nI (upp (bitP s) q i))), (4, .int (nI i))]) C dX5_fewestSteps_34 rfl (by decide) rfl ?_
          refine j_iload_n C 3 dX5_fewestSteps_35 rfl rfl ?_
          refine j_iload C 4 dX5_fewestSteps_36 rfl ?_
          refine j_iload_n C 1 dX5_fewestSteps_38 rfl rfl ?_
          refine j_isub (v := nI i - nI q) C dX5_fewestSteps_39 rfl ?_
          refine j_mmax (v := nI (max (upp (bitP s) q i) (i - q))) (rest := []) C m4 m5 m2 m6 ⟨by decide, Nat.le_of_ble_eq_true rfl⟩ (mx_s (by omega) (by omega) (by omega)) dX5_fewestSteps_40 ?_
          refine j_istore_n (lv' := [(3, .int (nI (max (upp (bitP s) q i) (i - q)))), (2, .int (nI (max (dn (bitP s) q i) (q - i)))), (0, .int (nI q)), (1, .int (nI s)), (4, .int (nI i))]) C dX5_fewestSteps_43 rfl (by decide) rfl ?_
          refine j_iinc (v := nI (i + 1)) (lv' := [(4, .int (nI (i + 1))), (3, .int (nI (max (upp (bitP s) q i) (i - q)))), (2, .int (nI (max (dn (bitP s) q i) (q - i)))), (0, .int (nI q)), (1, .int (nI s))]) C 4 dX5_fewestSteps_44 rfl (nI_inc i) (by decide) rfl ?_
          refine j_goto (tgt := 7) C dX5_fewestSteps_47 (by decide) ?_
          refine J.sub [3, 4, 2, 1, 0] rfl ?_
          have e := ih7 (i + 1) (by omega) (by omega)
          first
            | (rw [dn_y hb, upp_y hb] at e; exact e)
            | (rw [dn_n hb, upp_n hb] at e; exact e)
        · have hb : bitP s i = false := decide_eq_false (by omega)
          refine j_goto (tgt := 44) C dX5_fewestSteps_23 (by decide) ?_
          refine j_iinc (v := nI (i + 1)) (lv' := [(4, .int (nI (i + 1))), (0, .int (nI q)), (1, .int (nI s)), (2, .int (nI (dn (bitP s) q i))), (3, .int (nI (upp (bitP s) q i)))]) C 4 dX5_fewestSteps_44 rfl (nI_inc i) (by decide) rfl ?_
          refine j_goto (tgt := 7) C dX5_fewestSteps_47 (by decide) ?_
          refine J.sub [1, 2, 3, 4, 0] rfl ?_
          have e := ih7 (i + 1) (by omega) (by omega)
          first
            | (rw [dn_y hb, upp_y hb] at e; exact e)
            | (rw [dn_n hb, upp_n hb] at e; exact e)
  have e := L7 7 0 (by omega) (by omega)
  exact e
set_option maxHeartbeats 4000000 in
set_option maxRecDepth 20000 in
theorem c_X5_stepsOf {l : Launch} {D : va_G} {cy : Nat → ClassId} (a : Nat → Nat) (N B : Nat) (kf : Nat → Int32) (pf : Nat → Nat → Int32) (lf tf : Nat → Int32) (k : Nat → Nat) (p : Nat → Nat → Nat) (hT : Ag N k p kf pf) (q : Nat) (hq : q < 6) : Ct l yX5_stepsOf wsX5_stepsOf ({ frames := 5, cells := 0, slots := 0, locals := 111 }) D cy [.ref (a 0), .int (nI q)] (wT a cy (nI N) (nI B) kf pf lf tf) (fun _ : Unit => True) (fun _ => some (.int (nI (sps N k p q)))) (fun _ => wT a cy (nI N) (nI B) kf pf (fil (lgF N k p) lf N) tf) := by
  refine Ct.of (cc := cX5_stepsOf) (nL := 2) (ret := (some .int)) rfl (by decide) ⟨rfl, rfl⟩ (Nat.le_of_ble_eq_true rfl) ?_
  intro X C E
  have C : Cx X l D cy cX5_stepsOf 2 wsX5_stepsOf RX5 ({ frames := 5, cells := 0, slots := 0, locals := 111 }) := C
  have hN := hT.n
  show J X (wT a cy (nI N) (nI B) kf pf lf tf) 0 [(0, .ref (a 0)), (1, .int (nI q))] []
  refine j_iload_n C 1 dX5_stepsOf_0 rfl rfl ?_
  refine j_aload_n C 0 dX5_stepsOf_1 rfl rfl ?_
  refine j_iload_n C 1 dX5_stepsOf_2 rfl rfl ?_
  refine j_callV0 (As := [.int (nI q)]) (rest := [.int (nI q)]) C (c_X5_roundOf a N B kf pf lf tf k p hT q (by omega)) gX5_stepsOf_X5_roundOf rfl 1 rfl (by decide +kernel) (by decide) 0 rfl rfl (Nat.le_of_ble_eq_true rfl) dX5_stepsOf_3 rfl (fun _ _ => ?_)
  show J X (wT a cy (nI N) (nI B) kf pf (fil (lgF N k p) lf N) tf) 6 [(0, .ref (a 0)), (1, .int (nI q))] [.int (nI (rnd N k p q)), .int (nI q)]
  refine j_callP (As := [.int (nI q), .int (nI (rnd N k p q))]) (rest := []) C (c_X5_fewestSteps q (rnd N k p q) (by omega) (rnd_lt hN _)) gX5_stepsOf_X5_fewestSteps rfl 2 rfl (by decide +kernel) (by decide) (Nat.le_of_ble_eq_true rfl) dX5_stepsOf_6 rfl (fun _ _ => ?_)
  show J X (wT a cy (nI N) (nI B) kf pf (fil (lgF N k p) lf N) tf) 9 [(0, .ref (a 0)), (1, .int (nI q))] [.int (nI (stp (bitP (rnd N k p q)) q 6))]
  exact j_iret C E dX5_stepsOf_9 () trivial (by rw [sps_6 hN]) rfl
end
section
set_option maxHeartbeats 4000000 in
set_option maxRecDepth 20000 in
theorem c_X5_passDusk {l : Launch} {D : va_G} {cy : Nat → ClassId} (a : Nat → Nat) (N B : Nat) (kf : Nat → Int32) (pf : Nat → Nat → Int32) (lf tf : Nat → Int32) (k : Nat → Nat) (p : Nat → Nat → Nat) (hT : Ag N k p kf pf) (hB : B ≤ 9) : Ct l yX5_passDusk wsX5_passDusk ({ frames := 4, cells := 0, slots := 0, locals := 90 }) D cy [.ref (a 0)] (wT a cy (nI N) (nI B) kf pf lf tf) (fun _ : Unit => True) (fun _ => none) (fun _ => wT a cy (nI N) (nI B) kf (pfD N B k p pf N) (fil (lgF N k p) lf N) (fil (tI N B k p) tf N)) := by
  refine Ct.of (cc := cX5_passDusk) (nL := 4) (ret := none) rfl (by decide) ⟨rfl, rfl⟩ (Nat.le_of_ble_eq_true rfl) ?_
  intro X C E
  have C : Cx X l D cy cX5_passDusk 4 wsX5_passDusk RX5 ({ frames := 4, cells := 0, slots := 0, locals := 90 }) := C
  have m0 : ∀ w ∈ u_ws RX5 TX5 7, w ∈ wsX5_passDusk := by decide +kernel
  have m1 : Cond.fieldLink RX5 40 RX5 (TX5 5).2.1 (TX5 5).2.2.1 ∈ wsX5_passDusk := by decide +kernel
  have m2 : Cond.fieldLink RX5 33 RX5 (TX5 3).2.1 (TX5 3).2.2.1 ∈ wsX5_passDusk := by decide +kernel
  have m3 : Cond.fieldLink RX5 30 RX5 (TX5 2).2.1 (TX5 2).2.2.1 ∈ wsX5_passDusk := by decide +kernel
  have m4 : Cond.fieldLink RX5 36 RX5 (TX5 4).2.1 (TX5 4).2.2.1 ∈ wsX5_passDusk := by decide +kernel
  have m5 : Cond.methodLink RX5 102 Lib.Math.min.name ∈ wsX5_passDusk := by decide +kernel
  have m6 : Cond.static Lib.Math.min.name ∈ wsX5_passDusk := by decide +kernel
  have m7 : Cond.initialized "java/lang/Math" ∈ wsX5_passDusk := by decide +kernel
  have m8 : Cond.code Lib.Math.min.name Lib.Math.min.code 2 (some .int) ∈ wsX5_passDusk := by decide +kernel
  have m9 : Cond.methodLink RX5 97 Lib.Math.max.name ∈ wsX5_passDusk := by decide +kernel
  have m10 : Cond.static Lib.Math.max.name ∈ wsX5_passDusk := by decide +kernel
  have m11 : Cond.code Lib.Math.max.name Lib.Math.max.code 2 (some .int) ∈ wsX5_passDusk := by decide +kernel
  have m12 : Cond.fieldLink RX5 44 RX5 (TX5 6).2.1 (TX5 6).2.2.1 ∈ wsX5_passDusk := by decide +kernel
  have hN := hT.n
  show J X (wT a cy (nI N) (nI B) kf pf lf tf) 0 [(0, .ref (a 0))] []
  refine j_aload_n C 0 dX5_passDusk_0 rfl rfl ?_
  refine j_callV0 (As := []) (rest := []) C (c_X5_findLighters a N B kf pf lf tf k p hT) gX5_passDusk_X5_findLighters rfl 0 rfl (by decide +kernel) (by decide) 0 rfl rfl (Nat.le_of_ble_eq_true rfl) dX5_passDusk_1 rfl (fun _ _ => ?_)
  show J X (wT a cy (nI N) (nI B) kf pf (fil (lgF N k p) lf N) tf) 4 [(0, .ref (a 0))] []
  refine j_iconst (v := nI 0) C dX5_passDusk_4 (by decide) ?_
  refine j_istore_n (lv' := [(1, .int (nI 0)), (0, .ref (a 0))]) C dX5_passDusk_5 rfl (by decide) rfl ?_
  refine J.sub [1, 0] rfl ?_
  have L6 : ∀ (n : Nat) (i : Nat), N - i < n → i ≤ N → J X (wT a cy (nI N) (nI B) kf pf (fil (lgF N k p) lf N) (fil (tI N B k p) tf i)) 6 [(0, .ref (a 0)), (1, .int (nI i))] [] := by
    intro n
    induction n with
    | zero => intro i hm; exact absurd hm (Nat.not_lt_zero _)
    | succ n ih6 =>
      intro i h6_0 h6_1
      refine j_iload_n C 1 dX5_passDusk_6 rfl rfl ?_
      refine j_aload_n C 0 dX5_passDusk_7 rfl rfl ?_
      refine j_get C m0 5 m1 0 rfl rfl (by decide) rfl rfl dX5_passDusk_8 ?_
      refine j_icmp_geN (tgt := 47) C dX5_passDusk_11 (by decide) (by omega) (by omega) (fun c11 => ?_) (fun c11 => ?_)
      · refine j_iconst (v := nI 0) C dX5_passDusk_47 (by decide) ?_
        refine j_istore_n (lv' := [(1, .int (nI 0)), (0, .ref (a 0))]) C dX5_passDusk_48 rfl (by decide) rfl ?_
        refine J.sub [1, 0] rfl ?_
        have L49 : ∀ (n : Nat) (c : Nat), N - c < n → c ≤ N → J X (wT a cy (nI N) (nI B) kf (pfD N B k p pf c) (fil (lgF N k p) lf N) (fil (tI N B k p) tf i)) 49 [(0, .ref (a 0)), (1, .int (nI c))] [] := by
          intro n
          induction n with
          | zero => intro c hm; exact absurd hm (Nat.not_lt_zero _)
          | succ n ih49 =>
            intro c h49_0 h49_1
            refine j_iload_n C 1 dX5_passDusk_49 rfl rfl ?_
            refine j_aload_n C 0 dX5_passDusk_50 rfl rfl ?_
            refine j_get C m0 5 m1 0 rfl rfl (by decide) rfl rfl dX5_passDusk_51 ?_
            refine j_icmp_geN (tgt := 123) C dX5_passDusk_54 (by decide) (by omega) (by omega) (fun c54 => ?_) (fun c54 => ?_)
            · exact j_vret C E dX5_passDusk_123 () trivial rfl (by rw [show c = N by omega, show i = N by omega])
            · refine j_aload_n C 0 dX5_passDusk_57 rfl rfl ?_
              refine j_get C m0 3 m2 0 rfl rfl (by decide) rfl rfl dX5_passDusk_58 ?_
              refine j_iload_n C 1 dX5_passDusk_61 rfl rfl ?_
              refine j_iald (v := lI (lg N k p c)) C 4 rfl (by omega) (by decide) (fil_in (by omega)) dX5_passDusk_62 ?_
              refine j_istore_n (lv' := [(2, .int (lI (lg N k p c))), (0, .ref (a 0)), (1, .int (nI c))]) C dX5_passDusk_63 rfl (by decide) rfl ?_
              refine j_iload_n C 0 dX5_passDusk_64 rfl rfl ?_
              refine j_bipush (v := (-9)) C dX5_passDusk_65 (by decide) ?_
              refine j_icmp_ne (tgt := 73) C dX5_passDusk_67 (by decide) (fun c67 => ?_) (fun c67 => ?_)
              · obtain ⟨q, hq⟩ := some_of c67
                have hqN := lg_lt hq
                rw [hq]
                show J X (wT a cy (nI N) (nI B) kf (pfD N B k p pf c) (fil (lgF N k p) lf N) (fil (tI N B k p) tf i)) 73 [(2, .int (nI q)), (0, .ref (a 0)), (1, .int (nI c))] []
                refine j_aload_n C 1 dX5_passDusk_73 rfl rfl ?_
                refine j_get C m0 2 m3 0 rfl rfl (by decide) rfl rfl dX5_passDusk_74 ?_
                refine j_iload_n C 0 dX5_passDusk_77 rfl rfl ?_
                refine j_gald (b := a (9 + q)) C 3 rfl (by omega) (by decide) (wT_out (by omega)) dX5_passDusk_78 ?_
                refine j_iload_n C 2 dX5_passDusk_79 rfl rfl ?_
                have := hT.p9 (a := q) (b := c) (by omega) (by omega)
                refine j_iald (v := nI (p q c)) C (9 + q) (wT_row (by omega)) (by omega) (by decide) (pfD_at.trans (hT.pp (by omega) (by omega))) dX5_passDusk_80 ?_
                refine j_istore_n (lv' := [(3, .int (nI (p q c))), (2, .int (nI q)), (0, .ref (a 0)), (1, .int (nI c))]) C dX5_passDusk_81 rfl (by decide) rfl ?_
                refine j_aload_n C 2 dX5_passDusk_82 rfl rfl ?_
                refine j_get C m0 2 m3 0 rfl rfl (by decide) rfl rfl dX5_passDusk_83 ?_
                refine j_iload_n C 1 dX5_passDusk_86 rfl rfl ?_
                refine j_gald (b := a (9 + q)) C 3 rfl (by omega) (by decide) (wT_out (by omega)) dX5_passDusk_87 ?_
                refine j_iload_n C 3 dX5_passDusk_88 rfl rfl ?_
                refine j_aload_n C 2 dX5_passDusk_89 rfl rfl ?_
                refine j_get C m0 4 m4 0 rfl rfl (by decide) rfl rfl dX5_passDusk_90 ?_
                refine j_iload_n C 1 dX5_passDusk_93 rfl rfl ?_
                refine j_zald (v := tI N B k p q) C 5 rfl (by omega) (by decide) (fil_in (by omega)) dX5_passDusk_94 ?_
                refine j_if_eq (tgt := 108) C dX5_passDusk_95 (by decide) (fun c95 => ?_) (fun c95 => ?_)
                · refine j_bipush (v := nI 9) C dX5_passDusk_108 (by decide) ?_
                  refine j_iconst (v := nI 2) C dX5_passDusk_110 (by decide) ?_
                  refine j_iload_n C 0 dX5_passDusk_111 rfl rfl ?_
                  refine j_imul (v := nI (2 * (p q c))) C dX5_passDusk_112 (pk_mul _ _) ?_
                  refine j_mmin (v := nI (min 9 (2 * p q c))) (rest := [.int (nI c), .ref (a (9 + q))]) C m5 m6 m7 m8 ⟨by decide, Nat.le_of_ble_eq_true rfl⟩ (mn_n (by omega) (by omega)) dX5_passDusk_113 ?_
                  refine j_iast (ws' := wT a cy (nI N) (nI B) kf (updR (pfD N B k p pf c) q (upd ((pfD N B k p pf c) q) c (nI (min 9 (2 * p q c))))) (fil (lgF N k p) lf N) (fil (tI N B k p) tf i)) C (9 + q) (wT_row (by omega)) (by omega) (by decide) (wT_set (by omega)) dX5_passDusk_116 ?_
                  refine j_iinc (v := nI (c + 1)) (lv' := [(1, .int (nI (c + 1))), (3, .int (nI (p q c))), (2, .int (nI q)), (0, .ref (a 0))]) C 3 dX5_passDusk_117 rfl (nI_inc c) (by decide) rfl ?_
                  refine j_goto (tgt := 49) C dX5_passDusk_120 (by decide) ?_
                  refine J.sub [3, 0] rfl ?_
                  have e := ih49 (c + 1) (by omega) (by omega)
                  first
                    | (rw [pfD_n ((lI_none (lg_31 hN)).mp c67)] at e; exact e)
                    | (rw [← pfD_s hq (dk_in hq (tI_1 c95))] at e; exact e)
                    | (rw [← pfD_s hq (dk_out hq (tI_0 c95))] at e; exact e)
                · refine j_iconst (v := nI 0) C dX5_passDusk_98 (by decide) ?_
                  refine j_iload_n C 0 dX5_passDusk_99 rfl rfl ?_
                  refine j_iconst (v := nI 1) C dX5_passDusk_100 (by decide) ?_
                  refine j_isub (v := nI (p q c) - nI 1) C dX5_passDusk_101 rfl ?_
                  refine j_mmax (v := nI (max 0 (p q c - 1))) (rest := [.int (nI c), .ref (a (9 + q))]) C m9 m10 m7 m11 ⟨by decide, Nat.le_of_ble_eq_true rfl⟩ (mx_s (by omega) (by omega) (by omega)) dX5_passDusk_102 ?_
                  refine j_goto (tgt := 116) C dX5_passDusk_105 (by decide) ?_
                  refine j_iast (ws' := wT a cy (nI N) (nI B) kf (updR (pfD N B k p pf c) q (upd ((pfD N B k p pf c) q) c (nI (max 0 (p q c - 1))))) (fil (lgF N k p) lf N) (fil (tI N B k p) tf i)) C (9 + q) (wT_row (by omega)) (by omega) (by decide) (wT_set (by omega)) dX5_passDusk_116 ?_
                  refine j_iinc (v := nI (c + 1)) (lv' := [(1, .int (nI (c + 1))), (3, .int (nI (p q c))), (2, .int (nI q)), (0, .ref (a 0))]) C 3 dX5_passDusk_117 rfl (nI_inc c) (by decide) rfl ?_
                  refine j_goto (tgt := 49) C dX5_passDusk_120 (by decide) ?_
                  refine J.sub [3, 0] rfl ?_
                  have e := ih49 (c + 1) (by omega) (by omega)
                  first
                    | (rw [pfD_n ((lI_none (lg_31 hN)).mp c67)] at e; exact e)
                    | (rw [← pfD_s hq (dk_in hq (tI_1 c95))] at e; exact e)
                    | (rw [← pfD_s hq (dk_out hq (tI_0 c95))] at e; exact e)
              · refine j_goto (tgt := 117) C dX5_passDusk_70 (by decide) ?_
                refine j_iinc (v := nI (c + 1)) (lv' := [(1, .int (nI (c + 1))), (2, .int (lI (lg N k p c))), (0, .ref (a 0))]) C 2 dX5_passDusk_117 rfl (nI_inc c) (by decide) rfl ?_
                refine j_goto (tgt := 49) C dX5_passDusk_120 (by decide) ?_
                refine J.sub [2, 0] rfl ?_
                have e := ih49 (c + 1) (by omega) (by omega)
                first
                  | (rw [pfD_n ((lI_none (lg_31 hN)).mp c67)] at e; exact e)
                  | (rw [← pfD_s hq (dk_in hq (tI_1 c95))] at e; exact e)
                  | (rw [← pfD_s hq (dk_out hq (tI_0 c95))] at e; exact e)
        have e := L49 (N + 1) 0 (by omega) (by omega)
        rw [pfD_0] at e
        exact e
      · refine j_aload_n C 0 dX5_passDusk_14 rfl rfl ?_
        refine j_get C m0 4 m4 0 rfl rfl (by decide) rfl rfl dX5_passDusk_15 ?_
        refine j_iload_n C 1 dX5_passDusk_18 rfl rfl ?_
        refine j_iload_n C 1 dX5_passDusk_19 rfl rfl ?_
        refine j_aload_n C 0 dX5_passDusk_20 rfl rfl ?_
        refine j_iload_n C 1 dX5_passDusk_21 rfl rfl ?_
        refine j_callV0 (As := [.int (nI i)]) (rest := [.int (nI i), .int (nI i), .ref (a 5)]) C (c_X5_roundByLighters a N B kf pf (fil (lgF N k p) lf N) (fil (tI N B k p) tf i) k p hT (fun j hj => fil_in hj) i (by omega)) gX5_passDusk_X5_roundByLighters rfl 1 rfl (by decide +kernel) (by decide) 0 rfl rfl (Nat.le_of_ble_eq_true rfl) dX5_passDusk_22 rfl (fun _ _ => ?_)
        show J X (wT a cy (nI N) (nI B) kf pf (fil (lgF N k p) lf N) (fil (tI N B k p) tf i)) 25 [(0, .ref (a 0)), (1, .int (nI i))] [.int (nI (rnd N k p i)), .int (nI i), .int (nI i), .ref (a 5)]
        refine j_callP (As := [.int (nI i), .int (nI (rnd N k p i))]) (rest := [.int (nI i), .ref (a 5)]) C (c_X5_fewestSteps i (rnd N k p i) (by omega) (rnd_lt hN _)) gX5_passDusk_X5_fewestSteps rfl 2 rfl (by decide +kernel) (by decide) (Nat.le_of_ble_eq_true rfl) dX5_passDusk_25 rfl (fun _ _ => ?_)
        rw [sps_6 hN]
        have hsp := sps_le (k := k) (p := p) hN (q := i) (by omega)
        show J X (wT a cy (nI N) (nI B) kf pf (fil (lgF N k p) lf N) (fil (tI N B k p) tf i)) 28 [(0, .ref (a 0)), (1, .int (nI i))] [.int (nI (sps N k p i)), .int (nI i), .ref (a 5)]
        refine j_aload_n C 0 dX5_passDusk_28 rfl rfl ?_
        refine j_get C m0 6 m12 0 rfl rfl (by decide) rfl rfl dX5_passDusk_29 ?_
        refine j_icmp_gtN (tgt := 39) C dX5_passDusk_32 (by decide) (by omega) (by omega) (fun c32 => ?_) (fun c32 => ?_)
        · refine j_iconst (v := nI 0) C dX5_passDusk_39 (by decide) ?_
          refine j_zast (ws' := wT a cy (nI N) (nI B) kf pf (fil (lgF N k p) lf N) (upd (fil (tI N B k p) tf i) i (nI 0))) C 5 rfl (by omega) (by decide) (by decide) rfl dX5_passDusk_40 ?_
          refine j_iinc (v := nI (i + 1)) (lv' := [(1, .int (nI (i + 1))), (0, .ref (a 0))]) C 1 dX5_passDusk_41 rfl (nI_inc i) (by decide) rfl ?_
          refine j_goto (tgt := 6) C dX5_passDusk_44 (by decide) ?_
          refine J.sub [1, 0] rfl ?_
          have e := ih6 (i + 1) (by omega) (by omega)
          first
            | (rw [← fil_s, tI_n c32] at e; exact e)
            | (rw [← fil_s, tI_y c32] at e; exact e)
        · refine j_iconst (v := nI 1) C dX5_passDusk_35 (by decide) ?_
          refine j_goto (tgt := 40) C dX5_passDusk_36 (by decide) ?_
          refine j_zast (ws' := wT a cy (nI N) (nI B) kf pf (fil (lgF N k p) lf N) (upd (fil (tI N B k p) tf i) i (nI 1))) C 5 rfl (by omega) (by decide) (by decide) rfl dX5_passDusk_40 ?_
          refine j_iinc (v := nI (i + 1)) (lv' := [(1, .int (nI (i + 1))), (0, .ref (a 0))]) C 1 dX5_passDusk_41 rfl (nI_inc i) (by decide) rfl ?_
          refine j_goto (tgt := 6) C dX5_passDusk_44 (by decide) ?_
          refine J.sub [1, 0] rfl ?_
          have e := ih6 (i + 1) (by omega) (by omega)
          first
            | (rw [← fil_s, tI_n c32] at e; exact e)
            | (rw [← fil_s, tI_y c32] at e; exact e)
  have e := L6 (N + 1) 0 (by omega) (by omega)
  rw [fil_0] at e
  exact e
set_option maxHeartbeats 4000000 in
set_option maxRecDepth 20000 in
theorem c_X5_penceInAll {l : Launch} {D : va_G} {cy : Nat → ClassId} (a : Nat → Nat) (N B : Nat) (kf : Nat → Int32) (pf : Nat → Nat → Int32) (lf tf : Nat → Int32) (k : Nat → Nat) (p : Nat → Nat → Nat) (hT : Ag N k p kf pf) (x : Nat) (hx : x < N) : Ct l yX5_penceInAll wsX5_penceInAll ({ frames := 0, cells := 0, slots := 0, locals := 0 }) D cy [.ref (a 0), .int (nI x)] (wT a cy (nI N) (nI B) kf pf lf tf) (fun _ : Unit => True) (fun _ => some (.int (nI (psum p x N)))) (fun _ => wT a cy (nI N) (nI B) kf pf lf tf) := by
  refine Ct.of (cc := cX5_penceInAll) (nL := 4) (ret := (some .int)) rfl (by decide) ⟨rfl, rfl⟩ (Nat.le_of_ble_eq_true rfl) ?_
  intro X C E
  have C : Cx X l D cy cX5_penceInAll 4 wsX5_penceInAll RX5 ({ frames := 0, cells := 0, slots := 0, locals := 0 }) := C
  have m0 : ∀ w ∈ u_ws RX5 TX5 7, w ∈ wsX5_penceInAll := by decide +kernel
  have m1 : Cond.fieldLink RX5 40 RX5 (TX5 5).2.1 (TX5 5).2.2.1 ∈ wsX5_penceInAll := by decide +kernel
  have m2 : Cond.fieldLink RX5 30 RX5 (TX5 2).2.1 (TX5 2).2.2.1 ∈ wsX5_penceInAll := by decide +kernel
  have hN := hT.n
  show J X (wT a cy (nI N) (nI B) kf pf lf tf) 0 [(0, .ref (a 0)), (1, .int (nI x))] []
  refine j_iconst (v := nI 0) C dX5_penceInAll_0 (by decide) ?_
  refine j_istore_n (lv' := [(2, .int (nI 0)), (0, .ref (a 0)), (1, .int (nI x))]) C dX5_penceInAll_1 rfl (by decide) rfl ?_
  refine j_iconst (v := nI 0) C dX5_penceInAll_2 (by decide) ?_
  refine j_istore_n (lv' := [(3, .int (nI 0)), (2, .int (nI 0)), (0, .ref (a 0)), (1, .int (nI x))]) C dX5_penceInAll_3 rfl (by decide) rfl ?_
  refine J.sub [2, 3, 1, 0] rfl ?_
  have L4 : ∀ (n : Nat) (i : Nat), N - i < n → i ≤ N → J X (wT a cy (nI N) (nI B) kf pf lf tf) 4 [(0, .ref (a 0)), (1, .int (nI x)), (2, .int (nI (psum p x i))), (3, .int (nI i))] [] := by
    intro n
    induction n with
    | zero => intro i hm; exact absurd hm (Nat.not_lt_zero _)
    | succ n ih4 =>
      intro i h4_0 h4_1
      refine j_iload_n C 3 dX5_penceInAll_4 rfl rfl ?_
      refine j_aload_n C 0 dX5_penceInAll_5 rfl rfl ?_
      refine j_get C m0 5 m1 0 rfl rfl (by decide) rfl rfl dX5_penceInAll_6 ?_
      refine j_icmp_geN (tgt := 29) C dX5_penceInAll_9 (by decide) (by omega) (by omega) (fun c9 => ?_) (fun c9 => ?_)
      · refine j_iload_n C 2 dX5_penceInAll_29 rfl rfl ?_
        exact j_iret C E dX5_penceInAll_30 () trivial (by rw [show i = N by omega]) rfl
      · refine j_iload_n C 2 dX5_penceInAll_12 rfl rfl ?_
        refine j_aload_n C 0 dX5_penceInAll_13 rfl rfl ?_
        refine j_get C m0 2 m2 0 rfl rfl (by decide) rfl rfl dX5_penceInAll_14 ?_
        refine j_iload_n C 1 dX5_penceInAll_17 rfl rfl ?_
        refine j_gald (b := a (9 + x)) C 3 rfl (by omega) (by decide) (wT_out (by omega)) dX5_penceInAll_18 ?_
        refine j_iload_n C 3 dX5_penceInAll_19 rfl rfl ?_
        have := hT.p9 (a := x) (b := i) (by omega) (by omega)
        refine j_iald (v := nI (p x i)) C (9 + x) (wT_row (by omega)) (by omega) (by decide) (hT.pp (by omega) (by omega)) dX5_penceInAll_20 ?_
        refine j_iadd (v := nI ((psum p x i) + (p x i))) C dX5_penceInAll_21 (nI_add _ _) ?_
        refine j_istore_n (lv' := [(2, .int (nI ((psum p x i) + (p x i)))), (0, .ref (a 0)), (1, .int (nI x)), (3, .int (nI i))]) C dX5_penceInAll_22 rfl (by decide) rfl ?_
        refine j_iinc (v := nI (i + 1)) (lv' := [(3, .int (nI (i + 1))), (2, .int (nI ((psum p x i) + (p x i)))), (0, .ref (a 0)), (1, .int (nI x))]) C 3 dX5_penceInAll_23 rfl (nI_inc i) (by decide) rfl ?_
        refine j_goto (tgt := 4) C dX5_penceInAll_26 (by decide) ?_
        refine J.sub [2, 3, 1, 0] rfl ?_
        have e := ih4 (i + 1) (by omega) (by omega)
        exact e
  have e := L4 (N + 1) 0 (by omega) (by omega)
  exact e
set_option maxHeartbeats 4000000 in
set_option maxRecDepth 20000 in
theorem c_X5_owingTo {l : Launch} {D : va_G} {cy : Nat → ClassId} (a : Nat → Nat) (N B : Nat) (kf : Nat → Int32) (pf : Nat → Nat → Int32) (lf tf : Nat → Int32) (k : Nat → Nat) (p : Nat → Nat → Nat) (hT : Ag N k p kf pf) (b : Nat) (hb : b < N) : Ct l yX5_owingTo wsX5_owingTo ({ frames := 0, cells := 0, slots := 0, locals := 0 }) D cy [.ref (a 0), .int (nI b)] (wT a cy (nI N) (nI B) kf pf lf tf) (fun _ : Unit => True) (fun _ => some (.int (nI (bset (fun a => decide (0 < p a b)) N)))) (fun _ => wT a cy (nI N) (nI B) kf pf lf tf) := by
  refine Ct.of (cc := cX5_owingTo) (nL := 4) (ret := (some .int)) rfl (by decide) ⟨rfl, rfl⟩ (Nat.le_of_ble_eq_true rfl) ?_
  intro X C E
  have C : Cx X l D cy cX5_owingTo 4 wsX5_owingTo RX5 ({ frames := 0, cells := 0, slots := 0, locals := 0 }) := C
  have m0 : ∀ w ∈ u_ws RX5 TX5 7, w ∈ wsX5_owingTo := by decide +kernel
  have m1 : Cond.fieldLink RX5 40 RX5 (TX5 5).2.1 (TX5 5).2.2.1 ∈ wsX5_owingTo := by decide +kernel
  have m2 : Cond.fieldLink RX5 30 RX5 (TX5 2).2.1 (TX5 2).2.2.1 ∈ wsX5_owingTo := by decide +kernel
  have hN := hT.n
  show J X (wT a cy (nI N) (nI B) kf pf lf tf) 0 [(0, .ref (a 0)), (1, .int (nI b))] []
  refine j_iconst (v := nI 0) C dX5_owingTo_0 (by decide) ?_
  refine j_istore_n (lv' := [(2, .int (nI 0)), (0, .ref (a 0)), (1, .int (nI b))]) C dX5_owingTo_1 rfl (by decide) rfl ?_
  refine j_iconst (v := nI 0) C dX5_owingTo_2 (by decide) ?_
  refine j_istore_n (lv' := [(3, .int (nI 0)), (2, .int (nI 0)), (0, .ref (a 0)), (1, .int (nI b))]) C dX5_owingTo_3 rfl (by decide) rfl ?_
  refine J.sub [2, 3, 1, 0] rfl ?_
  have L4 : ∀ (n : Nat) (i : Nat), N - i < n → i ≤ N → J X (wT a cy (nI N) (nI B) kf pf lf tf) 4 [(0, .ref (a 0)), (1, .int (nI b)), (2, .int (nI (bset (fun a => decide (0 < p a b)) i))), (3, .int (nI i))] [] := by
    intro n
    induction n with
    | zero => intro i hm; exact absurd hm (Nat.not_lt_zero _)
    | succ n ih4 =>
      intro i h4_0 h4_1
      refine j_iload_n C 3 dX5_owingTo_4 rfl rfl ?_
      refine j_aload_n C 0 dX5_owingTo_5 rfl rfl ?_
      refine j_get C m0 5 m1 0 rfl rfl (by decide) rfl rfl dX5_owingTo_6 ?_
      refine j_icmp_geN (tgt := 35) C dX5_owingTo_9 (by decide) (by omega) (by omega) (fun c9 => ?_) (fun c9 => ?_)
      · refine j_iload_n C 2 dX5_owingTo_35 rfl rfl ?_
        exact j_iret C E dX5_owingTo_36 () trivial (by rw [show i = N by omega]) rfl
      · refine j_aload_n C 0 dX5_owingTo_12 rfl rfl ?_
        refine j_get C m0 2 m2 0 rfl rfl (by decide) rfl rfl dX5_owingTo_13 ?_
        refine j_iload_n C 3 dX5_owingTo_16 rfl rfl ?_
        refine j_gald (b := a (9 + i)) C 3 rfl (by omega) (by decide) (wT_out (by omega)) dX5_owingTo_17 ?_
        refine j_iload_n C 1 dX5_owingTo_18 rfl rfl ?_
        have := hT.p9 (a := i) (b := b) (by omega) (by omega)
        refine j_iald (v := nI (p i b)) C (9 + i) (wT_row (by omega)) (by omega) (by decide) (hT.pp (by omega) (by omega)) dX5_owingTo_19 ?_
        refine j_if_leN (tgt := 29) C dX5_owingTo_20 (by decide) (by omega) (fun c20 => ?_) (fun c20 => ?_)
        · refine j_iinc (v := nI (i + 1)) (lv' := [(3, .int (nI (i + 1))), (0, .ref (a 0)), (1, .int (nI b)), (2, .int (nI (bset (fun a => decide (0 < p a b)) i)))]) C 3 dX5_owingTo_29 rfl (nI_inc i) (by decide) rfl ?_
          refine j_goto (tgt := 4) C dX5_owingTo_32 (by decide) ?_
          refine J.sub [1, 2, 3, 0] rfl ?_
          have e := ih4 (i + 1) (by omega) (by omega)
          first
            | (rw [bset_n (decide_eq_false (by omega))] at e; exact e)
            | (rw [bset_y (decide_eq_true (by omega))] at e; exact e)
        · refine j_iload_n C 2 dX5_owingTo_23 rfl rfl ?_
          refine j_iconst (v := nI 1) C dX5_owingTo_24 (by decide) ?_
          refine j_iload_n C 3 dX5_owingTo_25 rfl rfl ?_
          refine j_ishl (v := nI (2 ^ i)) C dX5_owingTo_26 (sh_l (by omega)) ?_
          refine j_ior (v := nI (bset (fun a => decide (0 < p a b)) i + 2 ^ i)) C dX5_owingTo_27 (or_2 (bset_lt _ _)) ?_
          refine j_istore_n (lv' := [(2, .int (nI (bset (fun a => decide (0 < p a b)) i + 2 ^ i))), (0, .ref (a 0)), (1, .int (nI b)), (3, .int (nI i))]) C dX5_owingTo_28 rfl (by decide) rfl ?_
          refine j_iinc (v := nI (i + 1)) (lv' := [(3, .int (nI (i + 1))), (2, .int (nI (bset (fun a => decide (0 < p a b)) i + 2 ^ i))), (0, .ref (a 0)), (1, .int (nI b))]) C 3 dX5_owingTo_29 rfl (nI_inc i) (by decide) rfl ?_
          refine j_goto (tgt := 4) C dX5_owingTo_32 (by decide) ?_
          refine J.sub [2, 3, 1, 0] rfl ?_
          have e := ih4 (i + 1) (by omega) (by omega)
          first
            | (rw [bset_n (decide_eq_false (by omega))] at e; exact e)
            | (rw [bset_y (decide_eq_true (by omega))] at e; exact e)
  have e := L4 (N + 1) 0 (by omega) (by omega)
  exact e
set_option maxHeartbeats 4000000 in
set_option maxRecDepth 20000 in
theorem c_X5_bodyOf {l : Launch} {D : va_G} {cy : Nat → ClassId} (a : Nat → Nat) (N B : Nat) (kf : Nat → Int32) (pf : Nat → Nat → Int32) (lf tf : Nat → Int32) (k : Nat → Nat) (p : Nat → Nat → Nat) (hT : Ag N k p kf pf) (x : Nat) (hx : x < N) : Ct l yX5_bodyOf wsX5_bodyOf ({ frames := 0, cells := 0, slots := 0, locals := 0 }) D cy [.ref (a 0), .int (nI x)] (wT a cy (nI N) (nI B) kf pf lf tf) (fun _ : Unit => True) (fun _ => some (.ref (a (6 + k x)))) (fun _ => wT a cy (nI N) (nI B) kf pf lf tf) := by
  refine Ct.of (cc := cX5_bodyOf) (nL := 2) (ret := (some (.object "DebtLamps$Person"))) rfl (by decide) ⟨rfl, rfl⟩ (Nat.le_of_ble_eq_true rfl) ?_
  intro X C E
  have C : Cx X l D cy cX5_bodyOf 2 wsX5_bodyOf RX5 ({ frames := 0, cells := 0, slots := 0, locals := 0 }) := C
  have m0 : ∀ w ∈ u_ws RX5 TX5 7, w ∈ wsX5_bodyOf := by decide +kernel
  have m1 : Cond.fieldLink RX5 18 RX5 (TX5 0).2.1 (TX5 0).2.2.1 ∈ wsX5_bodyOf := by decide +kernel
  have m2 : Cond.fieldLink RX5 24 RX5 (TX5 1).2.1 (TX5 1).2.2.1 ∈ wsX5_bodyOf := by decide +kernel
  have hN := hT.n
  show J X (wT a cy (nI N) (nI B) kf pf lf tf) 0 [(0, .ref (a 0)), (1, .int (nI x))] []
  refine j_aload_n C 0 dX5_bodyOf_0 rfl rfl ?_
  refine j_get C m0 0 m1 0 rfl rfl (by decide) rfl rfl dX5_bodyOf_1 ?_
  refine j_aload_n C 0 dX5_bodyOf_4 rfl rfl ?_
  refine j_get C m0 1 m2 0 rfl rfl (by decide) rfl rfl dX5_bodyOf_5 ?_
  refine j_iload_n C 1 dX5_bodyOf_8 rfl rfl ?_
  have := hT.k2 (a := x) (by omega)
  refine j_iald (v := nI (k x)) C 2 rfl (by omega) (by decide) (hT.kk (by omega)) dX5_bodyOf_9 ?_
  refine j_aald (t0 := 2) (Cn := "DebtLamps$Person") (b := a (6 + (k x))) C 1 rfl rfl (by omega) (by decide) (if_pos (by omega)) dX5_bodyOf_10 ?_
  exact j_aret C E dX5_bodyOf_11 () trivial rfl rfl
end
section
/-- one debt changed -/
def setp (p : Nat → Nat → Nat) (q b v : Nat) : Nat → Nat → Nat := fun a c => if a = q ∧ c = b then v else p a c
theorem setp_s {p : Nat → Nat → Nat} {q b v : Nat} : setp p q b v q b = v := if_pos ⟨rfl, rfl⟩
theorem setp_n {p : Nat → Nat → Nat} {q b v a c : Nat} (h : ¬ (a = q ∧ c = b)) : setp p q b v a c = p a c := if_neg h
theorem lg_col {N b : Nat} {k : Nat → Nat} {p p' : Nat → Nat → Nat} (h : ∀ a, a < N → p a b = p' a b) : lg N k p b = lg N k p' b := lgt_cong (fun a ha => by unfold wF; rw [h a ha])
theorem colP {N b q v : Nat} {k : Nat → Nat} {p p2 : Nat → Nat → Nat} (h1 : p2 q b = v) (h2 : ∀ a, a ≠ q → p2 a b = p a b) : lg N k p2 b = lg N k (setp p q b v) b := lg_col (fun a _ => by
  by_cases h : a = q
  · subst h; rw [h1, setp_s]
  · rw [h2 a h, setp_n (fun z => h z.1)])
/-- what one pays at one lamp, of v pence -/
def payv (N : Nat) (k : Nat → Nat) (p : Nat → Nat → Nat) (q b : Nat) : Nat → Nat
  | 0 => 0
  | v + 1 => if lg N k (setp p q b (v + 1)) b = some q then payv N k p q b v + 1 else 0
def fre (N : Nat) (k : Nat → Nat) (p : Nat → Nat → Nat) (q : Nat) : Nat → Nat
  | 0 => 0
  | b + 1 => fre N k p q b + payv N k p q b (p q b)
theorem payv_n {N q b : Nat} {k : Nat → Nat} {p : Nat → Nat → Nat} : ∀ {v : Nat}, ¬ lg N k (setp p q b v) b = some q → payv N k p q b v = 0
  | 0, _ => rfl
  | v + 1, h => if_neg h
theorem payv_y {N q b : Nat} {k : Nat → Nat} {p : Nat → Nat → Nat} : ∀ {v : Nat}, 0 < v → lg N k (setp p q b v) b = some q → payv N k p q b v = payv N k p q b (v - 1) + 1
  | 0, h, _ => absurd h (Nat.lt_irrefl 0)
  | v + 1, _, h => if_pos h
section AGC
variable {N : Nat} {k : Nat → Nat} {p : Nat → Nat → Nat} {kf : Nat → Int32} {pf : Nat → Nat → Int32}
theorem Ag.ne (h : Ag N k p kf pf) {b q : Nat} (hb : b < N) (hl : lg N k p b = some q) : q ≠ b := by
  intro e
  subst e
  have h1 := lgt_pos hl
  have h2 := h.p0 hb
  unfold wF at h1
  rw [h2] at h1
  have h3 : wt (k q) 0 = 0 := wt_0.mpr rfl
  omega
theorem Ag.pos (h : Ag N k p kf pf) {b q : Nat} (hl : lg N k p b = some q) : 0 < p q b := by
  have h1 := lgt_pos hl
  unfold wF at h1
  rcases Nat.eq_zero_or_pos (p q b) with e | e
  · have h3 : wt (k q) (p q b) = 0 := wt_0.mpr e
    omega
  · exact e
theorem Ag.setp (h : Ag N k p kf pf) {q b v : Nat} (hb : b < N) (hne : q ≠ b) (hv : v ≤ 9) : Ag N k (setp p q b v) kf (updR pf q (upd (pf q) b (nI v))) := by
  refine ⟨h.1, h.2.1, fun a ha => ⟨?_, fun c hc => ?_⟩⟩
  · rw [setp_n (fun z => hne (z.1.symm.trans z.2))]
    exact h.p0 ha
  · by_cases e1 : a = q
    · subst e1
      rw [updR_s]
      by_cases e2 : c = b
      · subst e2
        rw [pk_us, setp_s]
        exact ⟨rfl, hv⟩
      · rw [pk_un e2, setp_n (fun z => e2 z.2)]
        exact ⟨h.pp ha hc, h.p9 ha hc⟩
    · rw [updR_n e1, setp_n (fun z => e1 z.1)]
      exact ⟨h.pp ha hc, h.p9 ha hc⟩
end AGC
/-- rows below i copied -/
def filR (p1 p2 : Nat → Nat → Int32) (i : Nat) : Nat → Nat → Int32 := fun r => if r < i then fil (p1 r) (p2 r) 6 else p2 r
theorem filR_0 {p1 p2 : Nat → Nat → Int32} : filR p1 p2 0 = p2 := by funext r; exact if_neg (Nat.not_lt_zero r)
theorem filR_i {p1 p2 : Nat → Nat → Int32} {i : Nat} : filR p1 p2 i i = p2 i := if_neg (Nat.lt_irrefl i)
theorem updR_id {F : Nat → Nat → Int32} {i : Nat} {g : Nat → Int32} (h : F i = g) : updR F i g = F := by
  funext r
  by_cases e : r = i
  · subst e; rw [updR_s, h]
  · rw [updR_n e]
theorem updR_u {F : Nat → Nat → Int32} {i j : Nat} {g : Nat → Int32} {x : Int32} : updR (updR F i g) i (upd (updR F i g i) j x) = updR F i (upd g j x) := by
  rw [updR_s]
  funext r
  by_cases e : r = i
  · subst e; rw [updR_s, updR_s]
  · rw [updR_n e, updR_n e, updR_n e]
theorem filR_e {p1 p2 : Nat → Nat → Int32} {i : Nat} : filR p1 p2 i = updR (filR p1 p2 i) i (fil (p1 i) (p2 i) 0) := (updR_id (by rw [fil_0, filR_i])).symm
theorem filR_s {p1 p2 : Nat → Nat → Int32} {i : Nat} : updR (filR p1 p2 i) i (fil (p1 i) (p2 i) 6) = filR p1 p2 (i + 1) := by
  funext r
  by_cases e : r = i
  · subst e; rw [updR_s]; exact (if_pos (Nat.lt_succ_self r)).symm
  · rw [updR_n e]
    unfold filR
    by_cases h : r < i
    · rw [if_pos h, if_pos (by omega)]
    · rw [if_neg h, if_neg (by omega)]
theorem Ag.cp {N : Nat} {k : Nat → Nat} {p : Nat → Nat → Nat} {kf kf2 : Nat → Int32} {pf pf2 : Nat → Nat → Int32} (h : Ag N k p kf pf) : Ag N k p (fil kf kf2 6) (filR pf pf2 6) := by
  have hN := h.1
  refine ⟨h.1, fun a ha => ⟨by rw [fil_in (by omega)]; exact h.kk ha, h.k2 ha⟩, fun a ha => ⟨h.p0 ha, fun b hb => ⟨?_, h.p9 ha hb⟩⟩⟩
  show (if a < 6 then fil (pf a) (pf2 a) 6 else pf2 a) b = _
  rw [if_pos (by omega), fil_in (by omega)]
  exact h.pp ha hb
section WTT
variable {a1 a2 : Nat → Nat} {cy : Nat → ClassId} {n1 b1 n2 b2 : Int32} {k1 k2 : Nat → Int32} {p1 p2 : Nat → Nat → Int32} {l1 t1 l2 t2 : Nat → Int32} {i : Nat} {g : Nat → Int32}
theorem wTT_1 (hi : i < 6) : (wT a1 cy n1 b1 k1 p1 l1 t1 ++ wT a2 cy n2 b2 k2 p2 l2 t2)[9 + i]? = some (a1 (9 + i), .inl (cy 0, 6, .inl (p1 i))) := lt6 (P := fun i => (wT a1 cy n1 b1 k1 p1 l1 t1 ++ wT a2 cy n2 b2 k2 p2 l2 t2)[9 + i]? = some (a1 (9 + i), .inl (cy 0, 6, .inl (p1 i)))) rfl rfl rfl rfl rfl rfl hi
theorem wTT_2 (hi : i < 6) : (wT a1 cy n1 b1 k1 p1 l1 t1 ++ wT a2 cy n2 b2 k2 p2 l2 t2)[24 + i]? = some (a2 (9 + i), .inl (cy 0, 6, .inl (p2 i))) := lt6 (P := fun i => (wT a1 cy n1 b1 k1 p1 l1 t1 ++ wT a2 cy n2 b2 k2 p2 l2 t2)[24 + i]? = some (a2 (9 + i), .inl (cy 0, 6, .inl (p2 i)))) rfl rfl rfl rfl rfl rfl hi
theorem wTT_s (hi : i < 6) : (wT a1 cy n1 b1 k1 p1 l1 t1 ++ wT a2 cy n2 b2 k2 p2 l2 t2).set (24 + i) (a2 (9 + i), .inl (cy 0, 6, .inl g)) = wT a1 cy n1 b1 k1 p1 l1 t1 ++ wT a2 cy n2 b2 k2 (updR p2 i g) l2 t2 := lt6 (P := fun i => (wT a1 cy n1 b1 k1 p1 l1 t1 ++ wT a2 cy n2 b2 k2 p2 l2 t2).set (24 + i) (a2 (9 + i), .inl (cy 0, 6, .inl g)) = wT a1 cy n1 b1 k1 p1 l1 t1 ++ wT a2 cy n2 b2 k2 (updR p2 i g) l2 t2) rfl rfl rfl rfl rfl rfl hi
end WTT
end
section
set_option maxHeartbeats 4000000 in
set_option maxRecDepth 20000 in
theorem c_X5_payTillLighterOfNone {l : Launch} {D : va_G} {cy : Nat → ClassId} (a : Nat → Nat) (N B : Nat) (kf : Nat → Int32) (pf : Nat → Nat → Int32) (lf tf : Nat → Int32) (k : Nat → Nat) (p : Nat → Nat → Nat) (hT : Ag N k p kf pf) (q : Nat) (hq : q < N) : Ct l yX5_payTillLighterOfNone wsX5_payTillLighterOfNone ({ frames := 3, cells := 0, slots := 0, locals := 69 }) D cy [.ref (a 0), .int (nI q)] (wT a cy (nI N) (nI B) kf pf lf tf) (fun _ : (Nat → Nat → Int32) => True) (fun _ => some (.int (nI (fre N k p q N)))) (fun u => wT a cy (nI N) (nI B) kf u lf tf) := by
  refine Ct.of (cc := cX5_payTillLighterOfNone) (nL := 5) (ret := (some .int)) rfl (by decide) ⟨rfl, rfl⟩ (Nat.le_of_ble_eq_true rfl) ?_
  intro X C E
  have C : Cx X l D cy cX5_payTillLighterOfNone 5 wsX5_payTillLighterOfNone RX5 ({ frames := 3, cells := 0, slots := 0, locals := 69 }) := C
  have m0 : ∀ w ∈ u_ws RX5 TX5 7, w ∈ wsX5_payTillLighterOfNone := by decide +kernel
  have m1 : Cond.fieldLink RX5 40 RX5 (TX5 5).2.1 (TX5 5).2.2.1 ∈ wsX5_payTillLighterOfNone := by decide +kernel
  have m2 : Cond.fieldLink RX5 30 RX5 (TX5 2).2.1 (TX5 2).2.2.1 ∈ wsX5_payTillLighterOfNone := by decide +kernel
  have hN := hT.n
  show J X (wT a cy (nI N) (nI B) kf pf lf tf) 0 [(0, .ref (a 0)), (1, .int (nI q))] []
  refine j_iconst (v := nI 0) C dX5_payTillLighterOfNone_0 (by decide) ?_
  refine j_istore_n (lv' := [(2, .int (nI 0)), (0, .ref (a 0)), (1, .int (nI q))]) C dX5_payTillLighterOfNone_1 rfl (by decide) rfl ?_
  refine j_iconst (v := nI 0) C dX5_payTillLighterOfNone_2 (by decide) ?_
  refine j_istore_n (lv' := [(3, .int (nI 0)), (2, .int (nI 0)), (0, .ref (a 0)), (1, .int (nI q))]) C dX5_payTillLighterOfNone_3 rfl (by decide) rfl ?_
  refine J.sub [2, 3, 1, 0] rfl ?_
  have L4 : ∀ (n : Nat) (b d : Nat) (pf1 : Nat → Nat → Int32) (p1 : Nat → Nat → Nat), N - b < n → b ≤ N → Ag N k p1 kf pf1 → (∀ a c, b ≤ c → p1 a c = p a c) → d = fre N k p q b → J X (wT a cy (nI N) (nI B) kf pf1 lf tf) 4 [(0, .ref (a 0)), (1, .int (nI q)), (2, .int (nI d)), (3, .int (nI b))] [] := by
    intro n
    induction n with
    | zero => intro b d pf1 p1 hm; exact absurd hm (Nat.not_lt_zero _)
    | succ n ih4 =>
      intro b d pf1 p1 h4_0 h4_1 h4_2 h4_3 h4_4
      refine j_iload_n C 3 dX5_payTillLighterOfNone_4 rfl rfl ?_
      refine j_aload_n C 0 dX5_payTillLighterOfNone_5 rfl rfl ?_
      refine j_get C m0 5 m1 0 rfl rfl (by decide) rfl rfl dX5_payTillLighterOfNone_6 ?_
      refine j_icmp_geN (tgt := 64) C dX5_payTillLighterOfNone_9 (by decide) (by omega) (by omega) (fun c9 => ?_) (fun c9 => ?_)
      · refine j_iload_n C 2 dX5_payTillLighterOfNone_64 rfl rfl ?_
        exact j_iret C E dX5_payTillLighterOfNone_65 pf1 trivial (by rw [h4_4, show b = N by omega]) rfl
      · refine j_aload_n C 0 dX5_payTillLighterOfNone_12 rfl rfl ?_
        refine j_get C m0 2 m2 0 rfl rfl (by decide) rfl rfl dX5_payTillLighterOfNone_13 ?_
        refine j_iload_n C 1 dX5_payTillLighterOfNone_16 rfl rfl ?_
        refine j_gald (b := a (9 + q)) C 3 rfl (by omega) (by decide) (wT_out (by omega)) dX5_payTillLighterOfNone_17 ?_
        refine j_iload_n C 3 dX5_payTillLighterOfNone_18 rfl rfl ?_
        have := h4_2.p9 (a := q) (b := b) (by omega) (by omega)
        refine j_iald (v := nI (p1 q b)) C (9 + q) (wT_row (by omega)) (by omega) (by decide) (h4_2.pp (by omega) (by omega)) dX5_payTillLighterOfNone_19 ?_
        refine j_istore (lv' := [(4, .int (nI (p1 q b))), (0, .ref (a 0)), (1, .int (nI q)), (2, .int (nI d)), (3, .int (nI b))]) C dX5_payTillLighterOfNone_20 (by decide) rfl ?_
        refine J.sub [1, 2, 3, 4, 0] rfl ?_
        have L22 : ∀ (n : Nat) (v w : Nat) (pf2 : Nat → Nat → Int32) (p2 : Nat → Nat → Nat), v < n → Ag N k p2 kf pf2 → p2 q b = v → (∀ a, a ≠ q → p2 a b = p a b) → (∀ a c, b < c → p2 a c = p a c) → w + payv N k p q b v = fre N k p q (b + 1) → J X (wT a cy (nI N) (nI B) kf pf2 lf tf) 22 [(0, .ref (a 0)), (1, .int (nI q)), (2, .int (nI w)), (3, .int (nI b)), (4, .int (nI v))] [] := by
          intro n
          induction n with
          | zero => intro v w pf2 p2 hm; exact absurd hm (Nat.not_lt_zero _)
          | succ n ih22 =>
            intro v w pf2 p2 h22_0 h22_1 h22_2 h22_3 h22_4 h22_5
            have hv9 := h22_1.p9 (a := q) (b := b) (by omega) (by omega)
            rw [h22_2] at hv9
            refine j_iload C 4 dX5_payTillLighterOfNone_22 rfl ?_
            refine j_if_leN (tgt := 58) C dX5_payTillLighterOfNone_24 (by decide) (by omega) (fun c24 => ?_) (fun c24 => ?_)
            · refine j_iinc (v := nI (b + 1)) (lv' := [(3, .int (nI (b + 1))), (0, .ref (a 0)), (1, .int (nI q)), (2, .int (nI w)), (4, .int (nI v))]) C 3 dX5_payTillLighterOfNone_58 rfl (nI_inc b) (by decide) rfl ?_
              refine j_goto (tgt := 4) C dX5_payTillLighterOfNone_61 (by decide) ?_
              refine J.sub [1, 2, 3, 0] rfl ?_
              have e := ih4 (b + 1) w pf2 p2 (by omega) (by omega) h22_1 (fun a c hc => h22_4 a c (by omega)) (by first | (rw [show v = 0 by omega] at h22_5; exact h22_5) | (rw [payv_n (fun z => c34 (by rw [colP h22_2 h22_3, z]; rfl))] at h22_5; exact h22_5))
              exact e
            · refine j_aload_n C 0 dX5_payTillLighterOfNone_27 rfl rfl ?_
              refine j_iload_n C 3 dX5_payTillLighterOfNone_28 rfl rfl ?_
              refine j_iconst (v := nI 0) C dX5_payTillLighterOfNone_29 (by decide) ?_
              refine j_callV0 (As := [.int (nI b), .int (nI 0)]) (rest := []) C (c_X5_lighter0 a N B kf pf2 lf tf k p2 h22_1 b (by omega)) gX5_payTillLighterOfNone_X5_lighterAmong rfl 2 rfl (by decide +kernel) (by decide) 0 rfl rfl (Nat.le_of_ble_eq_true rfl) dX5_payTillLighterOfNone_30 rfl (fun _ _ => ?_)
              show J X (wT a cy (nI N) (nI B) kf pf2 lf tf) 33 [(0, .ref (a 0)), (1, .int (nI q)), (2, .int (nI w)), (3, .int (nI b)), (4, .int (nI v))] [.int (lI (lg N k p2 b))]
              refine j_iload_n C 1 dX5_payTillLighterOfNone_33 rfl rfl ?_
              refine j_icmp_ne (tgt := 58) C dX5_payTillLighterOfNone_34 (by decide) (fun c34 => ?_) (fun c34 => ?_)
              · refine j_iinc (v := nI (b + 1)) (lv' := [(3, .int (nI (b + 1))), (0, .ref (a 0)), (1, .int (nI q)), (2, .int (nI w)), (4, .int (nI v))]) C 3 dX5_payTillLighterOfNone_58 rfl (nI_inc b) (by decide) rfl ?_
                refine j_goto (tgt := 4) C dX5_payTillLighterOfNone_61 (by decide) ?_
                refine J.sub [1, 2, 3, 0] rfl ?_
                have e := ih4 (b + 1) w pf2 p2 (by omega) (by omega) h22_1 (fun a c hc => h22_4 a c (by omega)) (by first | (rw [show v = 0 by omega] at h22_5; exact h22_5) | (rw [payv_n (fun z => c34 (by rw [colP h22_2 h22_3, z]; rfl))] at h22_5; exact h22_5))
                exact e
              · have hlq := (lI_eq (lg_31 hN) (by omega)).mp c34
                have hqb := h22_1.ne (by omega) hlq
                have hcol := colP (N := N) (k := k) h22_2 h22_3
                rw [hcol] at hlq
                refine j_aload_n C 0 dX5_payTillLighterOfNone_37 rfl rfl ?_
                refine j_get C m0 2 m2 0 rfl rfl (by decide) rfl rfl dX5_payTillLighterOfNone_38 ?_
                refine j_iload_n C 1 dX5_payTillLighterOfNone_41 rfl rfl ?_
                refine j_gald (b := a (9 + q)) C 3 rfl (by omega) (by decide) (wT_out (by omega)) dX5_payTillLighterOfNone_42 ?_
                refine j_iload_n C 3 dX5_payTillLighterOfNone_43 rfl rfl ?_
                refine j_iload C 4 dX5_payTillLighterOfNone_44 rfl ?_
                refine j_iconst (v := nI 1) C dX5_payTillLighterOfNone_46 (by decide) ?_
                refine j_isub (v := nI (v - 1)) C dX5_payTillLighterOfNone_47 (pk_sub (by omega)) ?_
                refine j_iast (ws' := wT a cy (nI N) (nI B) kf (updR pf2 q (upd (pf2 q) b (nI (v - 1)))) lf tf) C (9 + q) (wT_row (by omega)) (by omega) (by decide) (wT_set (by omega)) dX5_payTillLighterOfNone_48 ?_
                refine j_iinc (v := nI (w + 1)) (lv' := [(2, .int (nI (w + 1))), (0, .ref (a 0)), (1, .int (nI q)), (3, .int (nI b)), (4, .int (nI v))]) C 2 dX5_payTillLighterOfNone_49 rfl (nI_inc w) (by decide) rfl ?_
                refine j_iinc (v := nI (v - 1)) (lv' := [(4, .int (nI (v - 1))), (2, .int (nI (w + 1))), (0, .ref (a 0)), (1, .int (nI q)), (3, .int (nI b))]) C 4 dX5_payTillLighterOfNone_52 rfl (nI_dec (by omega)) (by decide) rfl ?_
                refine j_goto (tgt := 22) C dX5_payTillLighterOfNone_55 (by decide) ?_
                refine J.sub [2, 3, 1, 4, 0] rfl ?_
                have e := ih22 (v - 1) (w + 1) (updR pf2 q (upd (pf2 q) b (nI (v - 1)))) (setp p2 q b (v - 1)) (by omega) (h22_1.setp (by omega) hqb (by omega)) setp_s (fun a ha => (setp_n (fun z => ha z.1)).trans (h22_3 a ha)) (fun a c hc => (setp_n (fun z => by omega)).trans (h22_4 a c hc)) (by have z := payv_y c24 hlq; omega)
                exact e
        have e := L22 (p1 q b + 1) (p1 q b) d pf1 p1 (Nat.lt_succ_self _) h4_2 rfl (fun a _ => h4_3 a b (Nat.le_refl _)) (fun a c hc => h4_3 a c (by omega)) (by rw [h4_4, h4_3 q b (Nat.le_refl _)]; rfl)
        exact e
  have e := L4 (N + 1) 0 0 pf p (by omega) (by omega) hT (fun _ _ _ => rfl) rfl
  exact e
set_option maxHeartbeats 4000000 in
set_option maxRecDepth 20000 in
theorem c_X5_becomeLike {l : Launch} {D : va_G} {cy : Nat → ClassId} (a1 a2 : Nat → Nat) (n1 b1 n2 b2 : Int32) (k1 k2 : Nat → Int32) (p1 p2 : Nat → Nat → Int32) (l1 t1 l2 t2 : Nat → Int32)  : Ct l yX5_becomeLike wsX5_becomeLike ({ frames := 0, cells := 0, slots := 0, locals := 0 }) D cy [.ref (a2 0), .ref (a1 0)] (wT a1 cy n1 b1 k1 p1 l1 t1 ++ wT a2 cy n2 b2 k2 p2 l2 t2) (fun _ : Unit => True) (fun _ => none) (fun _ => wT a1 cy n1 b1 k1 p1 l1 t1 ++ wT a2 cy n1 b1 (fil k1 k2 6) (filR p1 p2 6) l2 t2) := by
  refine Ct.of (cc := cX5_becomeLike) (nL := 4) (ret := none) rfl (by decide) ⟨rfl, rfl⟩ (Nat.le_of_ble_eq_true rfl) ?_
  intro X C E
  have C : Cx X l D cy cX5_becomeLike 4 wsX5_becomeLike RX5 ({ frames := 0, cells := 0, slots := 0, locals := 0 }) := C
  have m0 : ∀ w ∈ u_ws RX5 TX5 7, w ∈ wsX5_becomeLike := by decide +kernel
  have m1 : Cond.fieldLink RX5 40 RX5 (TX5 5).2.1 (TX5 5).2.2.1 ∈ wsX5_becomeLike := by decide +kernel
  have m2 : Cond.fieldLink RX5 44 RX5 (TX5 6).2.1 (TX5 6).2.2.1 ∈ wsX5_becomeLike := by decide +kernel
  have m3 : Cond.fieldLink RX5 24 RX5 (TX5 1).2.1 (TX5 1).2.2.1 ∈ wsX5_becomeLike := by decide +kernel
  have m4 : Cond.fieldLink RX5 30 RX5 (TX5 2).2.1 (TX5 2).2.2.1 ∈ wsX5_becomeLike := by decide +kernel
  show J X (wT a1 cy n1 b1 k1 p1 l1 t1 ++ wT a2 cy n2 b2 k2 p2 l2 t2) 0 [(0, .ref (a2 0)), (1, .ref (a1 0))] []
  refine j_aload_n C 0 dX5_becomeLike_0 rfl rfl ?_
  refine j_aload_n C 1 dX5_becomeLike_1 rfl rfl ?_
  refine j_get C m0 5 m1 0 rfl rfl (by decide) rfl rfl dX5_becomeLike_2 ?_
  refine j_put (ws' := wT a1 cy n1 b1 k1 p1 l1 t1 ++ wT a2 cy n1 b2 k2 p2 l2 t2) C m0 5 m1 tyX5 tyX5_ok nmX5 15 rfl rfl (by decide) rfl rfl (by decide +kernel) (Nat.le_of_ble_eq_true rfl) rfl dX5_becomeLike_5 ?_
  refine j_aload_n C 0 dX5_becomeLike_8 rfl rfl ?_
  refine j_aload_n C 1 dX5_becomeLike_9 rfl rfl ?_
  refine j_get C m0 6 m2 0 rfl rfl (by decide) rfl rfl dX5_becomeLike_10 ?_
  refine j_put (ws' := wT a1 cy n1 b1 k1 p1 l1 t1 ++ wT a2 cy n1 b1 k2 p2 l2 t2) C m0 6 m2 tyX5 tyX5_ok nmX5 15 rfl rfl (by decide) rfl rfl (by decide +kernel) (Nat.le_of_ble_eq_true rfl) rfl dX5_becomeLike_13 ?_
  refine j_iconst (v := nI 0) C dX5_becomeLike_16 (by decide) ?_
  refine j_istore_n (lv' := [(2, .int (nI 0)), (0, .ref (a2 0)), (1, .ref (a1 0))]) C dX5_becomeLike_17 rfl (by decide) rfl ?_
  refine J.sub [1, 2, 0] rfl ?_
  have L18 : ∀ (n : Nat) (i : Nat), 6 - i < n → i ≤ 6 → J X (wT a1 cy n1 b1 k1 p1 l1 t1 ++ wT a2 cy n1 b1 (fil k1 k2 i) (filR p1 p2 i) l2 t2) 18 [(0, .ref (a2 0)), (1, .ref (a1 0)), (2, .int (nI i))] [] := by
    intro n
    induction n with
    | zero => intro i hm; exact absurd hm (Nat.not_lt_zero _)
    | succ n ih18 =>
      intro i h18_0 h18_1
      refine j_iload_n C 2 dX5_becomeLike_18 rfl rfl ?_
      refine j_bipush (v := nI 6) C dX5_becomeLike_19 (by decide) ?_
      refine j_icmp_geN (tgt := 72) C dX5_becomeLike_21 (by decide) (by omega) (by omega) (fun c21 => ?_) (fun c21 => ?_)
      · exact j_vret C E dX5_becomeLike_72 () trivial rfl (by rw [show i = 6 by omega])
      · refine j_aload_n C 0 dX5_becomeLike_24 rfl rfl ?_
        refine j_get C m0 1 m3 15 rfl rfl (by decide) rfl rfl dX5_becomeLike_25 ?_
        refine j_iload_n C 2 dX5_becomeLike_28 rfl rfl ?_
        refine j_aload_n C 1 dX5_becomeLike_29 rfl rfl ?_
        refine j_get C m0 1 m3 0 rfl rfl (by decide) rfl rfl dX5_becomeLike_30 ?_
        refine j_iload_n C 2 dX5_becomeLike_33 rfl rfl ?_
        refine j_iald (v := k1 i) C 2 rfl (by omega) (by decide) rfl dX5_becomeLike_34 ?_
        refine j_iast (ws' := wT a1 cy n1 b1 k1 p1 l1 t1 ++ wT a2 cy n1 b1 (upd (fil k1 k2 i) i (k1 i)) (filR p1 p2 i) l2 t2) C 17 rfl (by omega) (by decide) rfl dX5_becomeLike_35 ?_
        refine j_iconst (v := nI 0) C dX5_becomeLike_36 (by decide) ?_
        refine j_istore_n (lv' := [(3, .int (nI 0)), (0, .ref (a2 0)), (1, .ref (a1 0)), (2, .int (nI i))]) C dX5_becomeLike_37 rfl (by decide) rfl ?_
        refine J.sub [1, 2, 3, 0] rfl ?_
        have L38 : ∀ (n : Nat) (j : Nat), 6 - j < n → j ≤ 6 → J X (wT a1 cy n1 b1 k1 p1 l1 t1 ++ wT a2 cy n1 b1 (fil k1 k2 (i + 1)) (updR (filR p1 p2 i) i (fil (p1 i) (p2 i) j)) l2 t2) 38 [(0, .ref (a2 0)), (1, .ref (a1 0)), (2, .int (nI i)), (3, .int (nI j))] [] := by
          intro n
          induction n with
          | zero => intro j hm; exact absurd hm (Nat.not_lt_zero _)
          | succ n ih38 =>
            intro j h38_0 h38_1
            refine j_iload_n C 3 dX5_becomeLike_38 rfl rfl ?_
            refine j_bipush (v := nI 6) C dX5_becomeLike_39 (by decide) ?_
            refine j_icmp_geN (tgt := 66) C dX5_becomeLike_41 (by decide) (by omega) (by omega) (fun c41 => ?_) (fun c41 => ?_)
            · refine j_iinc (v := nI (i + 1)) (lv' := [(2, .int (nI (i + 1))), (0, .ref (a2 0)), (1, .ref (a1 0)), (3, .int (nI j))]) C 2 dX5_becomeLike_66 rfl (nI_inc i) (by decide) rfl ?_
              refine j_goto (tgt := 18) C dX5_becomeLike_69 (by decide) ?_
              refine J.sub [1, 2, 0] rfl ?_
              have e := ih18 (i + 1) (by omega) (by omega)
              rw [show j = 6 by omega, filR_s]
              exact e
            · refine j_aload_n C 0 dX5_becomeLike_44 rfl rfl ?_
              refine j_get C m0 2 m4 15 rfl rfl (by decide) rfl rfl dX5_becomeLike_45 ?_
              refine j_iload_n C 2 dX5_becomeLike_48 rfl rfl ?_
              refine j_gald (b := a2 (9 + i)) C 18 rfl (by omega) (by decide) (wT_out (by omega)) dX5_becomeLike_49 ?_
              refine j_iload_n C 3 dX5_becomeLike_50 rfl rfl ?_
              refine j_aload_n C 1 dX5_becomeLike_51 rfl rfl ?_
              refine j_get C m0 2 m4 0 rfl rfl (by decide) rfl rfl dX5_becomeLike_52 ?_
              refine j_iload_n C 2 dX5_becomeLike_55 rfl rfl ?_
              refine j_gald (b := a1 (9 + i)) C 3 rfl (by omega) (by decide) (wT_out (by omega)) dX5_becomeLike_56 ?_
              refine j_iload_n C 3 dX5_becomeLike_57 rfl rfl ?_
              refine j_iald (v := p1 i j) C (9 + i) (wTT_1 (by omega)) (by omega) (by decide) rfl dX5_becomeLike_58 ?_
              refine j_iast (ws' := wT a1 cy n1 b1 k1 p1 l1 t1 ++ wT a2 cy n1 b1 (fil k1 k2 (i + 1)) (updR (updR (filR p1 p2 i) i (fil (p1 i) (p2 i) j)) i (upd ((updR (filR p1 p2 i) i (fil (p1 i) (p2 i) j)) i) j (p1 i j))) l2 t2) C (24 + i) (wTT_2 (by omega)) (by omega) (by decide) (wTT_s (by omega)) dX5_becomeLike_59 ?_
              refine j_iinc (v := nI (j + 1)) (lv' := [(3, .int (nI (j + 1))), (0, .ref (a2 0)), (1, .ref (a1 0)), (2, .int (nI i))]) C 3 dX5_becomeLike_60 rfl (nI_inc j) (by decide) rfl ?_
              refine j_goto (tgt := 38) C dX5_becomeLike_63 (by decide) ?_
              refine J.sub [1, 2, 3, 0] rfl ?_
              have e := ih38 (j + 1) (by omega) (by omega)
              rw [← fil_s (p1 i) (p2 i) j] at e
              rw [updR_u]
              exact e
        have e := L38 7 0 (by omega) (by omega)
        rw [← filR_e] at e
        rw [fil_s]
        exact e
  have e := L18 7 0 (by omega) (by omega)
  rw [fil_0, filR_0] at e
  exact e
end
section
def bN (P : Prop) [Decidable P] : Nat := if P then 1 else 0
theorem bN_y {P : Prop} [Decidable P] (h : P) : bN P = 1 := if_pos h
theorem bN_n {P : Prop} [Decidable P] (h : ¬ P) : bN P = 0 := if_neg h
theorem bN_lt (P : Prop) [Decidable P] : bN P < 2 ^ 31 := by unfold bN; split <;> decide
theorem bN_0 {P : Prop} [Decidable P] : bN P = 0 ↔ ¬ P := by
  unfold bN
  split
  · next h => exact ⟨fun e => by omega, fun e => absurd h e⟩
  · next h => exact ⟨fun _ => h, fun _ => rfl⟩
theorem bN_1 {P : Prop} [Decidable P] : bN P ≠ 0 ↔ P := by
  unfold bN
  split
  · next h => exact ⟨fun _ => h, fun _ => by omega⟩
  · next h => exact ⟨fun e => absurd rfl e, fun e => absurd e h⟩
theorem ret_y {P : Prop} [Decidable P] (h : P) : (some (Value.int (nI (bN P))) : Option Value) = some (.int (nI 1)) := by rw [bN_y h]
theorem ret_n {P : Prop} [Decidable P] (h : ¬ P) : (some (Value.int (nI (bN P))) : Option Value) = some (.int (nI 0)) := by rw [bN_n h]
/-! sheets -/
def wS (h c : Nat) (cy : Nat → ClassId) (ln la : Int32) (cf : Nat → Int32) : va_W := [(h, .inr (4, [.ref c, .int ln, .int la])), (c, .inl (cy 0, 60, .inl cf))]
def cut (lane : Int32) (v : Int32) : Int32 := if lane = 0 then v.toInt8.toInt32 else if lane = nI 1 then v.toInt16.toInt32 else v
/-! the trail, bodies -/
def wTr (t : Nat) (v : Int32) : va_W := [(t, .inr (6, [.int v]))]
def tr (v : Int32) (m : Nat) : Int32 := nI 31 * v + nI m
/-! readings -/
def wR (h d e g : Nat) (cy : Nat → ClassId) (ct : Int32) (df mf gf : Nat → Int32) : va_W := [(h, .inr (2, [.ref d, .ref e, .ref g, .int ct])), (d, .inl (cy 0, 8, .inl df)), (e, .inl (cy 0, 8, .inl mf)), (g, .inl (cy 0, 8, .inl gf))]
/-- c readings: behind rd j dusks the lamp rl j has the lighter ra j -/
def Rg (N c : Nat) (rd rl : Nat → Nat) (ra : Nat → Option Nat) (df mf gf : Nat → Int32) : Prop := c ≤ 8 ∧ ∀ j, j < c → (df j = nI (rd j) ∧ rd j ≤ 10) ∧ (mf j = nI (rl j) ∧ rl j < N) ∧ gf j = lI (ra j) ∧ ∀ a, ra j = some a → a < N
def allB (P : Nat → Bool) : Nat → Bool
  | 0 => true
  | n + 1 => allB P n && P n
theorem allB_i {P : Nat → Bool} : ∀ {n : Nat}, allB P n = true ↔ ∀ i, i < n → P i = true
  | 0 => ⟨fun _ i h => absurd h (Nat.not_lt_zero i), fun _ => rfl⟩
  | n + 1 => by
    show (allB P n && P n) = true ↔ _
    rw [Bool.and_eq_true, allB_i]
    refine ⟨fun h i hi => ?_, fun h => ⟨fun i hi => h i (by omega), h n (by omega)⟩⟩
    rcases Nat.lt_or_ge i n with q | q
    · exact h.1 i q
    · rw [show i = n by omega]; exact h.2
theorem allB_f {P : Nat → Bool} {n i : Nat} (hi : i < n) (h : P i = false) : allB P n = false := by
  cases e : allB P n with
  | false => rfl
  | true => rw [allB_i.mp e i hi] at h; cases h
/-- what the readings say of dusk t, of the pence p then -/
def soP (N t : Nat) (k : Nat → Nat) (p : Nat → Nat → Nat) (rd rl : Nat → Nat) (ra : Nat → Option Nat) : Nat → Bool := fun j => decide (rd j = t → lg N k p (rl j) = ra j)
def so1 (N t c : Nat) (k : Nat → Nat) (p : Nat → Nat → Nat) (rd rl : Nat → Nat) (ra : Nat → Option Nat) : Bool := allB (soP N t k p rd rl ra) c
def soT (N B c : Nat) (k : Nat → Nat) (p : Nat → Nat → Nat) (rd rl : Nat → Nat) (ra : Nat → Option Nat) : Nat → Bool := allB (fun t => so1 N t c k (dks N B k t p) rd rl ra)
/-- one more than the latest dusk -/
def lst (rd : Nat → Nat) : Nat → Nat
  | 0 => 0
  | c + 1 => max (lst rd c) (rd c + 1)
theorem lst_le {rd : Nat → Nat} : ∀ {c : Nat}, (∀ j, j < c → rd j ≤ 10) → lst rd c ≤ 11
  | 0, _ => Nat.zero_le _
  | c + 1, h => Nat.max_le.mpr ⟨lst_le (fun j hj => h j (by omega)), by have := h c (by omega); omega⟩
theorem lst_ge {rd : Nat → Nat} : ∀ {c j : Nat}, j < c → rd j < lst rd c
  | 0, j, h => absurd h (Nat.not_lt_zero j)
  | c + 1, j, h => by
    show _ < max (lst rd c) (rd c + 1)
    rcases Nat.lt_or_ge j c with q | q
    · exact Nat.lt_of_lt_of_le (lst_ge q) (Nat.le_max_left _ _)
    · rw [show j = c by omega]; exact Nat.lt_of_lt_of_le (Nat.lt_succ_self _) (Nat.le_max_right _ _)
theorem soT_11 {N B c : Nat} {k : Nat → Nat} {p : Nat → Nat → Nat} {rd rl : Nat → Nat} {ra : Nat → Option Nat} (h : ∀ j, j < c → rd j ≤ 10) : soT N B c k p rd rl ra (lst rd c) = soT N B c k p rd rl ra 11 := by
  have e : soT N B c k p rd rl ra (lst rd c) = true ↔ soT N B c k p rd rl ra 11 = true := by
    unfold soT
    rw [allB_i, allB_i]
    refine ⟨fun q t ht => ?_, fun q t ht => q t (Nat.lt_of_lt_of_le ht (lst_le h))⟩
    rcases Nat.lt_or_ge t (lst rd c) with z | z
    · exact q t z
    · refine allB_i.mpr (fun j hj => decide_eq_true (fun w => ?_))
      have := lst_ge (rd := rd) hj
      omega
  cases e1 : soT N B c k p rd rl ra (lst rd c) with
  | true => exact (e.mp e1).symm
  | false =>
    cases e2 : soT N B c k p rd rl ra 11 with
    | false => rfl
    | true => rw [e.mpr e2] at e1; cases e1
theorem ml_0 : (-1 : Int32) = nI 0 - nI 1 := by decide
theorem ml_s {m t : Nat} (hm : m ≤ 11) (ht : t ≤ 10) : (if nI m - nI 1 < nI t then nI t else nI m - nI 1) = nI (max m (t + 1)) - nI 1 := by
  rcases Nat.eq_zero_or_pos m with e | e
  · subst e
    have h : nI 0 - nI 1 < nI t := by
      have h1 : (nI 0 - nI 1).toInt = -1 := by decide
      rw [Int32.lt_iff_toInt_lt, h1, nI_toInt (by omega)]
      omega
    rw [if_pos h, Nat.max_eq_right (Nat.zero_le _), pk_sub (by omega)]
    rfl
  · rw [pk_sub e, mx_n (by omega) (by omega), pk_sub (Nat.le_trans e (Nat.le_max_left _ _))]
    congr 1
    rcases Nat.lt_or_ge (m - 1) t with q | q
    · rw [Nat.max_eq_right (by omega), Nat.max_eq_right (by omega)]; omega
    · rw [Nat.max_eq_left (by omega), Nat.max_eq_left (by omega)]
end
section
set_option maxHeartbeats 4000000 in
set_option maxRecDepth 20000 in
theorem c_X4_hasNothing {l : Launch} {D : va_G} {cy : Nat → ClassId} (h c : Nat) (ln la : Int32) (cf : Nat → Int32)  : Ct l yX4_hasNothing wsX4_hasNothing ({ frames := 0, cells := 0, slots := 0, locals := 0 }) D cy [.ref h] (wS h c cy ln la cf) (fun _ : Unit => True) (fun _ => some (.int (nI (bN (ln = -1))))) (fun _ => wS h c cy ln la cf) := by
  refine Ct.of (cc := cX4_hasNothing) (nL := 1) (ret := (some .boolean)) rfl (by decide) ⟨rfl, rfl⟩ (Nat.le_of_ble_eq_true rfl) ?_
  intro X C E
  have C : Cx X l D cy cX4_hasNothing 1 wsX4_hasNothing RX4 ({ frames := 0, cells := 0, slots := 0, locals := 0 }) := C
  have m0 : ∀ w ∈ u_ws RX4 TX4 3, w ∈ wsX4_hasNothing := by decide +kernel
  have m1 : Cond.fieldLink RX4 15 RX4 (TX4 1).2.1 (TX4 1).2.2.1 ∈ wsX4_hasNothing := by decide +kernel
  show J X (wS h c cy ln la cf) 0 [(0, .ref h)] []
  refine j_aload_n C 0 dX4_hasNothing_0 rfl rfl ?_
  refine j_get C m0 1 m1 0 rfl rfl (by decide) rfl rfl dX4_hasNothing_1 ?_
  refine j_iconst (v := (-1)) C dX4_hasNothing_4 (by decide) ?_
  refine j_icmp_ne (tgt := 12) C dX4_hasNothing_5 (by decide) (fun c5 => ?_) (fun c5 => ?_)
  · refine j_iconst (v := nI 0) C dX4_hasNothing_12 (by decide) ?_
    exact j_zret C E dX4_hasNothing_13 rfl () trivial (by first | exact ret_y c5 | exact ret_n c5) rfl
  · refine j_iconst (v := nI 1) C dX4_hasNothing_8 (by decide) ?_
    refine j_goto (tgt := 13) C dX4_hasNothing_9 (by decide) ?_
    exact j_zret C E dX4_hasNothing_13 rfl () trivial (by first | exact ret_y c5 | exact ret_n c5) rfl
set_option maxHeartbeats 4000000 in
set_option maxRecDepth 20000 in
theorem c_X4_loseRow {l : Launch} {D : va_G} {cy : Nat → ClassId} (h c : Nat) (ln la : Int32) (cf : Nat → Int32)  : Ct l yX4_loseRow wsX4_loseRow ({ frames := 0, cells := 0, slots := 0, locals := 0 }) D cy [.ref h] (wS h c cy ln la cf) (fun _ : Unit => True) (fun _ => none) (fun _ => wS h c cy (-1) la cf) := by
  refine Ct.of (cc := cX4_loseRow) (nL := 1) (ret := none) rfl (by decide) ⟨rfl, rfl⟩ (Nat.le_of_ble_eq_true rfl) ?_
  intro X C E
  have C : Cx X l D cy cX4_loseRow 1 wsX4_loseRow RX4 ({ frames := 0, cells := 0, slots := 0, locals := 0 }) := C
  have m0 : ∀ w ∈ u_ws RX4 TX4 3, w ∈ wsX4_loseRow := by decide +kernel
  have m1 : Cond.fieldLink RX4 15 RX4 (TX4 1).2.1 (TX4 1).2.2.1 ∈ wsX4_loseRow := by decide +kernel
  show J X (wS h c cy ln la cf) 0 [(0, .ref h)] []
  refine j_aload_n C 0 dX4_loseRow_0 rfl rfl ?_
  refine j_iconst (v := (-1)) C dX4_loseRow_1 (by decide) ?_
  refine j_put (ws' := wS h c cy ((-1)) la cf) C m0 1 m1 tyX4 tyX4_ok nmX4 0 rfl rfl (by decide) rfl rfl (by decide +kernel) (Nat.le_of_ble_eq_true rfl) rfl dX4_loseRow_2 ?_
  exact j_vret C E dX4_loseRow_5 () trivial rfl rfl
set_option maxHeartbeats 4000000 in
set_option maxRecDepth 20000 in
theorem c_X4_isOfLane {l : Launch} {D : va_G} {cy : Nat → ClassId} (h c : Nat) (ln la : Int32) (cf : Nat → Int32) (w : Int32)  : Ct l yX4_isOfLane wsX4_isOfLane ({ frames := 1, cells := 0, slots := 0, locals := 20 }) D cy [.ref h, .int w] (wS h c cy ln la cf) (fun _ : Unit => True) (fun _ => some (.int (nI (bN (ln = -1 ∨ la = w))))) (fun _ => wS h c cy ln la cf) := by
  refine Ct.of (cc := cX4_isOfLane) (nL := 2) (ret := (some .boolean)) rfl (by decide) ⟨rfl, rfl⟩ (Nat.le_of_ble_eq_true rfl) ?_
  intro X C E
  have C : Cx X l D cy cX4_isOfLane 2 wsX4_isOfLane RX4 ({ frames := 1, cells := 0, slots := 0, locals := 20 }) := C
  have m0 : ∀ w ∈ u_ws RX4 TX4 3, w ∈ wsX4_isOfLane := by decide +kernel
  have m1 : Cond.fieldLink RX4 19 RX4 (TX4 2).2.1 (TX4 2).2.2.1 ∈ wsX4_isOfLane := by decide +kernel
  show J X (wS h c cy ln la cf) 0 [(0, .ref h), (1, .int w)] []
  refine j_aload_n C 0 dX4_isOfLane_0 rfl rfl ?_
  refine j_callV0 (As := []) (rest := []) C (c_X4_hasNothing h c ln la cf) gX4_isOfLane_X4_hasNothing rfl 0 rfl (by decide +kernel) (by decide) 0 rfl rfl (Nat.le_of_ble_eq_true rfl) dX4_isOfLane_1 rfl (fun _ _ => ?_)
  show J X (wS h c cy ln la cf) 4 [(0, .ref h), (1, .int w)] [.int (nI (bN (ln = -1)))]
  refine j_if_neN (tgt := 15) C dX4_isOfLane_4 (by decide) (bN_lt _) (fun c4 => ?_) (fun c4 => ?_)
  · have c4 := bN_1.mp c4
    refine j_iconst (v := nI 1) C dX4_isOfLane_15 (by decide) ?_
    refine j_goto (tgt := 20) C dX4_isOfLane_16 (by decide) ?_
    exact j_zret C E dX4_isOfLane_20 rfl () trivial (by first | exact ret_y (Or.inl c4) | exact ret_y (Or.inr c12) | exact ret_n (fun z => z.elim c4 c12)) rfl
  · have c4 := bN_0.mp c4
    refine j_aload_n C 0 dX4_isOfLane_7 rfl rfl ?_
    refine j_get C m0 2 m1 0 rfl rfl (by decide) rfl rfl dX4_isOfLane_8 ?_
    refine j_iload_n C 1 dX4_isOfLane_11 rfl rfl ?_
    refine j_icmp_ne (tgt := 19) C dX4_isOfLane_12 (by decide) (fun c12 => ?_) (fun c12 => ?_)
    · refine j_iconst (v := nI 0) C dX4_isOfLane_19 (by decide) ?_
      exact j_zret C E dX4_isOfLane_20 rfl () trivial (by first | exact ret_y (Or.inl c4) | exact ret_y (Or.inr c12) | exact ret_n (fun z => z.elim c4 c12)) rfl
    · refine j_iconst (v := nI 1) C dX4_isOfLane_15 (by decide) ?_
      refine j_goto (tgt := 20) C dX4_isOfLane_16 (by decide) ?_
      exact j_zret C E dX4_isOfLane_20 rfl () trivial (by first | exact ret_y (Or.inl c4) | exact ret_y (Or.inr c12) | exact ret_n (fun z => z.elim c4 c12)) rfl
set_option maxHeartbeats 4000000 in
set_option maxRecDepth 20000 in
theorem c_X4_hasCell {l : Launch} {D : va_G} {cy : Nat → ClassId} (h c : Nat) (ln la : Int32) (cf : Nat → Int32) (i : Int32)  : Ct l yX4_hasCell wsX4_hasCell ({ frames := 0, cells := 0, slots := 0, locals := 0 }) D cy [.ref h, .int i] (wS h c cy ln la cf) (fun _ : Unit => True) (fun _ => some (.int (nI (bN (¬ i < 0 ∧ ¬ ln ≤ i))))) (fun _ => wS h c cy ln la cf) := by
  refine Ct.of (cc := cX4_hasCell) (nL := 2) (ret := (some .boolean)) rfl (by decide) ⟨rfl, rfl⟩ (Nat.le_of_ble_eq_true rfl) ?_
  intro X C E
  have C : Cx X l D cy cX4_hasCell 2 wsX4_hasCell RX4 ({ frames := 0, cells := 0, slots := 0, locals := 0 }) := C
  have m0 : ∀ w ∈ u_ws RX4 TX4 3, w ∈ wsX4_hasCell := by decide +kernel
  have m1 : Cond.fieldLink RX4 15 RX4 (TX4 1).2.1 (TX4 1).2.2.1 ∈ wsX4_hasCell := by decide +kernel
  show J X (wS h c cy ln la cf) 0 [(0, .ref h), (1, .int i)] []
  refine j_iload_n C 1 dX4_hasCell_0 rfl rfl ?_
  refine j_if_lt (tgt := 16) C dX4_hasCell_1 (by decide) (fun c1 => ?_) (fun c1 => ?_)
  · refine j_iconst (v := nI 0) C dX4_hasCell_16 (by decide) ?_
    exact j_zret C E dX4_hasCell_17 rfl () trivial (by first | exact ret_y ⟨c1, c9⟩ | exact ret_n (fun z => z.1 c1) | exact ret_n (fun z => z.2 c9)) rfl
  · refine j_iload_n C 1 dX4_hasCell_4 rfl rfl ?_
    refine j_aload_n C 0 dX4_hasCell_5 rfl rfl ?_
    refine j_get C m0 1 m1 0 rfl rfl (by decide) rfl rfl dX4_hasCell_6 ?_
    refine j_icmp_ge (tgt := 16) C dX4_hasCell_9 (by decide) (fun c9 => ?_) (fun c9 => ?_)
    · refine j_iconst (v := nI 0) C dX4_hasCell_16 (by decide) ?_
      exact j_zret C E dX4_hasCell_17 rfl () trivial (by first | exact ret_y ⟨c1, c9⟩ | exact ret_n (fun z => z.1 c1) | exact ret_n (fun z => z.2 c9)) rfl
    · refine j_iconst (v := nI 1) C dX4_hasCell_12 (by decide) ?_
      refine j_goto (tgt := 17) C dX4_hasCell_13 (by decide) ?_
      exact j_zret C E dX4_hasCell_17 rfl () trivial (by first | exact ret_y ⟨c1, c9⟩ | exact ret_n (fun z => z.1 c1) | exact ret_n (fun z => z.2 c9)) rfl
set_option maxHeartbeats 4000000 in
set_option maxRecDepth 20000 in
theorem c_X4_hasCells {l : Launch} {D : va_G} {cy : Nat → ClassId} (h c : Nat) (ln la : Int32) (cf : Nat → Int32) (i m : Int32)  : Ct l yX4_hasCells wsX4_hasCells ({ frames := 0, cells := 0, slots := 0, locals := 0 }) D cy [.ref h, .int i, .int m] (wS h c cy ln la cf) (fun _ : Unit => True) (fun _ => some (.int (nI (bN (¬ i < 0 ∧ ¬ ln < i ∧ ¬ m < 0 ∧ ¬ ln - i < m))))) (fun _ => wS h c cy ln la cf) := by
  refine Ct.of (cc := cX4_hasCells) (nL := 3) (ret := (some .boolean)) rfl (by decide) ⟨rfl, rfl⟩ (Nat.le_of_ble_eq_true rfl) ?_
  intro X C E
  have C : Cx X l D cy cX4_hasCells 3 wsX4_hasCells RX4 ({ frames := 0, cells := 0, slots := 0, locals := 0 }) := C
  have m0 : ∀ w ∈ u_ws RX4 TX4 3, w ∈ wsX4_hasCells := by decide +kernel
  have m1 : Cond.fieldLink RX4 15 RX4 (TX4 1).2.1 (TX4 1).2.2.1 ∈ wsX4_hasCells := by decide +kernel
  show J X (wS h c cy ln la cf) 0 [(0, .ref h), (1, .int i), (2, .int m)] []
  refine j_iload_n C 1 dX4_hasCells_0 rfl rfl ?_
  refine j_if_lt (tgt := 30) C dX4_hasCells_1 (by decide) (fun c1 => ?_) (fun c1 => ?_)
  · refine j_iconst (v := nI 0) C dX4_hasCells_30 (by decide) ?_
    exact j_zret C E dX4_hasCells_31 rfl () trivial (by first | exact ret_y ⟨c1, c9, c13, c23⟩ | exact ret_n (fun z => z.1 c1) | exact ret_n (fun z => z.2.1 c9) | exact ret_n (fun z => z.2.2.1 c13) | exact ret_n (fun z => z.2.2.2 c23)) rfl
  · refine j_iload_n C 1 dX4_hasCells_4 rfl rfl ?_
    refine j_aload_n C 0 dX4_hasCells_5 rfl rfl ?_
    refine j_get C m0 1 m1 0 rfl rfl (by decide) rfl rfl dX4_hasCells_6 ?_
    refine j_icmp_gt (tgt := 30) C dX4_hasCells_9 (by decide) (fun c9 => ?_) (fun c9 => ?_)
    · refine j_iconst (v := nI 0) C dX4_hasCells_30 (by decide) ?_
      exact j_zret C E dX4_hasCells_31 rfl () trivial (by first | exact ret_y ⟨c1, c9, c13, c23⟩ | exact ret_n (fun z => z.1 c1) | exact ret_n (fun z => z.2.1 c9) | exact ret_n (fun z => z.2.2.1 c13) | exact ret_n (fun z => z.2.2.2 c23)) rfl
    · refine j_iload_n C 2 dX4_hasCells_12 rfl rfl ?_
      refine j_if_lt (tgt := 30) C dX4_hasCells_13 (by decide) (fun c13 => ?_) (fun c13 => ?_)
      · refine j_iconst (v := nI 0) C dX4_hasCells_30 (by decide) ?_
        exact j_zret C E dX4_hasCells_31 rfl () trivial (by first | exact ret_y ⟨c1, c9, c13, c23⟩ | exact ret_n (fun z => z.1 c1) | exact ret_n (fun z => z.2.1 c9) | exact ret_n (fun z => z.2.2.1 c13) | exact ret_n (fun z => z.2.2.2 c23)) rfl
      · refine j_iload_n C 2 dX4_hasCells_16 rfl rfl ?_
        refine j_aload_n C 0 dX4_hasCells_17 rfl rfl ?_
        refine j_get C m0 1 m1 0 rfl rfl (by decide) rfl rfl dX4_hasCells_18 ?_
        refine j_iload_n C 1 dX4_hasCells_21 rfl rfl ?_
        refine j_isub (v := ln - i) C dX4_hasCells_22 rfl ?_
        refine j_icmp_gt (tgt := 30) C dX4_hasCells_23 (by decide) (fun c23 => ?_) (fun c23 => ?_)
        · refine j_iconst (v := nI 0) C dX4_hasCells_30 (by decide) ?_
          exact j_zret C E dX4_hasCells_31 rfl () trivial (by first | exact ret_y ⟨c1, c9, c13, c23⟩ | exact ret_n (fun z => z.1 c1) | exact ret_n (fun z => z.2.1 c9) | exact ret_n (fun z => z.2.2.1 c13) | exact ret_n (fun z => z.2.2.2 c23)) rfl
        · refine j_iconst (v := nI 1) C dX4_hasCells_26 (by decide) ?_
          refine j_goto (tgt := 31) C dX4_hasCells_27 (by decide) ?_
          exact j_zret C E dX4_hasCells_31 rfl () trivial (by first | exact ret_y ⟨c1, c9, c13, c23⟩ | exact ret_n (fun z => z.1 c1) | exact ret_n (fun z => z.2.1 c9) | exact ret_n (fun z => z.2.2.1 c13) | exact ret_n (fun z => z.2.2.2 c23)) rfl
set_option maxHeartbeats 4000000 in
set_option maxRecDepth 20000 in
theorem c_X4_valueAt {l : Launch} {D : va_G} {cy : Nat → ClassId} (h c m : Nat) (la : Int32) (cf : Nat → Int32) (j : Nat) (hm : m ≤ 60) (hj : j < m) : Ct l yX4_valueAt wsX4_valueAt ({ frames := 1, cells := 0, slots := 0, locals := 21 }) D cy [.ref h, .int (nI j)] (wS h c cy (nI m) la cf) (fun _ : Unit => True) (fun _ => some (.int (cf j))) (fun _ => wS h c cy (nI m) la cf) := by
  refine Ct.of (cc := cX4_valueAt) (nL := 2) (ret := (some .int)) rfl (by decide) ⟨rfl, rfl⟩ (Nat.le_of_ble_eq_true rfl) ?_
  intro X C E
  have C : Cx X l D cy cX4_valueAt 2 wsX4_valueAt RX4 ({ frames := 1, cells := 0, slots := 0, locals := 21 }) := C
  have m0 : ∀ w ∈ u_ws RX4 TX4 3, w ∈ wsX4_valueAt := by decide +kernel
  have m1 : Cond.fieldLink RX4 9 RX4 (TX4 0).2.1 (TX4 0).2.2.1 ∈ wsX4_valueAt := by decide +kernel
  have hok : ¬ nI j < 0 ∧ ¬ nI m ≤ nI j := ⟨nI_pos (by omega), nI_ge hj (by omega)⟩
  show J X (wS h c cy (nI m) la cf) 0 [(0, .ref h), (1, .int (nI j))] []
  refine j_aload_n C 0 dX4_valueAt_0 rfl rfl ?_
  refine j_iload_n C 1 dX4_valueAt_1 rfl rfl ?_
  refine j_callV0 (As := [.int (nI j)]) (rest := []) C (c_X4_hasCell h c (nI m) la cf (nI j)) gX4_valueAt_X4_hasCell rfl 1 rfl (by decide +kernel) (by decide) 0 rfl rfl (Nat.le_of_ble_eq_true rfl) dX4_valueAt_2 rfl (fun _ _ => ?_)
  show J X (wS h c cy (nI m) la cf) 5 [(0, .ref h), (1, .int (nI j))] [.int (nI (bN (¬ nI j < 0 ∧ ¬ nI m ≤ nI j)))]
  refine j_if_eqN (tgt := 17) C dX4_valueAt_5 (by decide) (bN_lt _) (fun c5 => ?_) (fun c5 => ?_)
  · exact absurd hok (bN_0.mp c5)
  · have c5 := bN_1.mp c5
    refine j_aload_n C 0 dX4_valueAt_8 rfl rfl ?_
    refine j_get C m0 0 m1 0 rfl rfl (by decide) rfl rfl dX4_valueAt_9 ?_
    refine j_iload_n C 1 dX4_valueAt_12 rfl rfl ?_
    refine j_iald (v := cf j) C 1 rfl (by omega) (by decide) rfl dX4_valueAt_13 ?_
    refine j_goto (tgt := 18) C dX4_valueAt_14 (by decide) ?_
    exact j_iret C E dX4_valueAt_18 () trivial rfl rfl
set_option maxHeartbeats 4000000 in
set_option maxRecDepth 20000 in
theorem c_X4_setCut {l : Launch} {D : va_G} {cy : Nat → ClassId} (h c m : Nat) (la : Int32) (cf : Nat → Int32) (j : Nat) (v : Int32) (hm : m ≤ 60) (hj : j < m) : Ct l yX4_setCut wsX4_setCut ({ frames := 1, cells := 0, slots := 0, locals := 21 }) D cy [.ref h, .int (nI j), .int v] (wS h c cy (nI m) la cf) (fun _ : Unit => True) (fun _ => none) (fun _ => wS h c cy (nI m) la (upd cf j (cut la v))) := by
  refine Ct.of (cc := cX4_setCut) (nL := 3) (ret := none) rfl (by decide) ⟨rfl, rfl⟩ (Nat.le_of_ble_eq_true rfl) ?_
  intro X C E
  have C : Cx X l D cy cX4_setCut 3 wsX4_setCut RX4 ({ frames := 1, cells := 0, slots := 0, locals := 21 }) := C
  have m0 : ∀ w ∈ u_ws RX4 TX4 3, w ∈ wsX4_setCut := by decide +kernel
  have m1 : Cond.fieldLink RX4 9 RX4 (TX4 0).2.1 (TX4 0).2.2.1 ∈ wsX4_setCut := by decide +kernel
  have m2 : Cond.fieldLink RX4 19 RX4 (TX4 2).2.1 (TX4 2).2.2.1 ∈ wsX4_setCut := by decide +kernel
  have hok : ¬ nI j < 0 ∧ ¬ nI m ≤ nI j := ⟨nI_pos (by omega), nI_ge hj (by omega)⟩
  show J X (wS h c cy (nI m) la cf) 0 [(0, .ref h), (1, .int (nI j)), (2, .int v)] []
  refine j_aload_n C 0 dX4_setCut_0 rfl rfl ?_
  refine j_iload_n C 1 dX4_setCut_1 rfl rfl ?_
  refine j_callV0 (As := [.int (nI j)]) (rest := []) C (c_X4_hasCell h c (nI m) la cf (nI j)) gX4_setCut_X4_hasCell rfl 1 rfl (by decide +kernel) (by decide) 0 rfl rfl (Nat.le_of_ble_eq_true rfl) dX4_setCut_2 rfl (fun _ _ => ?_)
  show J X (wS h c cy (nI m) la cf) 5 [(0, .ref h), (1, .int (nI j)), (2, .int v)] [.int (nI (bN (¬ nI j < 0 ∧ ¬ nI m ≤ nI j)))]
  refine j_if_neN (tgt := 9) C dX4_setCut_5 (by decide) (bN_lt _) (fun c5 => ?_) (fun c5 => ?_)
  · have c5 := bN_1.mp c5
    refine j_aload_n C 0 dX4_setCut_9 rfl rfl ?_
    refine j_get C m0 0 m1 0 rfl rfl (by decide) rfl rfl dX4_setCut_10 ?_
    refine j_iload_n C 1 dX4_setCut_13 rfl rfl ?_
    refine j_aload_n C 0 dX4_setCut_14 rfl rfl ?_
    refine j_get C m0 2 m2 0 rfl rfl (by decide) rfl rfl dX4_setCut_15 ?_
    refine j_if_ne (tgt := 26) C dX4_setCut_18 (by decide) (fun c18 => ?_) (fun c18 => ?_)
    · refine j_aload_n C 0 dX4_setCut_26 rfl rfl ?_
      refine j_get C m0 2 m2 0 rfl rfl (by decide) rfl rfl dX4_setCut_27 ?_
      refine j_iconst (v := nI 1) C dX4_setCut_30 (by decide) ?_
      refine j_icmp_ne (tgt := 39) C dX4_setCut_31 (by decide) (fun c31 => ?_) (fun c31 => ?_)
      · refine j_iload_n C 2 dX4_setCut_39 rfl rfl ?_
        refine j_iast (ws' := wS h c cy (nI m) la (upd cf j (v))) C 1 rfl (by omega) (by decide) rfl dX4_setCut_40 ?_
        exact j_vret C E dX4_setCut_41 () trivial rfl (by unfold cut; first | rw [if_pos c18] | (rw [if_neg c18, if_pos c31]; done) | (rw [if_neg c18, if_neg c31]; done))
      · refine j_iload_n C 2 dX4_setCut_34 rfl rfl ?_
        refine j_i2s (v := v.toInt16.toInt32) C dX4_setCut_35 rfl ?_
        refine j_goto (tgt := 40) C dX4_setCut_36 (by decide) ?_
        refine j_iast (ws' := wS h c cy (nI m) la (upd cf j (v.toInt16.toInt32))) C 1 rfl (by omega) (by decide) rfl dX4_setCut_40 ?_
        exact j_vret C E dX4_setCut_41 () trivial rfl (by unfold cut; first | rw [if_pos c18] | (rw [if_neg c18, if_pos c31]; done) | (rw [if_neg c18, if_neg c31]; done))
    · refine j_iload_n C 2 dX4_setCut_21 rfl rfl ?_
      refine j_i2b (v := v.toInt8.toInt32) C dX4_setCut_22 rfl ?_
      refine j_goto (tgt := 40) C dX4_setCut_23 (by decide) ?_
      refine j_iast (ws' := wS h c cy (nI m) la (upd cf j (v.toInt8.toInt32))) C 1 rfl (by omega) (by decide) rfl dX4_setCut_40 ?_
      exact j_vret C E dX4_setCut_41 () trivial rfl (by unfold cut; first | rw [if_pos c18] | (rw [if_neg c18, if_pos c31]; done) | (rw [if_neg c18, if_neg c31]; done))
  · exact absurd hok (bN_0.mp c5)
set_option maxHeartbeats 4000000 in
set_option maxRecDepth 20000 in
theorem c_X4_renew {l : Launch} {D : va_G} {cy : Nat → ClassId} (h c : Nat) (ln la : Int32) (cf : Nat → Int32) (w : Int32) (m : Nat) (hm : m ≤ 60) : Ct l yX4_renew wsX4_renew ({ frames := 1, cells := 0, slots := 0, locals := 15 }) D cy [.ref h, .int w, .int (nI m)] (wS h c cy ln la cf) (fun _ : Unit => True) (fun _ => none) (fun _ => wS h c cy (nI m) w (fil (fun _ => nI 0) cf 60)) := by
  refine Ct.of (cc := cX4_renew) (nL := 4) (ret := none) rfl (by decide) ⟨rfl, rfl⟩ (Nat.le_of_ble_eq_true rfl) ?_
  intro X C E
  have C : Cx X l D cy cX4_renew 4 wsX4_renew RX4 ({ frames := 1, cells := 0, slots := 0, locals := 15 }) := C
  have m0 : ∀ w ∈ u_ws RX4 TX4 3, w ∈ wsX4_renew := by decide +kernel
  have m1 : Cond.fieldLink RX4 19 RX4 (TX4 2).2.1 (TX4 2).2.2.1 ∈ wsX4_renew := by decide +kernel
  have m2 : Cond.methodLink RX4 22 Lib.Math.min.name ∈ wsX4_renew := by decide +kernel
  have m3 : Cond.static Lib.Math.min.name ∈ wsX4_renew := by decide +kernel
  have m4 : Cond.initialized "java/lang/Math" ∈ wsX4_renew := by decide +kernel
  have m5 : Cond.code Lib.Math.min.name Lib.Math.min.code 2 (some .int) ∈ wsX4_renew := by decide +kernel
  have m6 : Cond.methodLink RX4 28 Lib.Math.max.name ∈ wsX4_renew := by decide +kernel
  have m7 : Cond.static Lib.Math.max.name ∈ wsX4_renew := by decide +kernel
  have m8 : Cond.code Lib.Math.max.name Lib.Math.max.code 2 (some .int) ∈ wsX4_renew := by decide +kernel
  have m9 : Cond.fieldLink RX4 15 RX4 (TX4 1).2.1 (TX4 1).2.2.1 ∈ wsX4_renew := by decide +kernel
  have m10 : Cond.fieldLink RX4 9 RX4 (TX4 0).2.1 (TX4 0).2.2.1 ∈ wsX4_renew := by decide +kernel
  show J X (wS h c cy ln la cf) 0 [(0, .ref h), (1, .int w), (2, .int (nI m))] []
  refine j_aload_n C 0 dX4_renew_0 rfl rfl ?_
  refine j_iload_n C 1 dX4_renew_1 rfl rfl ?_
  refine j_put (ws' := wS h c cy ln w cf) C m0 2 m1 tyX4 tyX4_ok nmX4 0 rfl rfl (by decide) rfl rfl (by decide +kernel) (Nat.le_of_ble_eq_true rfl) rfl dX4_renew_2 ?_
  refine j_aload_n C 0 dX4_renew_5 rfl rfl ?_
  refine j_iconst (v := nI 0) C dX4_renew_6 (by decide) ?_
  refine j_iload_n C 2 dX4_renew_7 rfl rfl ?_
  refine j_bipush (v := nI 60) C dX4_renew_8 (by decide) ?_
  refine j_mmin (v := nI (min m 60)) (rest := [.int (nI 0), .ref h]) C m2 m3 m4 m5 ⟨by decide, Nat.le_of_ble_eq_true rfl⟩ (mn_n (by omega) (by omega)) dX4_renew_10 ?_
  refine j_mmax (v := nI m) (rest := [.ref h]) C m6 m7 m4 m8 ⟨by decide, Nat.le_of_ble_eq_true rfl⟩ (by rw [mx_n (by omega) (by omega), Nat.max_eq_right (Nat.zero_le _), Nat.min_eq_left hm]) dX4_renew_13 ?_
  refine j_put (ws' := wS h c cy (nI m) w cf) C m0 1 m9 tyX4 tyX4_ok nmX4 0 rfl rfl (by decide) rfl rfl (by decide +kernel) (Nat.le_of_ble_eq_true rfl) rfl dX4_renew_16 ?_
  refine j_iconst (v := nI 0) C dX4_renew_19 (by decide) ?_
  refine j_istore_n (lv' := [(3, .int (nI 0)), (0, .ref h), (1, .int w), (2, .int (nI m))]) C dX4_renew_20 rfl (by decide) rfl ?_
  refine J.sub [1, 0] rfl ?_
  have L21 : ∀ (n : Nat) (i : Nat), 60 - i < n → i ≤ 60 → J X (wS h c cy (nI m) w (fil (fun _ => nI 0) cf i)) 21 [(0, .ref h), (3, .int (nI i))] [] := by
    intro n
    induction n with
    | zero => intro i hm; exact absurd hm (Nat.not_lt_zero _)
    | succ n ih21 =>
      intro i h21_0 h21_1
      refine j_iload_n C 1 dX4_renew_21 rfl rfl ?_
      refine j_bipush (v := nI 60) C dX4_renew_22 (by decide) ?_
      refine j_icmp_geN (tgt := 40) C dX4_renew_24 (by decide) (by omega) (by omega) (fun c24 => ?_) (fun c24 => ?_)
      · exact j_vret C E dX4_renew_40 () trivial rfl (by rw [show i = 60 by omega])
      · refine j_aload_n C 0 dX4_renew_27 rfl rfl ?_
        refine j_get C m0 0 m10 0 rfl rfl (by decide) rfl rfl dX4_renew_28 ?_
        refine j_iload_n C 1 dX4_renew_31 rfl rfl ?_
        refine j_iconst (v := nI 0) C dX4_renew_32 (by decide) ?_
        refine j_iast (ws' := wS h c cy (nI m) w (upd (fil (fun _ => nI 0) cf i) i (nI 0))) C 1 rfl (by omega) (by decide) rfl dX4_renew_33 ?_
        refine j_iinc (v := nI (i + 1)) (lv' := [(3, .int (nI (i + 1))), (0, .ref h)]) C 1 dX4_renew_34 rfl (nI_inc i) (by decide) rfl ?_
        refine j_goto (tgt := 21) C dX4_renew_37 (by decide) ?_
        refine J.sub [1, 0] rfl ?_
        have e := ih21 (i + 1) (by omega) (by omega)
        rw [← fil_s] at e
        exact e
  have e := L21 61 0 (by omega) (by omega)
  rw [fil_0] at e
  exact e
end
section
set_option maxHeartbeats 4000000 in
set_option maxRecDepth 20000 in
theorem c_X6_leave {l : Launch} {D : va_G} {cy : Nat → ClassId} (t : Nat) (v : Int32) (m : Nat)  : Ct l yX6_leave wsX6_leave ({ frames := 0, cells := 0, slots := 0, locals := 0 }) D cy [.ref t, .int (nI m)] (wTr t v) (fun _ : Unit => True) (fun _ => none) (fun _ => wTr t (tr v m)) := by
  refine Ct.of (cc := cX6_leave) (nL := 2) (ret := none) rfl (by decide) ⟨rfl, rfl⟩ (Nat.le_of_ble_eq_true rfl) ?_
  intro X C E
  have C : Cx X l D cy cX6_leave 2 wsX6_leave RX6 ({ frames := 0, cells := 0, slots := 0, locals := 0 }) := C
  have m0 : ∀ w ∈ u_ws RX6 TX6 1, w ∈ wsX6_leave := by decide +kernel
  have m1 : Cond.fieldLink RX6 7 RX6 (TX6 0).2.1 (TX6 0).2.2.1 ∈ wsX6_leave := by decide +kernel
  show J X (wTr t v) 0 [(0, .ref t), (1, .int (nI m))] []
  refine j_aload_n C 0 dX6_leave_0 rfl rfl ?_
  refine j_bipush (v := nI 31) C dX6_leave_1 (by decide) ?_
  refine j_aload_n C 0 dX6_leave_3 rfl rfl ?_
  refine j_get C m0 0 m1 0 rfl rfl (by decide) rfl rfl dX6_leave_4 ?_
  refine j_imul (v := (nI 31) * v) C dX6_leave_7 rfl ?_
  refine j_iload_n C 1 dX6_leave_8 rfl rfl ?_
  refine j_iadd (v := tr v m) C dX6_leave_9 rfl ?_
  refine j_put (ws' := wTr t (tr v m)) C m0 0 m1 tyX6 tyX6_ok nmX6 0 rfl rfl (by decide) rfl rfl (by decide +kernel) (Nat.le_of_ble_eq_true rfl) rfl dX6_leave_10 ?_
  exact j_vret C E dX6_leave_13 () trivial rfl rfl
set_option maxHeartbeats 4000000 in
set_option maxRecDepth 20000 in
theorem c_X1_plainTelling {l : Launch} {D : va_G} {cy : Nat → ClassId} (h ci t : Nat) (v : Int32) (x : Nat)  : Ct l yX1_plainTelling wsX1_plainTelling ({ frames := 1, cells := 0, slots := 0, locals := 21 }) D cy [.ref h, .int (nI x), .ref t] (wO h ci ++ wTr t v) (fun _ : Unit => True) (fun _ => some (.int (nI x))) (fun _ => wO h ci ++ wTr t (tr v 1)) := by
  refine Ct.of (cc := cX1_plainTelling) (nL := 3) (ret := (some .int)) rfl (by decide) ⟨rfl, rfl⟩ (Nat.le_of_ble_eq_true rfl) ?_
  intro X C E
  have C : Cx X l D cy cX1_plainTelling 3 wsX1_plainTelling RX1 ({ frames := 1, cells := 0, slots := 0, locals := 21 }) := C
  show J X (wO h ci ++ wTr t v) 0 [(0, .ref h), (1, .int (nI x)), (2, .ref t)] []
  refine j_aload_n C 2 dX1_plainTelling_0 rfl rfl ?_
  refine j_iconst (v := nI 1) C dX1_plainTelling_1 (by decide) ?_
  refine j_callV (As := [.int (nI 1)]) (rest := []) C (c_X6_leave t v 1) gX1_plainTelling_X6_leave rfl 1 rfl (by decide +kernel) (by decide) (wO h ci) [] rfl 0 rfl rfl (Nat.le_of_ble_eq_true rfl) dX1_plainTelling_2 rfl (fun _ _ => ?_)
  show J X (wO h ci ++ wTr t (tr v 1)) 5 [(0, .ref h), (1, .int (nI x)), (2, .ref t)] []
  refine j_iload_n C 1 dX1_plainTelling_5 rfl rfl ?_
  exact j_iret C E dX1_plainTelling_6 () trivial rfl rfl
set_option maxHeartbeats 4000000 in
set_option maxRecDepth 20000 in
theorem c_X1_hailing {l : Launch} {D : va_G} {cy : Nat → ClassId} (h ci t : Nat) (v : Int32) (x : Nat)  : Ct l yX1_hailing wsX1_hailing ({ frames := 1, cells := 0, slots := 0, locals := 21 }) D cy [.ref h, .int (nI x), .ref t] (wO h ci ++ wTr t v) (fun _ : Unit => True) (fun _ => some (.int (nI x))) (fun _ => wO h ci ++ wTr t (tr v 4)) := by
  refine Ct.of (cc := cX1_hailing) (nL := 3) (ret := (some .int)) rfl (by decide) ⟨rfl, rfl⟩ (Nat.le_of_ble_eq_true rfl) ?_
  intro X C E
  have C : Cx X l D cy cX1_hailing 3 wsX1_hailing RX1 ({ frames := 1, cells := 0, slots := 0, locals := 21 }) := C
  show J X (wO h ci ++ wTr t v) 0 [(0, .ref h), (1, .int (nI x)), (2, .ref t)] []
  refine j_aload_n C 2 dX1_hailing_0 rfl rfl ?_
  refine j_iconst (v := nI 4) C dX1_hailing_1 (by decide) ?_
  refine j_callV (As := [.int (nI 4)]) (rest := []) C (c_X6_leave t v 4) gX1_hailing_X6_leave rfl 1 rfl (by decide +kernel) (by decide) (wO h ci) [] rfl 0 rfl rfl (Nat.le_of_ble_eq_true rfl) dX1_hailing_2 rfl (fun _ _ => ?_)
  show J X (wO h ci ++ wTr t (tr v 4)) 5 [(0, .ref h), (1, .int (nI x)), (2, .ref t)] []
  refine j_iload_n C 1 dX1_hailing_5 rfl rfl ?_
  exact j_iret C E dX1_hailing_6 () trivial rfl rfl
set_option maxHeartbeats 4000000 in
set_option maxRecDepth 20000 in
theorem c_X0_hailing {l : Launch} {D : va_G} {cy : Nat → ClassId} (h t : Nat) (v : Int32) (x : Nat)  : Ct l yX0_hailing wsX0_hailing ({ frames := 1, cells := 0, slots := 0, locals := 21 }) D cy [.ref h, .int (nI x), .ref t] (wO h 0 ++ wTr t v) (fun _ : Unit => True) (fun _ => some (.int (nI 50))) (fun _ => wO h 0 ++ wTr t (tr v 5)) := by
  refine Ct.of (cc := cX0_hailing) (nL := 3) (ret := (some .int)) rfl (by decide) ⟨rfl, rfl⟩ (Nat.le_of_ble_eq_true rfl) ?_
  intro X C E
  have C : Cx X l D cy cX0_hailing 3 wsX0_hailing RX0 ({ frames := 1, cells := 0, slots := 0, locals := 21 }) := C
  show J X (wO h 0 ++ wTr t v) 0 [(0, .ref h), (1, .int (nI x)), (2, .ref t)] []
  refine j_aload_n C 2 dX0_hailing_0 rfl rfl ?_
  refine j_iconst (v := nI 5) C dX0_hailing_1 (by decide) ?_
  refine j_callV (As := [.int (nI 5)]) (rest := []) C (c_X6_leave t v 5) gX0_hailing_X6_leave rfl 1 rfl (by decide +kernel) (by decide) (wO h 0) [] rfl 0 rfl rfl (Nat.le_of_ble_eq_true rfl) dX0_hailing_2 rfl (fun _ _ => ?_)
  show J X (wO h 0 ++ wTr t (tr v 5)) 5 [(0, .ref h), (1, .int (nI x)), (2, .ref t)] []
  refine j_bipush (v := nI 50) C dX0_hailing_5 (by decide) ?_
  exact j_iret C E dX0_hailing_7 () trivial rfl rfl
set_option maxHeartbeats 4000000 in
set_option maxRecDepth 20000 in
theorem c_X1_telling {l : Launch} {D : va_G} {cy : Nat → ClassId} (h t : Nat) (v : Int32) (x : Nat)  : Ct l yX1_telling wsX1_telling ({ frames := 2, cells := 0, slots := 0, locals := 43 }) D cy [.ref h, .int (nI x), .ref t] (wO h 1 ++ wTr t v) (fun _ : Unit => True) (fun _ => some (.int (nI x))) (fun _ => wO h 1 ++ wTr t (tr v 1)) := by
  refine Ct.of (cc := cX1_telling) (nL := 3) (ret := (some .int)) rfl (by decide) ⟨rfl, rfl⟩ (Nat.le_of_ble_eq_true rfl) ?_
  intro X C E
  have C : Cx X l D cy cX1_telling 3 wsX1_telling RX1 ({ frames := 2, cells := 0, slots := 0, locals := 43 }) := C
  show J X (wO h 1 ++ wTr t v) 0 [(0, .ref h), (1, .int (nI x)), (2, .ref t)] []
  refine j_aload_n C 0 dX1_telling_0 rfl rfl ?_
  refine j_iload_n C 1 dX1_telling_1 rfl rfl ?_
  refine j_aload_n C 2 dX1_telling_2 rfl rfl ?_
  refine j_callV (As := [.int (nI x), .ref t]) (rest := []) C (c_X1_plainTelling h 1 t v x) gX1_telling_X1_plainTelling rfl 2 rfl (by decide +kernel) (by decide) [] [] rfl 0 rfl rfl (Nat.le_of_ble_eq_true rfl) dX1_telling_3 rfl (fun _ _ => ?_)
  show J X (wO h 1 ++ wTr t (tr v 1)) 6 [(0, .ref h), (1, .int (nI x)), (2, .ref t)] [.int (nI x)]
  exact j_iret C E dX1_telling_6 () trivial rfl rfl
set_option maxHeartbeats 4000000 in
set_option maxRecDepth 20000 in
theorem c_X3_telling {l : Launch} {D : va_G} {cy : Nat → ClassId} (h t : Nat) (v : Int32) (x : Nat)  : Ct l yX3_telling wsX3_telling ({ frames := 2, cells := 0, slots := 0, locals := 43 }) D cy [.ref h, .int (nI x), .ref t] (wO h 3 ++ wTr t v) (fun _ : Unit => True) (fun _ => some (.int (nI (x + 100)))) (fun _ => wO h 3 ++ wTr t (tr (tr v 2) 1)) := by
  refine Ct.of (cc := cX3_telling) (nL := 3) (ret := (some .int)) rfl (by decide) ⟨rfl, rfl⟩ (Nat.le_of_ble_eq_true rfl) ?_
  intro X C E
  have C : Cx X l D cy cX3_telling 3 wsX3_telling RX3 ({ frames := 2, cells := 0, slots := 0, locals := 43 }) := C
  show J X (wO h 3 ++ wTr t v) 0 [(0, .ref h), (1, .int (nI x)), (2, .ref t)] []
  refine j_aload_n C 2 dX3_telling_0 rfl rfl ?_
  refine j_iconst (v := nI 2) C dX3_telling_1 (by decide) ?_
  refine j_callV (As := [.int (nI 2)]) (rest := []) C (c_X6_leave t v 2) gX3_telling_X6_leave rfl 1 rfl (by decide +kernel) (by decide) (wO h 3) [] rfl 0 rfl rfl (Nat.le_of_ble_eq_true rfl) dX3_telling_2 rfl (fun _ _ => ?_)
  show J X (wO h 3 ++ wTr t (tr v 2)) 5 [(0, .ref h), (1, .int (nI x)), (2, .ref t)] []
  refine j_aload_n C 0 dX3_telling_5 rfl rfl ?_
  refine j_iload_n C 1 dX3_telling_6 rfl rfl ?_
  refine j_aload_n C 2 dX3_telling_7 rfl rfl ?_
  refine j_callU (As := [.int (nI x), .ref t]) (rest := []) C (c_X1_plainTelling h 3 t (tr v 2) x) gX3_telling_X1_plainTelling_u13X3 rfl rfl 2 rfl (by decide +kernel) (by decide) [] [] rfl 0 rfl rfl (Nat.le_of_ble_eq_true rfl) dX3_telling_8 rfl (fun _ _ => ?_)
  show J X (wO h 3 ++ wTr t (tr (tr v 2) 1)) 11 [(0, .ref h), (1, .int (nI x)), (2, .ref t)] [.int (nI x)]
  refine j_bipush (v := nI 100) C dX3_telling_11 (by decide) ?_
  refine j_iadd (v := nI (x + 100)) C dX3_telling_13 (nI_add _ _) ?_
  exact j_iret C E dX3_telling_14 () trivial rfl rfl
set_option maxHeartbeats 4000000 in
set_option maxRecDepth 20000 in
theorem c_X3_telling_0 {l : Launch} {D : va_G} {cy : Nat → ClassId} (h t : Nat) (v : Int32) (x : Nat)  : Ct l yX3_telling wsX3_telling ({ frames := 2, cells := 0, slots := 0, locals := 43 }) D cy [.ref h, .int (nI x), .ref t] (wO h 0 ++ wTr t v) (fun _ : Unit => True) (fun _ => some (.int (nI (x + 100)))) (fun _ => wO h 0 ++ wTr t (tr (tr v 2) 1)) := by
  refine Ct.of (cc := cX3_telling) (nL := 3) (ret := (some .int)) rfl (by decide) ⟨rfl, rfl⟩ (Nat.le_of_ble_eq_true rfl) ?_
  intro X C E
  have C : Cx X l D cy cX3_telling 3 wsX3_telling RX3 ({ frames := 2, cells := 0, slots := 0, locals := 43 }) := C
  show J X (wO h 0 ++ wTr t v) 0 [(0, .ref h), (1, .int (nI x)), (2, .ref t)] []
  refine j_aload_n C 2 dX3_telling_0 rfl rfl ?_
  refine j_iconst (v := nI 2) C dX3_telling_1 (by decide) ?_
  refine j_callV (As := [.int (nI 2)]) (rest := []) C (c_X6_leave t v 2) gX3_telling_X6_leave rfl 1 rfl (by decide +kernel) (by decide) (wO h 0) [] rfl 0 rfl rfl (Nat.le_of_ble_eq_true rfl) dX3_telling_2 rfl (fun _ _ => ?_)
  show J X (wO h 0 ++ wTr t (tr v 2)) 5 [(0, .ref h), (1, .int (nI x)), (2, .ref t)] []
  refine j_aload_n C 0 dX3_telling_5 rfl rfl ?_
  refine j_iload_n C 1 dX3_telling_6 rfl rfl ?_
  refine j_aload_n C 2 dX3_telling_7 rfl rfl ?_
  refine j_callU (As := [.int (nI x), .ref t]) (rest := []) C (c_X1_plainTelling h 0 t (tr v 2) x) gX3_telling_X1_plainTelling_u13X0 rfl rfl 2 rfl (by decide +kernel) (by decide) [] [] rfl 0 rfl rfl (Nat.le_of_ble_eq_true rfl) dX3_telling_8 rfl (fun _ _ => ?_)
  show J X (wO h 0 ++ wTr t (tr (tr v 2) 1)) 11 [(0, .ref h), (1, .int (nI x)), (2, .ref t)] [.int (nI x)]
  refine j_bipush (v := nI 100) C dX3_telling_11 (by decide) ?_
  refine j_iadd (v := nI (x + 100)) C dX3_telling_13 (nI_add _ _) ?_
  exact j_iret C E dX3_telling_14 () trivial rfl rfl
set_option maxHeartbeats 4000000 in
set_option maxRecDepth 20000 in
theorem c_X0_telling {l : Launch} {D : va_G} {cy : Nat → ClassId} (h t : Nat) (v : Int32) (x : Nat)  : Ct l yX0_telling wsX0_telling ({ frames := 3, cells := 0, slots := 0, locals := 65 }) D cy [.ref h, .int (nI x), .ref t] (wO h 0 ++ wTr t v) (fun _ : Unit => True) (fun _ => some (.int (nI (x + 100 + x)))) (fun _ => wO h 0 ++ wTr t (tr (tr (tr (tr v 3) 2) 1) 1)) := by
  refine Ct.of (cc := cX0_telling) (nL := 4) (ret := (some .int)) rfl (by decide) ⟨rfl, rfl⟩ (Nat.le_of_ble_eq_true rfl) ?_
  intro X C E
  have C : Cx X l D cy cX0_telling 4 wsX0_telling RX0 ({ frames := 3, cells := 0, slots := 0, locals := 65 }) := C
  show J X (wO h 0 ++ wTr t v) 0 [(0, .ref h), (1, .int (nI x)), (2, .ref t)] []
  refine j_aload_n C 2 dX0_telling_0 rfl rfl ?_
  refine j_iconst (v := nI 3) C dX0_telling_1 (by decide) ?_
  refine j_callV (As := [.int (nI 3)]) (rest := []) C (c_X6_leave t v 3) gX0_telling_X6_leave rfl 1 rfl (by decide +kernel) (by decide) (wO h 0) [] rfl 0 rfl rfl (Nat.le_of_ble_eq_true rfl) dX0_telling_2 rfl (fun _ _ => ?_)
  show J X (wO h 0 ++ wTr t (tr v 3)) 5 [(0, .ref h), (1, .int (nI x)), (2, .ref t)] []
  refine j_aload_n C 0 dX0_telling_5 rfl rfl ?_
  refine j_iload_n C 1 dX0_telling_6 rfl rfl ?_
  refine j_aload_n C 2 dX0_telling_7 rfl rfl ?_
  refine j_callSU (As := [.int (nI x), .ref t]) (rest := []) C (c_X3_telling_0 h t (tr v 3) x) gX0_telling_X3_telling_s13 rfl 2 rfl (by decide +kernel) (by decide) [] [] rfl 0 rfl rfl (Nat.le_of_ble_eq_true rfl) dX0_telling_8 rfl (fun _ _ => ?_)
  show J X (wO h 0 ++ wTr t (tr (tr (tr v 3) 2) 1)) 11 [(0, .ref h), (1, .int (nI x)), (2, .ref t)] [.int (nI (x + 100))]
  refine j_istore_n (lv' := [(3, .int (nI (x + 100))), (0, .ref h), (1, .int (nI x)), (2, .ref t)]) C dX0_telling_11 rfl (by decide) rfl ?_
  refine j_iload_n C 0 dX0_telling_12 rfl rfl ?_
  refine j_aload_n C 1 dX0_telling_13 rfl rfl ?_
  refine j_iload_n C 2 dX0_telling_14 rfl rfl ?_
  refine j_aload_n C 3 dX0_telling_15 rfl rfl ?_
  refine j_callU (As := [.int (nI x), .ref t]) (rest := [.int (nI (x + 100))]) C (c_X1_plainTelling h 0 t (tr (tr (tr v 3) 2) 1) x) gX0_telling_X1_plainTelling_u17X0 rfl rfl 2 rfl (by decide +kernel) (by decide) [] [] rfl 0 rfl rfl (Nat.le_of_ble_eq_true rfl) dX0_telling_16 rfl (fun _ _ => ?_)
  show J X (wO h 0 ++ wTr t (tr (tr (tr (tr v 3) 2) 1) 1)) 19 [(3, .int (nI (x + 100))), (0, .ref h), (1, .int (nI x)), (2, .ref t)] [.int (nI x), .int (nI (x + 100))]
  refine j_iadd (v := nI ((x + 100) + x)) C dX0_telling_19 (nI_add _ _) ?_
  exact j_iret C E dX0_telling_20 () trivial rfl rfl
end
section
theorem i_vc : Claimed_1_1 ∧ Claimed_1_2 := sorry
end
