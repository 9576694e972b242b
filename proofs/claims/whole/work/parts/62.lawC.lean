theorem lim7 {L i : Nat} (hL : L ≤ 448) (hi : i ≤ 455) (h : ¬ nI L - nI 7 < nI i) : i + 7 ≤ L := by
  rw [Int32.lt_iff_toInt_lt, pk_sub_toInt (by omega) (by decide), nI_toInt (by omega)] at h
  omega
set_option maxHeartbeats 4000000 in
set_option maxRecDepth 20000 in
theorem law_loop {X : Cxt} {l : Launch} {D : va_G} {cy : Nat → ClassId} {A : Nat → Nat → Nat} {mm : Nat → Nat} {b L : Nat} {xs : Nat → Int32} (C : Cx X l D cy cL_law 4 wsL_law RL room_1) (hX : va_X b L xs (xS X) (xS X).heap) (hbl : b < (xS X).heap.size) (hbA : ¬ xA X b) (hL : L ≤ 448) (fin : ∀ (u : XS) (v : MS) (i : Nat), J X (wXu A cy u ++ wMu mm cy v) 1145 [(0, .ref b), (1, .ref (A 3 0)), (2, .ref (mm 0)), (3, .int (nI i))] []) : ∀ (n i : Nat) (σ : Sp) (u : XS) (v : MS), L + 7 - i < n → i ≤ L → XI σ u → MI σ v → J X (wXu A cy u ++ wMu mm cy v) 18 [(0, .ref b), (1, .ref (A 3 0)), (2, .ref (mm 0)), (3, .int (nI i))] [] := by
  intro n
  induction n with
  | zero => intro i σ u v hm; exact absurd hm (Nat.not_lt_zero _)
  | succ n ih =>
    intro i σ u v hm hiL hI hM
    have next : ∀ (σ' : Sp) (u' : XS) (v' : MS), i + 7 ≤ L → XI σ' u' → MI σ' v' → J X (wXu A cy u' ++ wMu mm cy v') 1139 [(0, .ref b), (1, .ref (A 3 0)), (2, .ref (mm 0)), (3, .int (nI i))] [] := by
      intro σ' u' v' h7 hI' hM'
      refine j_iinc (v := nI (i + 7)) (lv' := [(3, .int (nI (i + 7))), (0, .ref b), (1, .ref (A 3 0)), (2, .ref (mm 0))]) C 3 dL_law_1139 rfl (nI_add i 7) (by decide) rfl ?_
      refine j_goto (tgt := 18) C dL_law_1142 (by decide) ?_
      refine J.sub [1, 2, 3, 0] rfl ?_
      exact ih (i + 7) σ' u' v' (by omega) h7 hI' hM'
    refine j_iload_n C 3 dL_law_18 rfl rfl ?_
    refine j_aload_n C 0 dL_law_19 rfl rfl ?_
    refine j_slen C hX hbl hbA dL_law_20 ?_
    refine j_bipush (v := nI 7) C dL_law_21 (by decide) ?_
    refine j_isub (v := nI L - nI 7) C dL_law_23 rfl ?_
    refine j_icmp_gt (tgt := 1145) C dL_law_24 (by decide) (fun _ => fin u v i) (fun c24 => ?_)
    have h7 := lim7 hL (by omega) c24
    refine j_aload_n C 0 dL_law_27 rfl rfl ?_
    refine j_iload_n C 3 dL_law_28 rfl rfl ?_
    refine j_sld C hX hbl hbA (by omega) (by omega) dL_law_29 ?_
    refine j_bipush (v := nI 31) C dL_law_30 (by decide) ?_
    refine j_iand (v := xs i &&& nI 31) C dL_law_32 rfl ?_
    generalize xs i &&& nI 31 = w
    refine j_table C dL_law_33 1139 (by decide) (fun _ => next σ u v h7 hI hM) (fun h1 h2 => ?_)
    obtain ⟨z, hz, rfl⟩ := tb_y (m := 30) (by decide) h1 h2
    match z, hz with
    | 0, _ => exact ⟨139, 172, by decide +kernel, by decide, law_0 C hX hbl hbA hL h7 hI hM (fun σ' u' v' => next σ' u' v' h7)⟩
    | 1, _ => exact ⟨192, 225, by decide +kernel, by decide, law_1 C hX hbl hbA hL h7 hI hM (fun σ' u' v' => next σ' u' v' h7)⟩
    | 2, _ => exact ⟨225, 258, by decide +kernel, by decide, law_2 C hX hbl hbA hL h7 hI hM (fun σ' u' v' => next σ' u' v' h7)⟩
    | 3, _ => exact ⟨268, 301, by decide +kernel, by decide, law_3 C hX hbl hbA hL h7 hI hM (fun σ' u' v' => next σ' u' v' h7)⟩
    | 4, _ => exact ⟨301, 334, by decide +kernel, by decide, law_4 C hX hbl hbA hL h7 hI hM (fun σ' u' v' => next σ' u' v' h7)⟩
    | 5, _ => exact ⟨334, 367, by decide +kernel, by decide, law_5 C hX hbl hbA hL h7 hI hM (fun σ' u' v' => next σ' u' v' h7)⟩
    | 6, _ => exact ⟨357, 390, by decide +kernel, by decide, law_6 C hX hbl hbA hL h7 hI hM (fun σ' u' v' => next σ' u' v' h7)⟩
    | 7, _ => exact ⟨380, 413, by decide +kernel, by decide, law_7 C hX hbl hbA hL h7 hI hM (fun σ' u' v' => next σ' u' v' h7)⟩
    | 8, _ => exact ⟨403, 436, by decide +kernel, by decide, law_8 C hX hbl hbA hL h7 hI hM (fun σ' u' v' => next σ' u' v' h7)⟩
    | 9, _ => exact ⟨436, 469, by decide +kernel, by decide, law_9 C hX hbl hbA hL h7 hI hM (fun σ' u' v' => next σ' u' v' h7)⟩
    | 10, _ => exact ⟨449, 482, by decide +kernel, by decide, law_10 C hX hbl hbA hL h7 hI hM (fun σ' u' v' => next σ' u' v' h7)⟩
    | 11, _ => exact ⟨472, 505, by decide +kernel, by decide, law_11 C hX hbl hbA hL h7 hI hM (fun σ' u' v' => next σ' u' v' h7)⟩
    | 12, _ => exact ⟨547, 580, by decide +kernel, by decide, law_12 C hX hbl hbA hL h7 hI hM (fun σ' u' v' => next σ' u' v' h7)⟩
    | 13, _ => exact ⟨570, 603, by decide +kernel, by decide, law_13 C hX hbl hbA hL h7 hI hM (fun σ' u' v' => next σ' u' v' h7)⟩
    | 14, _ => exact ⟨583, 616, by decide +kernel, by decide, law_14 C hX hbl hbA hL h7 hI hM (fun σ' u' v' => next σ' u' v' h7)⟩
    | 15, _ => exact ⟨626, 659, by decide +kernel, by decide, law_15 C hX hbl hbA hL h7 hI hM (fun σ' u' v' => next σ' u' v' h7)⟩
    | 16, _ => exact ⟨649, 682, by decide +kernel, by decide, law_16 C hX hbl hbA hL h7 hI hM (fun σ' u' v' => next σ' u' v' h7)⟩
    | 17, _ => exact ⟨682, 715, by decide +kernel, by decide, law_17 C hX hbl hbA hL h7 hI hM (fun σ' u' v' => next σ' u' v' h7)⟩
    | 18, _ => exact ⟨705, 738, by decide +kernel, by decide, law_18 C hX hbl hbA hL h7 hI hM (fun σ' u' v' => next σ' u' v' h7)⟩
    | 19, _ => exact ⟨718, 751, by decide +kernel, by decide, law_19 C hX hbl hbA hL h7 hI hM (fun σ' u' v' => next σ' u' v' h7)⟩
    | 20, _ => exact ⟨762, 795, by decide +kernel, by decide, law_20 C hX hbl hbA hL h7 hI hM (fun σ' u' v' => next σ' u' v' h7)⟩
    | 21, _ => exact ⟨805, 838, by decide +kernel, by decide, law_21 C hX hbl hbA hL h7 hI hM (fun σ' u' v' => next σ' u' v' h7)⟩
    | 22, _ => exact ⟨828, 861, by decide +kernel, by decide, law_22 C hX hbl hbA hL h7 hI hM (fun σ' u' v' => next σ' u' v' h7)⟩
    | 23, _ => exact ⟨871, 904, by decide +kernel, by decide, law_23 C hX hbl hbA hL h7 hI hM (fun σ' u' v' => next σ' u' v' h7)⟩
    | 24, _ => exact ⟨915, 948, by decide +kernel, by decide, law_24 C hX hbl hbA hL h7 hI hM (fun σ' u' v' => next σ' u' v' h7)⟩
    | 25, _ => exact ⟨978, 1011, by decide +kernel, by decide, law_25 C hX hbl hbA hL h7 hI hM (fun σ' u' v' => next σ' u' v' h7)⟩
    | 26, _ => exact ⟨1001, 1034, by decide +kernel, by decide, law_26 C hX hbl hbA hL h7 hI hM (fun σ' u' v' => next σ' u' v' h7)⟩
    | 27, _ => exact ⟨1024, 1057, by decide +kernel, by decide, law_27 C hX hbl hbA hL h7 hI hM (fun σ' u' v' => next σ' u' v' h7)⟩
    | 28, _ => exact ⟨1057, 1090, by decide +kernel, by decide, law_28 C hX hbl hbA hL h7 hI hM (fun σ' u' v' => next σ' u' v' h7)⟩
    | 29, _ => exact ⟨1070, 1103, by decide +kernel, by decide, law_29 C hX hbl hbA hL h7 hI hM (fun σ' u' v' => next σ' u' v' h7)⟩
    | 30, _ => exact ⟨1083, 1116, by decide +kernel, by decide, law_30 C hX hbl hbA hL h7 hI hM (fun σ' u' v' => next σ' u' v' h7)⟩
    | z + 31, hz => exact absurd hz (by omega)
