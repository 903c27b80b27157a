section MG
variable {lo d m : Nat} {M : zM} {Q : Option zV → zM → Prop} {t : Sc}
theorem c_cutNow {rc pl mn ln om ol : Int} {p y : Nat} (ho : mOb M m rc pl (t.1 : Int) mn ln om ol) (hk : wkT M m t) (hw : wS t.1 t.2.1 t.2.2) (hp5 : t.1 ≤ 5) (hp : p < t.1) (hy : y < 60) (hQ : ∀ M', mOb M' m rc pl ((scC t p y).1 : Int) mn ln om ol → wkT M' m (scC t p y) → (∀ q, q ≠ m → q ≠ m + 6 → M' q = M q) → Q none M') : zCt lo d kX7_cutNow 0 0 [(Sum.inr (Sum.inl (some (m)))), (Sum.inl ((p : Int))), (Sum.inl ((y : Int)))] M Q := by
  have ho' := ho
  unfold mOb at ho
  obtain ⟨B, T, h1, h2, h3, h4⟩ := id hk
  have rp : zRr (p : Int) := zrr (by omega) (by omega)
  have r9 : zRr ((p : Int) + 1) := zrr (by omega) (by omega)
  have rt : zRr ((t.1 : Int) + 1) := zrr (by omega) (by omega)
  have key : ∀ (n k : Nat) (M1 : zM) (B1 : Nat → Int), k = p + n → k ≤ t.1 → M1 (m + 6) = some (Sum.inr (0, 8, Sum.inl (B1))) → (∀ j, j ≤ k → B1 j = (t.2.1 j : Int)) → (∀ j, k + 1 < j → j ≤ t.1 + 1 → B1 j = (t.2.1 (j - 1) : Int)) → zfr M M1 (m + 6) (m + 7) → zm lo d kX7_cutNow 0 0 Q (0, 0) 5 [some (Sum.inr (Sum.inl (some (m)))), some (Sum.inl ((p : Int))), some (Sum.inl ((y : Int))), some (Sum.inl ((k : Int)))] [] M1 := by
    intro n
    induction n with
    | zero =>
      intro k M1 B1 hk hkt hB a1 a2 hf
      have r1 : zRr (k : Int) := zrr (by omega) (by omega)
      have n0 : M1 m = _ := (hf m (by omega)).trans ho
      have ek : k = p := by omega
      subst ek
      refine zgo [5, 30] ?_
      simp only [↓zX_succ, ↓zstp_nil, ↓zstp_cons, ↓reduceIte, zpu_some, zpu_none, zcs, zg, zst, Nat.reduceAdd, Nat.reduceSub, Nat.reduceMul, Nat.reduceEqDiff, Nat.reduceLeDiff, Nat.reduceLT, Int.reduceToNat, Int.reduceAdd, Int.reduceSub, Int.reduceMul, Int.reduceNeg, Int.reduceLE, Int.reduceLT, Int.reduceEq, Int.cast_ofNat_Int, Int.reduceNatCast', true_and, and_true, and_self, Nat.le_refl, Nat.add_zero, Nat.zero_add, Nat.zero_le, Nat.not_lt_zero, or_true, true_or, or_false, false_or, not_true_eq_false, not_false_eq_true, forall_const, true_implies, false_implies, implies_true, zup_same, zup_zup, Int.toNat_natCast, Nat.reduceDiv, List.length_cons, List.length_nil, Nat.succ_ne_zero, ne_eq, reduceCtorEq, zRl_m6, zRl_m5, zRl_m4, zRl_m3, zRl_m2, zRl_m1, zRl_0, zRl_1, zRl_2, zRl_3, zRl_4, zRl_5, zRl_6, zRl_7, zRl_8, zRl_12, zRl_31, zRl_32, zRl_33, zRl_59, zRl_60, zRl_64, zRl_67, zRl_97, zRl_122, zRl_124, zRl_126, zRl_128, zRl_336, zRl_672, zRl_1680, zRl_2016, zRl_7680, o_X7_cutNow, r_X7_cutNow, eX7_cutNow_0, q_aload_0, eX7_cutNow_1, q_getfield, zqg_s, zqv_s, zF_7_66, eX7_cutNow_4, q_istore_3n, q_istore_3i, q_istore_3a, eX7_cutNow_5, q_iload_3, eX7_cutNow_6, q_iload_1, eX7_cutNow_7, q_icmp_le, eX7_cutNow_10, eX7_cutNow_11, zF_7_25, eX7_cutNow_14, eX7_cutNow_15, q_iconst, eX7_cutNow_16, q_iadd, eX7_cutNow_17, eX7_cutNow_18, eX7_cutNow_21, eX7_cutNow_22, q_iaload, zqal_s, eX7_cutNow_23, q_iastore, zqas_s, eX7_cutNow_24, q_iinc_3n, q_iinc_3i, q_iinc_3a, eX7_cutNow_27, q_goto, eX7_cutNow_30, eX7_cutNow_31, eX7_cutNow_34, eX7_cutNow_35, eX7_cutNow_36, eX7_cutNow_37, eX7_cutNow_38, eX7_cutNow_41, eX7_cutNow_42, eX7_cutNow_43, q_iload_2, eX7_cutNow_44, eX7_cutNow_45, eX7_cutNow_46, eX7_cutNow_47, q_dup_i, q_dup_a, eX7_cutNow_48, eX7_cutNow_51, eX7_cutNow_52, eX7_cutNow_53, q_putfield, q_putfieldR, zqp_s, zqr_s, zqw_s, eX7_cutNow_56, q_return, zqe_s, r1, rp]
      refine ⟨fun _ => ?_, fun q => by omega⟩
      have eb := a1 k (Nat.le_refl _)
      have e1 : ((k : Int) + 1).toNat = k + 1 := by omega
      have htop := hw.top (show k ≤ t.1 by omega)
      have r2 : zRr ((t.2.1 k : Int) + (y : Int)) := zrr (by omega) (by omega)
      have n1 : ∀ c, zup M1 (m + 6) c m = M1 m := fun c => zup_ne (by omega)
      refine zgo [5] ?_
      simp only [↓zX_succ, ↓zstp_nil, ↓zstp_cons, ↓reduceIte, zpu_some, zpu_none, zcs, zg, zst, Nat.reduceAdd, Nat.reduceSub, Nat.reduceMul, Nat.reduceEqDiff, Nat.reduceLeDiff, Nat.reduceLT, Int.reduceToNat, Int.reduceAdd, Int.reduceSub, Int.reduceMul, Int.reduceNeg, Int.reduceLE, Int.reduceLT, Int.reduceEq, Int.cast_ofNat_Int, Int.reduceNatCast', true_and, and_true, and_self, Nat.le_refl, Nat.add_zero, Nat.zero_add, Nat.zero_le, Nat.not_lt_zero, or_true, true_or, or_false, false_or, not_true_eq_false, not_false_eq_true, forall_const, true_implies, false_implies, implies_true, zup_same, zup_zup, Int.toNat_natCast, Nat.reduceDiv, List.length_cons, List.length_nil, Nat.succ_ne_zero, ne_eq, reduceCtorEq, zRl_m6, zRl_m5, zRl_m4, zRl_m3, zRl_m2, zRl_m1, zRl_0, zRl_1, zRl_2, zRl_3, zRl_4, zRl_5, zRl_6, zRl_7, zRl_8, zRl_12, zRl_31, zRl_32, zRl_33, zRl_59, zRl_60, zRl_64, zRl_67, zRl_97, zRl_122, zRl_124, zRl_126, zRl_128, zRl_336, zRl_672, zRl_1680, zRl_2016, zRl_7680, o_X7_cutNow, r_X7_cutNow, eX7_cutNow_0, q_aload_0, eX7_cutNow_1, q_getfield, zqg_s, zqv_s, zF_7_66, eX7_cutNow_4, q_istore_3n, q_istore_3i, q_istore_3a, eX7_cutNow_5, q_iload_3, eX7_cutNow_6, q_iload_1, eX7_cutNow_7, q_icmp_le, eX7_cutNow_10, eX7_cutNow_11, zF_7_25, eX7_cutNow_14, eX7_cutNow_15, q_iconst, eX7_cutNow_16, q_iadd, eX7_cutNow_17, eX7_cutNow_18, eX7_cutNow_21, eX7_cutNow_22, q_iaload, zqal_s, eX7_cutNow_23, q_iastore, zqas_s, eX7_cutNow_24, q_iinc_3n, q_iinc_3i, q_iinc_3a, eX7_cutNow_27, q_goto, eX7_cutNow_30, eX7_cutNow_31, eX7_cutNow_34, eX7_cutNow_35, eX7_cutNow_36, eX7_cutNow_37, eX7_cutNow_38, eX7_cutNow_41, eX7_cutNow_42, eX7_cutNow_43, q_iload_2, eX7_cutNow_44, eX7_cutNow_45, eX7_cutNow_46, eX7_cutNow_47, q_dup_i, q_dup_a, eX7_cutNow_48, eX7_cutNow_51, eX7_cutNow_52, eX7_cutNow_53, q_putfield, q_putfieldR, zqp_s, zqr_s, zqw_s, eX7_cutNow_56, q_return, zqe_s, r1, n0, hB, rp, r9, r2, eb, e1, n1, rt]
      refine ⟨by omega, by omega, by omega, by omega, ?_⟩
      refine hQ _ ?_ ⟨_, T, (zup_ne (by omega)).trans zup_same, fun j hj => ?_, ?_, fun j hj => h4 j (by simp only [scC, bCut] at hj; rw [if_neg (by omega), if_neg (by omega), Nat.add_sub_cancel] at hj; exact hj)⟩ (fun q c1 c2 => by rw [zup_ne (by omega), zup_ne (by omega), hf q (by omega)])
      · simp only [scC]; rw [Int.natCast_add]; exact zup_same
      · simp only [scC, bCut] at hj ⊢
        by_cases c : j = k + 1
        · subst c; rw [zu_same, if_neg (by omega), if_pos rfl, Int.natCast_add]
        · rw [zu_ne c]
          by_cases c2 : j ≤ k
          · rw [if_pos c2]; exact a1 j c2
          · rw [if_neg c2, if_neg c]; exact a2 j (by omega) hj
      · rw [zup_ne (by omega), zup_ne (by omega), hf _ (by omega)]; exact h3
    | succ n ih =>
      intro k M1 B1 hk hkt hB a1 a2 hf
      have r1 : zRr (k : Int) := zrr (by omega) (by omega)
      have r2 : zRr ((k : Int) + 1) := zrr (by omega) (by omega)
      have r3 : zRr ((k : Int) + -1) := zrr (by omega) (by omega)
      have n0 : M1 m = _ := (hf m (by omega)).trans ho
      have e1 : ((k : Int) + 1).toNat = k + 1 := by omega
      refine zgo [5, 30] ?_
      simp only [↓zX_succ, ↓zstp_nil, ↓zstp_cons, ↓reduceIte, zpu_some, zpu_none, zcs, zg, zst, Nat.reduceAdd, Nat.reduceSub, Nat.reduceMul, Nat.reduceEqDiff, Nat.reduceLeDiff, Nat.reduceLT, Int.reduceToNat, Int.reduceAdd, Int.reduceSub, Int.reduceMul, Int.reduceNeg, Int.reduceLE, Int.reduceLT, Int.reduceEq, Int.cast_ofNat_Int, Int.reduceNatCast', true_and, and_true, and_self, Nat.le_refl, Nat.add_zero, Nat.zero_add, Nat.zero_le, Nat.not_lt_zero, or_true, true_or, or_false, false_or, not_true_eq_false, not_false_eq_true, forall_const, true_implies, false_implies, implies_true, zup_same, zup_zup, Int.toNat_natCast, Nat.reduceDiv, List.length_cons, List.length_nil, Nat.succ_ne_zero, ne_eq, reduceCtorEq, zRl_m6, zRl_m5, zRl_m4, zRl_m3, zRl_m2, zRl_m1, zRl_0, zRl_1, zRl_2, zRl_3, zRl_4, zRl_5, zRl_6, zRl_7, zRl_8, zRl_12, zRl_31, zRl_32, zRl_33, zRl_59, zRl_60, zRl_64, zRl_67, zRl_97, zRl_122, zRl_124, zRl_126, zRl_128, zRl_336, zRl_672, zRl_1680, zRl_2016, zRl_7680, o_X7_cutNow, r_X7_cutNow, eX7_cutNow_0, q_aload_0, eX7_cutNow_1, q_getfield, zqg_s, zqv_s, zF_7_66, eX7_cutNow_4, q_istore_3n, q_istore_3i, q_istore_3a, eX7_cutNow_5, q_iload_3, eX7_cutNow_6, q_iload_1, eX7_cutNow_7, q_icmp_le, eX7_cutNow_10, eX7_cutNow_11, zF_7_25, eX7_cutNow_14, eX7_cutNow_15, q_iconst, eX7_cutNow_16, q_iadd, eX7_cutNow_17, eX7_cutNow_18, eX7_cutNow_21, eX7_cutNow_22, q_iaload, zqal_s, eX7_cutNow_23, q_iastore, zqas_s, eX7_cutNow_24, q_iinc_3n, q_iinc_3i, q_iinc_3a, eX7_cutNow_27, q_goto, eX7_cutNow_30, eX7_cutNow_31, eX7_cutNow_34, eX7_cutNow_35, eX7_cutNow_36, eX7_cutNow_37, eX7_cutNow_38, eX7_cutNow_41, eX7_cutNow_42, eX7_cutNow_43, q_iload_2, eX7_cutNow_44, eX7_cutNow_45, eX7_cutNow_46, eX7_cutNow_47, q_dup_i, q_dup_a, eX7_cutNow_48, eX7_cutNow_51, eX7_cutNow_52, eX7_cutNow_53, q_putfield, q_putfieldR, zqp_s, zqr_s, zqw_s, eX7_cutNow_56, q_return, zqe_s, r1, r2, r3, n0, hB, rp, e1]
      refine ⟨fun q => by omega, fun _ => ⟨by omega, by omega, by omega, by omega, ?_⟩⟩
      rw [show (k : Int) + -1 = ((k - 1 : Nat) : Int) by omega]
      refine ih (k - 1) _ _ (by omega) (by omega) zup_same (fun j hj => ?_) (fun j c1 c2 => ?_) (hf.up (by omega) (by omega))
      · rw [zu_ne (by omega)]; exact a1 j (by omega)
      · by_cases c : j = k + 1
        · subst c; rw [zu_same, Nat.add_sub_cancel]; exact a1 k (Nat.le_refl _)
        · rw [zu_ne c]; exact a2 j (by omega) c2
  refine zct [some (Sum.inr (Sum.inl (some (m)))), some (Sum.inl ((p : Int))), some (Sum.inl ((y : Int))), none] rfl (Nat.le_of_ble_eq_true rfl) (by decide +kernel) rfl ?_
  refine zgo [5, 30] ?_
  simp only [↓zX_succ, ↓zstp_nil, ↓zstp_cons, ↓reduceIte, zpu_some, zpu_none, zcs, zg, zst, Nat.reduceAdd, Nat.reduceSub, Nat.reduceMul, Nat.reduceEqDiff, Nat.reduceLeDiff, Nat.reduceLT, Int.reduceToNat, Int.reduceAdd, Int.reduceSub, Int.reduceMul, Int.reduceNeg, Int.reduceLE, Int.reduceLT, Int.reduceEq, Int.cast_ofNat_Int, Int.reduceNatCast', true_and, and_true, and_self, Nat.le_refl, Nat.add_zero, Nat.zero_add, Nat.zero_le, Nat.not_lt_zero, or_true, true_or, or_false, false_or, not_true_eq_false, not_false_eq_true, forall_const, true_implies, false_implies, implies_true, zup_same, zup_zup, Int.toNat_natCast, Nat.reduceDiv, List.length_cons, List.length_nil, Nat.succ_ne_zero, ne_eq, reduceCtorEq, zRl_m6, zRl_m5, zRl_m4, zRl_m3, zRl_m2, zRl_m1, zRl_0, zRl_1, zRl_2, zRl_3, zRl_4, zRl_5, zRl_6, zRl_7, zRl_8, zRl_12, zRl_31, zRl_32, zRl_33, zRl_59, zRl_60, zRl_64, zRl_67, zRl_97, zRl_122, zRl_124, zRl_126, zRl_128, zRl_336, zRl_672, zRl_1680, zRl_2016, zRl_7680, o_X7_cutNow, r_X7_cutNow, eX7_cutNow_0, q_aload_0, eX7_cutNow_1, q_getfield, zqg_s, zqv_s, zF_7_66, eX7_cutNow_4, q_istore_3n, q_istore_3i, q_istore_3a, eX7_cutNow_5, q_iload_3, eX7_cutNow_6, q_iload_1, eX7_cutNow_7, q_icmp_le, eX7_cutNow_10, eX7_cutNow_11, zF_7_25, eX7_cutNow_14, eX7_cutNow_15, q_iconst, eX7_cutNow_16, q_iadd, eX7_cutNow_17, eX7_cutNow_18, eX7_cutNow_21, eX7_cutNow_22, q_iaload, zqal_s, eX7_cutNow_23, q_iastore, zqas_s, eX7_cutNow_24, q_iinc_3n, q_iinc_3i, q_iinc_3a, eX7_cutNow_27, q_goto, eX7_cutNow_30, eX7_cutNow_31, eX7_cutNow_34, eX7_cutNow_35, eX7_cutNow_36, eX7_cutNow_37, eX7_cutNow_38, eX7_cutNow_41, eX7_cutNow_42, eX7_cutNow_43, q_iload_2, eX7_cutNow_44, eX7_cutNow_45, eX7_cutNow_46, eX7_cutNow_47, q_dup_i, q_dup_a, eX7_cutNow_48, eX7_cutNow_51, eX7_cutNow_52, eX7_cutNow_53, q_putfield, q_putfieldR, zqp_s, zqr_s, zqw_s, eX7_cutNow_56, q_return, zqe_s, ho]
  exact key (t.1 - p) t.1 M B (by omega) (Nat.le_refl _) h1 h2 (fun j c1 c2 => by omega) zfr_rf
theorem c_undoNow {rc pl mn ln om ol : Int} {p : Nat} (ho : mOb M m rc pl (t.1 : Int) mn ln om ol) (hk : wkT M m t) (hw : wS t.1 t.2.1 t.2.2) (hp : p + 1 < t.1) (hQ : ∀ M', mOb M' m rc pl ((scU t p).1 : Int) mn ln om ol → wkT M' m (scU t p) → (∀ q, q ≠ m → q ≠ m + 6 → M' q = M q) → Q none M') : zCt lo d kX7_undoNow 0 0 [(Sum.inr (Sum.inl (some (m)))), (Sum.inl ((p : Int)))] M Q := by
  have ho' := ho
  unfold mOb at ho
  obtain ⟨B, T, h1, h2, h3, h4⟩ := id hk
  have h6 := hw.2.1
  have rt : zRr (t.1 : Int) := zrr (by omega) (by omega)
  have rt1 : zRr ((t.1 : Int) - 1) := zrr (by omega) (by omega)
  have r9 : zRr ((p : Int) + 1) := zrr (by omega) (by omega)
  have key : ∀ (n k : Nat) (M1 : zM) (B1 : Nat → Int), k + n = t.1 → p < k → M1 (m + 6) = some (Sum.inr (0, 8, Sum.inl (B1))) → (∀ j, j ≤ t.1 → B1 j = if p < j ∧ j < k then (t.2.1 (j + 1) : Int) else (t.2.1 j : Int)) → zfr M M1 (m + 6) (m + 7) → zm lo d kX7_undoNow 0 0 Q (0, 0) 4 [some (Sum.inr (Sum.inl (some (m)))), some (Sum.inl ((p : Int))), some (Sum.inl ((k : Int)))] [] M1 := by
    intro n
    induction n with
    | zero =>
      intro k M1 B1 hk hpk hB a1 hf
      have r1 : zRr (k : Int) := zrr (by omega) (by omega)
      have n0 : M1 m = _ := (hf m (by omega)).trans ho
      refine zgo [4, 32] ?_
      simp only [↓zX_succ, ↓zstp_nil, ↓zstp_cons, ↓reduceIte, zpu_some, zpu_none, zcs, zg, zst, Nat.reduceAdd, Nat.reduceSub, Nat.reduceMul, Nat.reduceEqDiff, Nat.reduceLeDiff, Nat.reduceLT, Int.reduceToNat, Int.reduceAdd, Int.reduceSub, Int.reduceMul, Int.reduceNeg, Int.reduceLE, Int.reduceLT, Int.reduceEq, Int.cast_ofNat_Int, Int.reduceNatCast', true_and, and_true, and_self, Nat.le_refl, Nat.add_zero, Nat.zero_add, Nat.zero_le, Nat.not_lt_zero, or_true, true_or, or_false, false_or, not_true_eq_false, not_false_eq_true, forall_const, true_implies, false_implies, implies_true, zup_same, zup_zup, Int.toNat_natCast, Nat.reduceDiv, List.length_cons, List.length_nil, Nat.succ_ne_zero, ne_eq, reduceCtorEq, zRl_m6, zRl_m5, zRl_m4, zRl_m3, zRl_m2, zRl_m1, zRl_0, zRl_1, zRl_2, zRl_3, zRl_4, zRl_5, zRl_6, zRl_7, zRl_8, zRl_12, zRl_31, zRl_32, zRl_33, zRl_59, zRl_60, zRl_64, zRl_67, zRl_97, zRl_122, zRl_124, zRl_126, zRl_128, zRl_336, zRl_672, zRl_1680, zRl_2016, zRl_7680, o_X7_undoNow, r_X7_undoNow, eX7_undoNow_0, q_iload_1, eX7_undoNow_1, q_iconst, eX7_undoNow_2, q_iadd, eX7_undoNow_3, q_istore_2n, q_istore_2i, q_istore_2a, eX7_undoNow_4, q_iload_2, eX7_undoNow_5, q_aload_0, eX7_undoNow_6, q_getfield, zqg_s, zqv_s, zF_7_66, eX7_undoNow_9, q_icmp_ge, eX7_undoNow_12, eX7_undoNow_13, zF_7_25, eX7_undoNow_16, eX7_undoNow_17, eX7_undoNow_18, eX7_undoNow_21, eX7_undoNow_22, eX7_undoNow_23, eX7_undoNow_24, q_iaload, zqal_s, eX7_undoNow_25, q_iastore, zqas_s, eX7_undoNow_26, q_iinc_2n, q_iinc_2i, q_iinc_2a, eX7_undoNow_29, q_goto, eX7_undoNow_32, eX7_undoNow_33, q_dup_i, q_dup_a, eX7_undoNow_34, eX7_undoNow_37, eX7_undoNow_38, q_isub, eX7_undoNow_39, q_putfield, q_putfieldR, zqp_s, zqr_s, zqw_s, eX7_undoNow_42, q_return, zqe_s, r1, n0, rt]
      refine ⟨fun _ => ?_, fun q => by omega⟩
      refine zgo [4] ?_
      simp only [↓zX_succ, ↓zstp_nil, ↓zstp_cons, ↓reduceIte, zpu_some, zpu_none, zcs, zg, zst, Nat.reduceAdd, Nat.reduceSub, Nat.reduceMul, Nat.reduceEqDiff, Nat.reduceLeDiff, Nat.reduceLT, Int.reduceToNat, Int.reduceAdd, Int.reduceSub, Int.reduceMul, Int.reduceNeg, Int.reduceLE, Int.reduceLT, Int.reduceEq, Int.cast_ofNat_Int, Int.reduceNatCast', true_and, and_true, and_self, Nat.le_refl, Nat.add_zero, Nat.zero_add, Nat.zero_le, Nat.not_lt_zero, or_true, true_or, or_false, false_or, not_true_eq_false, not_false_eq_true, forall_const, true_implies, false_implies, implies_true, zup_same, zup_zup, Int.toNat_natCast, Nat.reduceDiv, List.length_cons, List.length_nil, Nat.succ_ne_zero, ne_eq, reduceCtorEq, zRl_m6, zRl_m5, zRl_m4, zRl_m3, zRl_m2, zRl_m1, zRl_0, zRl_1, zRl_2, zRl_3, zRl_4, zRl_5, zRl_6, zRl_7, zRl_8, zRl_12, zRl_31, zRl_32, zRl_33, zRl_59, zRl_60, zRl_64, zRl_67, zRl_97, zRl_122, zRl_124, zRl_126, zRl_128, zRl_336, zRl_672, zRl_1680, zRl_2016, zRl_7680, o_X7_undoNow, r_X7_undoNow, eX7_undoNow_0, q_iload_1, eX7_undoNow_1, q_iconst, eX7_undoNow_2, q_iadd, eX7_undoNow_3, q_istore_2n, q_istore_2i, q_istore_2a, eX7_undoNow_4, q_iload_2, eX7_undoNow_5, q_aload_0, eX7_undoNow_6, q_getfield, zqg_s, zqv_s, zF_7_66, eX7_undoNow_9, q_icmp_ge, eX7_undoNow_12, eX7_undoNow_13, zF_7_25, eX7_undoNow_16, eX7_undoNow_17, eX7_undoNow_18, eX7_undoNow_21, eX7_undoNow_22, eX7_undoNow_23, eX7_undoNow_24, q_iaload, zqal_s, eX7_undoNow_25, q_iastore, zqas_s, eX7_undoNow_26, q_iinc_2n, q_iinc_2i, q_iinc_2a, eX7_undoNow_29, q_goto, eX7_undoNow_32, eX7_undoNow_33, q_dup_i, q_dup_a, eX7_undoNow_34, eX7_undoNow_37, eX7_undoNow_38, q_isub, eX7_undoNow_39, q_putfield, q_putfieldR, zqp_s, zqr_s, zqw_s, eX7_undoNow_42, q_return, zqe_s, n0, rt1]
      refine hQ _ ?_ ⟨B1, T, (zup_ne (by omega)).trans hB, fun j hj => ?_, ?_, fun j hj => ?_⟩ (fun q c1 c2 => by rw [zup_ne (by omega), hf q (by omega)])
      · simp only [scU]; rw [show ((t.1 - 1 : Nat) : Int) = (t.1 : Int) - 1 by omega]; exact zup_same
      · simp only [scU, bUnd] at hj ⊢
        rw [a1 j (by omega)]
        by_cases c : j ≤ p
        · rw [if_pos c, if_neg (by omega)]
        · rw [if_neg c, if_pos (by omega)]
      · rw [zup_ne (by omega), hf _ (by omega)]; exact h3
      · simp only [scU, bUnd] at hj ⊢
        rw [if_neg (by omega), show t.1 - 1 + 1 = t.1 by omega] at hj
        exact h4 j hj
    | succ n ih =>
      intro k M1 B1 hk hpk hB a1 hf
      have r1 : zRr (k : Int) := zrr (by omega) (by omega)
      have r2 : zRr ((k : Int) + 1) := zrr (by omega) (by omega)
      have n0 : M1 m = _ := (hf m (by omega)).trans ho
      have e1 : ((k : Int) + 1).toNat = k + 1 := by omega
      refine zgo [4, 32] ?_
      simp only [↓zX_succ, ↓zstp_nil, ↓zstp_cons, ↓reduceIte, zpu_some, zpu_none, zcs, zg, zst, Nat.reduceAdd, Nat.reduceSub, Nat.reduceMul, Nat.reduceEqDiff, Nat.reduceLeDiff, Nat.reduceLT, Int.reduceToNat, Int.reduceAdd, Int.reduceSub, Int.reduceMul, Int.reduceNeg, Int.reduceLE, Int.reduceLT, Int.reduceEq, Int.cast_ofNat_Int, Int.reduceNatCast', true_and, and_true, and_self, Nat.le_refl, Nat.add_zero, Nat.zero_add, Nat.zero_le, Nat.not_lt_zero, or_true, true_or, or_false, false_or, not_true_eq_false, not_false_eq_true, forall_const, true_implies, false_implies, implies_true, zup_same, zup_zup, Int.toNat_natCast, Nat.reduceDiv, List.length_cons, List.length_nil, Nat.succ_ne_zero, ne_eq, reduceCtorEq, zRl_m6, zRl_m5, zRl_m4, zRl_m3, zRl_m2, zRl_m1, zRl_0, zRl_1, zRl_2, zRl_3, zRl_4, zRl_5, zRl_6, zRl_7, zRl_8, zRl_12, zRl_31, zRl_32, zRl_33, zRl_59, zRl_60, zRl_64, zRl_67, zRl_97, zRl_122, zRl_124, zRl_126, zRl_128, zRl_336, zRl_672, zRl_1680, zRl_2016, zRl_7680, o_X7_undoNow, r_X7_undoNow, eX7_undoNow_0, q_iload_1, eX7_undoNow_1, q_iconst, eX7_undoNow_2, q_iadd, eX7_undoNow_3, q_istore_2n, q_istore_2i, q_istore_2a, eX7_undoNow_4, q_iload_2, eX7_undoNow_5, q_aload_0, eX7_undoNow_6, q_getfield, zqg_s, zqv_s, zF_7_66, eX7_undoNow_9, q_icmp_ge, eX7_undoNow_12, eX7_undoNow_13, zF_7_25, eX7_undoNow_16, eX7_undoNow_17, eX7_undoNow_18, eX7_undoNow_21, eX7_undoNow_22, eX7_undoNow_23, eX7_undoNow_24, q_iaload, zqal_s, eX7_undoNow_25, q_iastore, zqas_s, eX7_undoNow_26, q_iinc_2n, q_iinc_2i, q_iinc_2a, eX7_undoNow_29, q_goto, eX7_undoNow_32, eX7_undoNow_33, q_dup_i, q_dup_a, eX7_undoNow_34, eX7_undoNow_37, eX7_undoNow_38, q_isub, eX7_undoNow_39, q_putfield, q_putfieldR, zqp_s, zqr_s, zqw_s, eX7_undoNow_42, q_return, zqe_s, r1, r2, n0, rt, hB, e1]
      refine ⟨fun q => by omega, fun _ => ⟨by omega, by omega, by omega, by omega, ?_⟩⟩
      rw [show (k : Int) + 1 = ((k + 1 : Nat) : Int) by omega]
      refine ih (k + 1) _ _ (by omega) (by omega) zup_same (fun j hj => ?_) (hf.up (by omega) (by omega))
      by_cases c : j = k
      · subst c
        rw [zu_same, if_pos (by omega), a1 _ (by omega), if_neg (by omega)]
      · rw [zu_ne c, a1 j hj]
        by_cases c2 : p < j ∧ j < k
        · rw [if_pos c2, if_pos (by omega)]
        · rw [if_neg c2, if_neg (by omega)]
  refine zct [some (Sum.inr (Sum.inl (some (m)))), some (Sum.inl ((p : Int))), none] rfl (Nat.le_of_ble_eq_true rfl) (by decide +kernel) rfl ?_
  refine zgo [4, 32] ?_
  simp only [↓zX_succ, ↓zstp_nil, ↓zstp_cons, ↓reduceIte, zpu_some, zpu_none, zcs, zg, zst, Nat.reduceAdd, Nat.reduceSub, Nat.reduceMul, Nat.reduceEqDiff, Nat.reduceLeDiff, Nat.reduceLT, Int.reduceToNat, Int.reduceAdd, Int.reduceSub, Int.reduceMul, Int.reduceNeg, Int.reduceLE, Int.reduceLT, Int.reduceEq, Int.cast_ofNat_Int, Int.reduceNatCast', true_and, and_true, and_self, Nat.le_refl, Nat.add_zero, Nat.zero_add, Nat.zero_le, Nat.not_lt_zero, or_true, true_or, or_false, false_or, not_true_eq_false, not_false_eq_true, forall_const, true_implies, false_implies, implies_true, zup_same, zup_zup, Int.toNat_natCast, Nat.reduceDiv, List.length_cons, List.length_nil, Nat.succ_ne_zero, ne_eq, reduceCtorEq, zRl_m6, zRl_m5, zRl_m4, zRl_m3, zRl_m2, zRl_m1, zRl_0, zRl_1, zRl_2, zRl_3, zRl_4, zRl_5, zRl_6, zRl_7, zRl_8, zRl_12, zRl_31, zRl_32, zRl_33, zRl_59, zRl_60, zRl_64, zRl_67, zRl_97, zRl_122, zRl_124, zRl_126, zRl_128, zRl_336, zRl_672, zRl_1680, zRl_2016, zRl_7680, o_X7_undoNow, r_X7_undoNow, eX7_undoNow_0, q_iload_1, eX7_undoNow_1, q_iconst, eX7_undoNow_2, q_iadd, eX7_undoNow_3, q_istore_2n, q_istore_2i, q_istore_2a, eX7_undoNow_4, q_iload_2, eX7_undoNow_5, q_aload_0, eX7_undoNow_6, q_getfield, zqg_s, zqv_s, zF_7_66, eX7_undoNow_9, q_icmp_ge, eX7_undoNow_12, eX7_undoNow_13, zF_7_25, eX7_undoNow_16, eX7_undoNow_17, eX7_undoNow_18, eX7_undoNow_21, eX7_undoNow_22, eX7_undoNow_23, eX7_undoNow_24, q_iaload, zqal_s, eX7_undoNow_25, q_iastore, zqas_s, eX7_undoNow_26, q_iinc_2n, q_iinc_2i, q_iinc_2a, eX7_undoNow_29, q_goto, eX7_undoNow_32, eX7_undoNow_33, q_dup_i, q_dup_a, eX7_undoNow_34, eX7_undoNow_37, eX7_undoNow_38, q_isub, eX7_undoNow_39, q_putfield, q_putfieldR, zqp_s, zqr_s, zqw_s, eX7_undoNow_42, q_return, zqe_s, ho, r9]
  rw [show (p : Int) + 1 = ((p + 1 : Nat) : Int) by omega]
  exact key (t.1 - (p + 1)) (p + 1) M B (by omega) (by omega) h1 (fun j hj => by rw [if_neg (by omega)]; exact h2 j hj) zfr_rf
theorem c_compared {r1 r2 f t n1 n2 N : Nat} {F G : Nat → Int} (h1 : M r1 = some (Sum.inr (0, n1, Sum.inl (F)))) (h2 : M r2 = some (Sum.inr (0, n2, Sum.inl (G)))) (hf : f + N ≤ n1) (ht : t + N ≤ n2) (hn1 : n1 < 1000000) (hn2 : n2 < 1000000) (b1 : zB (fun j => F (f + j)) 0 N) (b2 : zB (fun j => G (t + j)) 0 N) (hQ : Q (some (Sum.inl (lcm_ (slc F f N) (slc G t N)))) M) : zCt lo d kX7_compared 0 0 [(Sum.inr (Sum.inl (some (r1)))), (Sum.inl ((f : Int))), (Sum.inr (Sum.inl (some (r2)))), (Sum.inl ((t : Int))), (Sum.inl ((N : Int)))] M Q := by
  have rN : zRr (N : Int) := zrr (by omega) (by omega)
  have key : ∀ (n k : Nat), k + n = N → (∀ j, j < k → F (f + j) = G (t + j)) → zm lo d kX7_compared 0 0 Q (0, 0) 3 [some (Sum.inr (Sum.inl (some (r1)))), some (Sum.inl ((f : Int))), some (Sum.inr (Sum.inl (some (r2)))), some (Sum.inl ((t : Int))), some (Sum.inl ((N : Int))), some (Sum.inl ((k : Int)))] [] M := by
    intro n
    induction n with
    | zero =>
      intro k hk hall
      have r3 : zRr (k : Int) := zrr (by omega) (by omega)
      refine zgo [3] ?_
      simp only [↓zX_succ, ↓zstp_nil, ↓zstp_cons, ↓reduceIte, zpu_some, zpu_none, zcs, zg, zst, Nat.reduceAdd, Nat.reduceSub, Nat.reduceMul, Nat.reduceEqDiff, Nat.reduceLeDiff, Nat.reduceLT, Int.reduceToNat, Int.reduceAdd, Int.reduceSub, Int.reduceMul, Int.reduceNeg, Int.reduceLE, Int.reduceLT, Int.reduceEq, Int.cast_ofNat_Int, Int.reduceNatCast', true_and, and_true, and_self, Nat.le_refl, Nat.add_zero, Nat.zero_add, Nat.zero_le, Nat.not_lt_zero, or_true, true_or, or_false, false_or, not_true_eq_false, not_false_eq_true, forall_const, true_implies, false_implies, implies_true, zup_same, zup_zup, Int.toNat_natCast, Nat.reduceDiv, List.length_cons, List.length_nil, Nat.succ_ne_zero, ne_eq, reduceCtorEq, zRl_m6, zRl_m5, zRl_m4, zRl_m3, zRl_m2, zRl_m1, zRl_0, zRl_1, zRl_2, zRl_3, zRl_4, zRl_5, zRl_6, zRl_7, zRl_8, zRl_12, zRl_31, zRl_32, zRl_33, zRl_59, zRl_60, zRl_64, zRl_67, zRl_97, zRl_122, zRl_124, zRl_126, zRl_128, zRl_336, zRl_672, zRl_1680, zRl_2016, zRl_7680, o_X7_compared, r_X7_compared, eX7_compared_0, q_iconst, eX7_compared_1, q_istore_5n, q_istore_5i, q_istore_5a, eX7_compared_3, q_iload_5, eX7_compared_5, q_iload_4, eX7_compared_7, q_icmp_ge, eX7_compared_10, q_aload_0, eX7_compared_11, q_iload_1, eX7_compared_12, eX7_compared_14, q_iadd, eX7_compared_15, q_iaload, zqal_s, eX7_compared_16, q_aload_2, eX7_compared_17, q_iload_3, eX7_compared_18, eX7_compared_20, eX7_compared_21, eX7_compared_22, q_icmp_eq, eX7_compared_25, eX7_compared_26, eX7_compared_27, eX7_compared_29, eX7_compared_30, eX7_compared_31, eX7_compared_32, eX7_compared_33, eX7_compared_35, eX7_compared_36, eX7_compared_37, q_isub, eX7_compared_38, q_ireturn, zqi_i, zqi_z, eX7_compared_39, q_iinc_5n, q_iinc_5i, q_iinc_5a, eX7_compared_42, q_goto, eX7_compared_45, eX7_compared_46, r3, rN]
      refine ⟨fun _ => ?_, fun q => by omega⟩
      have e : slc F f N = slc G t N := tkl_eq.mpr (fun j hj => hall j (by omega))
      rw [(lcm_eq (by rw [slc_len, slc_len])).mpr e] at hQ
      exact hQ
    | succ n ih =>
      intro k hk hall
      have r3 : zRr (k : Int) := zrr (by omega) (by omega)
      have r4 : zRr ((f : Int) + k) := zrr (by omega) (by omega)
      have r5 : zRr ((t : Int) + k) := zrr (by omega) (by omega)
      have e1 : ((f : Int) + k).toNat = f + k := by omega
      have e2 : ((t : Int) + k).toNat = t + k := by omega
      have l1 := b1 k (by omega) (by omega)
      have l2 := b2 k (by omega) (by omega)
      dsimp only at l1 l2
      have r6 : zRr (F (f + k)) := zrr (by omega) (by omega)
      have r7 : zRr (G (t + k)) := zrr (by omega) (by omega)
      have r8 : zRr (F (f + k) - G (t + k)) := zrr (by omega) (by omega)
      refine zgo [3] ?_
      simp only [↓zX_succ, ↓zstp_nil, ↓zstp_cons, ↓reduceIte, zpu_some, zpu_none, zcs, zg, zst, Nat.reduceAdd, Nat.reduceSub, Nat.reduceMul, Nat.reduceEqDiff, Nat.reduceLeDiff, Nat.reduceLT, Int.reduceToNat, Int.reduceAdd, Int.reduceSub, Int.reduceMul, Int.reduceNeg, Int.reduceLE, Int.reduceLT, Int.reduceEq, Int.cast_ofNat_Int, Int.reduceNatCast', true_and, and_true, and_self, Nat.le_refl, Nat.add_zero, Nat.zero_add, Nat.zero_le, Nat.not_lt_zero, or_true, true_or, or_false, false_or, not_true_eq_false, not_false_eq_true, forall_const, true_implies, false_implies, implies_true, zup_same, zup_zup, Int.toNat_natCast, Nat.reduceDiv, List.length_cons, List.length_nil, Nat.succ_ne_zero, ne_eq, reduceCtorEq, zRl_m6, zRl_m5, zRl_m4, zRl_m3, zRl_m2, zRl_m1, zRl_0, zRl_1, zRl_2, zRl_3, zRl_4, zRl_5, zRl_6, zRl_7, zRl_8, zRl_12, zRl_31, zRl_32, zRl_33, zRl_59, zRl_60, zRl_64, zRl_67, zRl_97, zRl_122, zRl_124, zRl_126, zRl_128, zRl_336, zRl_672, zRl_1680, zRl_2016, zRl_7680, o_X7_compared, r_X7_compared, eX7_compared_0, q_iconst, eX7_compared_1, q_istore_5n, q_istore_5i, q_istore_5a, eX7_compared_3, q_iload_5, eX7_compared_5, q_iload_4, eX7_compared_7, q_icmp_ge, eX7_compared_10, q_aload_0, eX7_compared_11, q_iload_1, eX7_compared_12, eX7_compared_14, q_iadd, eX7_compared_15, q_iaload, zqal_s, eX7_compared_16, q_aload_2, eX7_compared_17, q_iload_3, eX7_compared_18, eX7_compared_20, eX7_compared_21, eX7_compared_22, q_icmp_eq, eX7_compared_25, eX7_compared_26, eX7_compared_27, eX7_compared_29, eX7_compared_30, eX7_compared_31, eX7_compared_32, eX7_compared_33, eX7_compared_35, eX7_compared_36, eX7_compared_37, q_isub, eX7_compared_38, q_ireturn, zqi_i, zqi_z, eX7_compared_39, q_iinc_5n, q_iinc_5i, q_iinc_5a, eX7_compared_42, q_goto, eX7_compared_45, eX7_compared_46, r3, rN, r4, r5, h1, h2, e1, e2, r6, r7, r8]
      refine ⟨fun q => by omega, fun _ => ⟨by omega, by omega, by omega, by omega, by omega, by omega, fun q => ?_, fun q => ⟨by omega, by omega, by omega, by omega, by omega, by omega, ?_⟩⟩⟩
      · rw [show (k : Int) + 1 = ((k + 1 : Nat) : Int) by omega]
        refine ih (k + 1) (by omega) (fun j hj => ?_)
        by_cases c : j = k
        · subst c; exact q
        · exact hall j (by omega)
      · rw [slc, slc, lcm_first (A := fun j => F (f + j)) (B := fun j => G (t + j)) (k := k) (by omega) hall q] at hQ
        exact hQ
  refine zct [some (Sum.inr (Sum.inl (some (r1)))), some (Sum.inl ((f : Int))), some (Sum.inr (Sum.inl (some (r2)))), some (Sum.inl ((t : Int))), some (Sum.inl ((N : Int))), none] rfl (Nat.le_of_ble_eq_true rfl) (by decide +kernel) rfl ?_
  refine zgo [3] ?_
  simp only [↓zX_succ, ↓zstp_nil, ↓zstp_cons, ↓reduceIte, zpu_some, zpu_none, zcs, zg, zst, Nat.reduceAdd, Nat.reduceSub, Nat.reduceMul, Nat.reduceEqDiff, Nat.reduceLeDiff, Nat.reduceLT, Int.reduceToNat, Int.reduceAdd, Int.reduceSub, Int.reduceMul, Int.reduceNeg, Int.reduceLE, Int.reduceLT, Int.reduceEq, Int.cast_ofNat_Int, Int.reduceNatCast', true_and, and_true, and_self, Nat.le_refl, Nat.add_zero, Nat.zero_add, Nat.zero_le, Nat.not_lt_zero, or_true, true_or, or_false, false_or, not_true_eq_false, not_false_eq_true, forall_const, true_implies, false_implies, implies_true, zup_same, zup_zup, Int.toNat_natCast, Nat.reduceDiv, List.length_cons, List.length_nil, Nat.succ_ne_zero, ne_eq, reduceCtorEq, zRl_m6, zRl_m5, zRl_m4, zRl_m3, zRl_m2, zRl_m1, zRl_0, zRl_1, zRl_2, zRl_3, zRl_4, zRl_5, zRl_6, zRl_7, zRl_8, zRl_12, zRl_31, zRl_32, zRl_33, zRl_59, zRl_60, zRl_64, zRl_67, zRl_97, zRl_122, zRl_124, zRl_126, zRl_128, zRl_336, zRl_672, zRl_1680, zRl_2016, zRl_7680, o_X7_compared, r_X7_compared, eX7_compared_0, q_iconst, eX7_compared_1, q_istore_5n, q_istore_5i, q_istore_5a, eX7_compared_3, q_iload_5, eX7_compared_5, q_iload_4, eX7_compared_7, q_icmp_ge, eX7_compared_10, q_aload_0, eX7_compared_11, q_iload_1, eX7_compared_12, eX7_compared_14, q_iadd, eX7_compared_15, q_iaload, zqal_s, eX7_compared_16, q_aload_2, eX7_compared_17, q_iload_3, eX7_compared_18, eX7_compared_20, eX7_compared_21, eX7_compared_22, q_icmp_eq, eX7_compared_25, eX7_compared_26, eX7_compared_27, eX7_compared_29, eX7_compared_30, eX7_compared_31, eX7_compared_32, eX7_compared_33, eX7_compared_35, eX7_compared_36, eX7_compared_37, q_isub, eX7_compared_38, q_ireturn, zqi_i, zqi_z, eX7_compared_39, q_iinc_5n, q_iinc_5i, q_iinc_5a, eX7_compared_42, q_goto, eX7_compared_45, eX7_compared_46]
  exact key N 0 (by omega) (fun j hj => by omega)
end MG
