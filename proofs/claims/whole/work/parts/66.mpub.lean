theorem mWk.fw {M M' : zM} {m : Nat} (hs : mWk M m) (h : ∀ q, m + 6 ≤ q → q ≤ m + 12 → M' q = M q) : mWk M' m := by
  obtain ⟨B, T, R, O, X, R2, O2, k1, k2, k3, k4, k5, k6, k7⟩ := hs
  exact ⟨B, T, R, O, X, R2, O2, (h _ (by omega) (by omega)).trans k1, (h _ (by omega) (by omega)).trans k2, (h _ (by omega) (by omega)).trans k3, (h _ (by omega) (by omega)).trans k4, (h _ (by omega) (by omega)).trans k5, (h _ (by omega) (by omega)).trans k6, (h _ (by omega) (by omega)).trans k7⟩
section MV
variable {lo d m : Nat} {A : aS} {M : zM}
theorem m_wipe (hd : mdG M m A) (_hw : wfA A) : zMb lo (d + 8) kX7_wipe m [] M (oWipe A) := by
  intro Q hQ
  obtain ⟨⟨pt, mn, ln, om, ol, ho⟩, hps, hk⟩ := id hd
  have ho' := ho
  unfold mOb at ho
  refine zct [some (Sum.inr (Sum.inl (some (m)))), none] rfl (Nat.le_of_ble_eq_true rfl) (by decide +kernel) rfl ?_
  refine zgo [] ?_
  simp only [↓zX_succ, ↓zstp_nil, ↓zstp_cons, ↓reduceIte, zpu_some, zpu_none, zcs, zg, zst, Nat.reduceAdd, Nat.reduceSub, Nat.reduceMul, Nat.reduceEqDiff, Nat.reduceLeDiff, Nat.reduceLT, Int.reduceToNat, Int.reduceAdd, Int.reduceSub, Int.reduceMul, Int.reduceNeg, Int.reduceLE, Int.reduceLT, Int.reduceEq, Int.cast_ofNat_Int, Int.reduceNatCast', true_and, and_true, and_self, Nat.le_refl, Nat.add_zero, Nat.zero_add, Nat.zero_le, Nat.not_lt_zero, or_true, true_or, or_false, false_or, not_true_eq_false, not_false_eq_true, forall_const, true_implies, false_implies, implies_true, zup_same, zup_zup, Int.toNat_natCast, Nat.reduceDiv, List.length_cons, List.length_nil, Nat.succ_ne_zero, ne_eq, reduceCtorEq, zRl_m6, zRl_m5, zRl_m4, zRl_m3, zRl_m2, zRl_m1, zRl_0, zRl_1, zRl_2, zRl_3, zRl_4, zRl_5, zRl_6, zRl_7, zRl_8, zRl_12, zRl_31, zRl_32, zRl_33, zRl_59, zRl_60, zRl_64, zRl_67, zRl_97, zRl_122, zRl_124, zRl_126, zRl_128, zRl_336, zRl_672, zRl_1680, zRl_2016, zRl_7680, o_X7_wipe, r_X7_wipe, eX7_wipe_0, q_aload_0, eX7_wipe_1, q_getfield, zqg_s, zqv_s, zF_7_109, eX7_wipe_4, q_istore_1n, q_istore_1i, q_istore_1a, eX7_wipe_5, eX7_wipe_6, q_iconst, eX7_wipe_7, q_putfield, q_putfieldR, zqp_s, zqr_s, zqw_s, eX7_wipe_10, q_iload_1, eX7_wipe_11, q_ireturn, zqi_i, zqi_z, ho]
  have fr : ∀ c q, q ≠ m → zup M m c q = M q := fun c q h => zup_ne h
  obtain ⟨⟨S, h1, h2⟩, ⟨G, h3, h4⟩, ⟨L, h5, h6⟩, ⟨V, h7, h8⟩, P, h9, h10⟩ := id hps
  refine hQ _ ⟨⟨pt, mn, ln, om, ol, ?_⟩, ⟨⟨S, (fr _ _ (by omega)).trans h1, h2⟩, ⟨G, (fr _ _ (by omega)).trans h3, h4⟩, ⟨L, (fr _ _ (by omega)).trans h5, h6⟩, ⟨V, (fr _ _ (by omega)).trans h7, h8⟩, P, (fr _ _ (by omega)).trans h9, fun j hj => ?_⟩, hk.rec (fun q a1 _ => fr _ q a1)⟩ (fun q hq => fr _ q (by omega))
  · exact zup_same
  · simp only [oWipe, stP] at hj; omega
theorem m_fault (hd : mdG M m A) (hw : wfA A) : zMb lo (d + 8) kX7_fault m [] M (A, ff A.2.1.2 A.2.1.1) := by
  intro Q hQ
  obtain ⟨⟨pt, mn, ln, om, ol, ho⟩, hps, hk⟩ := id hd
  have ho' := ho
  unfold mOb at ho
  obtain ⟨-, -, -, -, P, h9, h10⟩ := id hps
  refine zct [some (Sum.inr (Sum.inl (some (m))))] rfl (Nat.le_of_ble_eq_true rfl) (by decide +kernel) rfl ?_
  refine zgo [] ?_
  simp only [↓zX_succ, ↓zstp_nil, ↓zstp_cons, ↓reduceIte, zpu_some, zpu_none, zcs, zg, zst, Nat.reduceAdd, Nat.reduceSub, Nat.reduceMul, Nat.reduceEqDiff, Nat.reduceLeDiff, Nat.reduceLT, Int.reduceToNat, Int.reduceAdd, Int.reduceSub, Int.reduceMul, Int.reduceNeg, Int.reduceLE, Int.reduceLT, Int.reduceEq, Int.cast_ofNat_Int, Int.reduceNatCast', true_and, and_true, and_self, Nat.le_refl, Nat.add_zero, Nat.zero_add, Nat.zero_le, Nat.not_lt_zero, or_true, true_or, or_false, false_or, not_true_eq_false, not_false_eq_true, forall_const, true_implies, false_implies, implies_true, zup_same, zup_zup, Int.toNat_natCast, Nat.reduceDiv, List.length_cons, List.length_nil, Nat.succ_ne_zero, ne_eq, reduceCtorEq, zRl_m6, zRl_m5, zRl_m4, zRl_m3, zRl_m2, zRl_m1, zRl_0, zRl_1, zRl_2, zRl_3, zRl_4, zRl_5, zRl_6, zRl_7, zRl_8, zRl_12, zRl_31, zRl_32, zRl_33, zRl_59, zRl_60, zRl_64, zRl_67, zRl_97, zRl_122, zRl_124, zRl_126, zRl_128, zRl_336, zRl_672, zRl_1680, zRl_2016, zRl_7680, o_X7_fault, r_X7_fault, eX7_fault_0, q_aload_0, eX7_fault_1, q_invv, zqo_s, zqc_s, zC_7_112, o_X7_findFault, zqcv_0, eX7_fault_4, q_ireturn, zqi_i, zqi_z, ho]
  refine c_findFault ho' h9 h10 hw.2.1.1 hw.2.1.2 ?_
  refine zgo [] ?_
  simp only [↓zX_succ, ↓zstp_nil, ↓zstp_cons, ↓reduceIte, zpu_some, zpu_none, zcs, zg, zst, Nat.reduceAdd, Nat.reduceSub, Nat.reduceMul, Nat.reduceEqDiff, Nat.reduceLeDiff, Nat.reduceLT, Int.reduceToNat, Int.reduceAdd, Int.reduceSub, Int.reduceMul, Int.reduceNeg, Int.reduceLE, Int.reduceLT, Int.reduceEq, Int.cast_ofNat_Int, Int.reduceNatCast', true_and, and_true, and_self, Nat.le_refl, Nat.add_zero, Nat.zero_add, Nat.zero_le, Nat.not_lt_zero, or_true, true_or, or_false, false_or, not_true_eq_false, not_false_eq_true, forall_const, true_implies, false_implies, implies_true, zup_same, zup_zup, Int.toNat_natCast, Nat.reduceDiv, List.length_cons, List.length_nil, Nat.succ_ne_zero, ne_eq, reduceCtorEq, zRl_m6, zRl_m5, zRl_m4, zRl_m3, zRl_m2, zRl_m1, zRl_0, zRl_1, zRl_2, zRl_3, zRl_4, zRl_5, zRl_6, zRl_7, zRl_8, zRl_12, zRl_31, zRl_32, zRl_33, zRl_59, zRl_60, zRl_64, zRl_67, zRl_97, zRl_122, zRl_124, zRl_126, zRl_128, zRl_336, zRl_672, zRl_1680, zRl_2016, zRl_7680, o_X7_fault, r_X7_fault, eX7_fault_0, q_aload_0, eX7_fault_1, q_invv, zqo_s, zqc_s, zC_7_112, o_X7_findFault, zqcv_0, eX7_fault_4, q_ireturn, zqi_i, zqi_z]
  exact hQ M hd zfr_rf
theorem m_undo (hd : mdG M m A) (hw : wfA A) : zMb lo (d + 8) kX7_undo m [] M (oUndo A) := by
  intro Q hQ
  obtain ⟨⟨pt, mn, ln, om, ol, ho⟩, hps, hk⟩ := id hd
  have ho' := ho
  unfold mOb at ho
  obtain ⟨⟨S, h1, h2⟩, ⟨G, h3, h4⟩, ⟨L, h5, h6⟩, ⟨V, h7, h8⟩, P, h9, h10⟩ := id hps
  have h6r := hw.2.2.1.1
  have rr : zRr (A.2.2.1.1 : Int) := zrr (by omega) (by omega)
  rw [oUndo] at hQ
  refine zct [some (Sum.inr (Sum.inl (some (m))))] rfl (Nat.le_of_ble_eq_true rfl) (by decide +kernel) rfl ?_
  by_cases c0 : A.2.2.1.1 = 0
  · rw [if_pos c0] at hQ
    have f0 : ((A.2.2.1.1 : Int) = 0) = True := eq_true (by omega)
    refine zgo [] ?_
    simp only [↓zX_succ, ↓zstp_nil, ↓zstp_cons, ↓reduceIte, zpu_some, zpu_none, zcs, zg, zst, Nat.reduceAdd, Nat.reduceSub, Nat.reduceMul, Nat.reduceEqDiff, Nat.reduceLeDiff, Nat.reduceLT, Int.reduceToNat, Int.reduceAdd, Int.reduceSub, Int.reduceMul, Int.reduceNeg, Int.reduceLE, Int.reduceLT, Int.reduceEq, Int.cast_ofNat_Int, Int.reduceNatCast', true_and, and_true, and_self, Nat.le_refl, Nat.add_zero, Nat.zero_add, Nat.zero_le, Nat.not_lt_zero, or_true, true_or, or_false, false_or, not_true_eq_false, not_false_eq_true, forall_const, true_implies, false_implies, implies_true, zup_same, zup_zup, Int.toNat_natCast, Nat.reduceDiv, List.length_cons, List.length_nil, Nat.succ_ne_zero, ne_eq, reduceCtorEq, zRl_m6, zRl_m5, zRl_m4, zRl_m3, zRl_m2, zRl_m1, zRl_0, zRl_1, zRl_2, zRl_3, zRl_4, zRl_5, zRl_6, zRl_7, zRl_8, zRl_12, zRl_31, zRl_32, zRl_33, zRl_59, zRl_60, zRl_64, zRl_67, zRl_97, zRl_122, zRl_124, zRl_126, zRl_128, zRl_336, zRl_672, zRl_1680, zRl_2016, zRl_7680, o_X7_undo, r_X7_undo, eX7_undo_0, q_aload_0, eX7_undo_1, q_getfield, zqg_s, zqv_s, zF_7_46, eX7_undo_4, q_if_ne, eX7_undo_7, q_bipush, eX7_undo_9, q_ireturn, zqi_i, zqi_z, eX7_undo_10, eX7_undo_11, q_dup_i, q_dup_a, eX7_undo_12, eX7_undo_15, q_iconst, eX7_undo_16, q_isub, eX7_undo_17, q_putfield, q_putfieldR, zqp_s, zqr_s, zqw_s, eX7_undo_20, eX7_undo_21, zF_7_13, eX7_undo_24, eX7_undo_25, eX7_undo_28, q_sipush, eX7_undo_31, q_imul, eX7_undo_32, eX7_undo_33, zF_7_7, eX7_undo_36, eX7_undo_37, q_invs, zqst_s, zqst_c, zqcp_s, zqc_s, zC_7_50, o_X7_moves, zqcs_4, eX7_undo_40, eX7_undo_41, eX7_undo_44, ho, rr, f0]
    exact hQ M hd zfr_rf
  · rw [if_neg c0] at hQ
    have f0 : ((A.2.2.1.1 : Int) = 0) = False := eq_false (by omega)
    have r1 : zRr ((A.2.2.1.1 : Int) - 1) := zrr (by omega) (by omega)
    have r2 : zRr (((A.2.2.1.1 : Int) - 1) * 336) := zrr (by omega) (by omega)
    refine zgo [] ?_
    simp only [↓zX_succ, ↓zstp_nil, ↓zstp_cons, ↓reduceIte, zpu_some, zpu_none, zcs, zg, zst, Nat.reduceAdd, Nat.reduceSub, Nat.reduceMul, Nat.reduceEqDiff, Nat.reduceLeDiff, Nat.reduceLT, Int.reduceToNat, Int.reduceAdd, Int.reduceSub, Int.reduceMul, Int.reduceNeg, Int.reduceLE, Int.reduceLT, Int.reduceEq, Int.cast_ofNat_Int, Int.reduceNatCast', true_and, and_true, and_self, Nat.le_refl, Nat.add_zero, Nat.zero_add, Nat.zero_le, Nat.not_lt_zero, or_true, true_or, or_false, false_or, not_true_eq_false, not_false_eq_true, forall_const, true_implies, false_implies, implies_true, zup_same, zup_zup, Int.toNat_natCast, Nat.reduceDiv, List.length_cons, List.length_nil, Nat.succ_ne_zero, ne_eq, reduceCtorEq, zRl_m6, zRl_m5, zRl_m4, zRl_m3, zRl_m2, zRl_m1, zRl_0, zRl_1, zRl_2, zRl_3, zRl_4, zRl_5, zRl_6, zRl_7, zRl_8, zRl_12, zRl_31, zRl_32, zRl_33, zRl_59, zRl_60, zRl_64, zRl_67, zRl_97, zRl_122, zRl_124, zRl_126, zRl_128, zRl_336, zRl_672, zRl_1680, zRl_2016, zRl_7680, o_X7_undo, r_X7_undo, eX7_undo_0, q_aload_0, eX7_undo_1, q_getfield, zqg_s, zqv_s, zF_7_46, eX7_undo_4, q_if_ne, eX7_undo_7, q_bipush, eX7_undo_9, q_ireturn, zqi_i, zqi_z, eX7_undo_10, eX7_undo_11, q_dup_i, q_dup_a, eX7_undo_12, eX7_undo_15, q_iconst, eX7_undo_16, q_isub, eX7_undo_17, q_putfield, q_putfieldR, zqp_s, zqr_s, zqw_s, eX7_undo_20, eX7_undo_21, zF_7_13, eX7_undo_24, eX7_undo_25, eX7_undo_28, q_sipush, eX7_undo_31, q_imul, eX7_undo_32, eX7_undo_33, zF_7_7, eX7_undo_36, eX7_undo_37, q_invs, zqst_s, zqst_c, zqcp_s, zqc_s, zC_7_50, o_X7_moves, zqcs_4, eX7_undo_40, eX7_undo_41, eX7_undo_44, ho, rr, f0, r1, r2]
    have w0 := mOb.rr ho' ((A.2.2.1.1 - 1 : Nat) : Int) (A.2.1.1 : Int) pt mn ln om ol
    rw [show (A.2.2.1.1 : Int) - 1 = ((A.2.2.1.1 - 1 : Nat) : Int) by omega]
    rw [show ((A.2.2.1.1 - 1 : Nat) : Int) * 336 = ((336 * (A.2.2.1.1 - 1) : Nat) : Int) by omega]
    have fr : ∀ c q, q ≠ m → zup M m c q = M q := fun c q h => zup_ne h
    refine c_moves (t := 0) ((fr _ _ (by omega)).trans h3) ((fr _ _ (by omega)).trans h1) (by omega) (by omega) (by omega) (by omega) (by omega) (fun M2 q1 q2 => ?_)
    have w1 : mOb M2 m _ _ _ _ _ _ _ := (q2 m (by omega)).trans w0
    have n1 : M2 m = _ := w1
    unfold mOb at n1
    refine zgo [] ?_
    simp only [↓zX_succ, ↓zstp_nil, ↓zstp_cons, ↓reduceIte, zpu_some, zpu_none, zcs, zg, zst, Nat.reduceAdd, Nat.reduceSub, Nat.reduceMul, Nat.reduceEqDiff, Nat.reduceLeDiff, Nat.reduceLT, Int.reduceToNat, Int.reduceAdd, Int.reduceSub, Int.reduceMul, Int.reduceNeg, Int.reduceLE, Int.reduceLT, Int.reduceEq, Int.cast_ofNat_Int, Int.reduceNatCast', true_and, and_true, and_self, Nat.le_refl, Nat.add_zero, Nat.zero_add, Nat.zero_le, Nat.not_lt_zero, or_true, true_or, or_false, false_or, not_true_eq_false, not_false_eq_true, forall_const, true_implies, false_implies, implies_true, zup_same, zup_zup, Int.toNat_natCast, Nat.reduceDiv, List.length_cons, List.length_nil, Nat.succ_ne_zero, ne_eq, reduceCtorEq, zRl_m6, zRl_m5, zRl_m4, zRl_m3, zRl_m2, zRl_m1, zRl_0, zRl_1, zRl_2, zRl_3, zRl_4, zRl_5, zRl_6, zRl_7, zRl_8, zRl_12, zRl_31, zRl_32, zRl_33, zRl_59, zRl_60, zRl_64, zRl_67, zRl_97, zRl_122, zRl_124, zRl_126, zRl_128, zRl_336, zRl_672, zRl_1680, zRl_2016, zRl_7680, o_X7_undo, r_X7_undo, eX7_undo_0, q_aload_0, eX7_undo_1, q_getfield, zqg_s, zqv_s, zF_7_46, eX7_undo_4, q_if_ne, eX7_undo_7, q_bipush, eX7_undo_9, q_ireturn, zqi_i, zqi_z, eX7_undo_10, eX7_undo_11, q_dup_i, q_dup_a, eX7_undo_12, eX7_undo_15, q_iconst, eX7_undo_16, q_isub, eX7_undo_17, q_putfield, q_putfieldR, zqp_s, zqr_s, zqw_s, eX7_undo_20, eX7_undo_21, zF_7_13, eX7_undo_24, eX7_undo_25, eX7_undo_28, q_sipush, eX7_undo_31, q_imul, eX7_undo_32, eX7_undo_33, zF_7_7, eX7_undo_36, eX7_undo_37, q_invs, zqst_s, zqst_c, zqcp_s, zqc_s, zC_7_50, o_X7_moves, zqcs_4, eX7_undo_40, eX7_undo_41, eX7_undo_44, n1]
    have fr2 : ∀ q, q ≠ m → q ≠ m + 1 → M2 q = M q := fun q a1 a2 => by rw [q2 q (by omega), fr _ _ a1]
    refine hQ M2 ⟨⟨_, _, _, _, _, w1⟩, ⟨⟨_, q1, ?_⟩, ⟨G, (fr2 _ (by omega) (by omega)).trans h3, fun i hi => h4 i (by dsimp only at hi; omega)⟩, ⟨L, (fr2 _ (by omega) (by omega)).trans h5, h6⟩, ⟨V, (fr2 _ (by omega) (by omega)).trans h7, h8⟩, P, (fr2 _ (by omega) (by omega)).trans h9, h10⟩, ?_⟩ (fun q hq => fr2 q (by omega) (by omega))
    · refine (h4 (A.2.2.1.1 - 1) (by omega)).cg (hw.2.2.1.2 _ (by omega)) (fun j hj => ?_)
      rw [zcp, if_pos (by omega), Nat.zero_add, Nat.sub_zero]
    · exact hk.fw (fun q a1 a2 => fr2 q (by omega) (by omega))
theorem m_save {k : Int} (hd : mdG M m A) (hw : wfA A) (hr : zRr k) : zMb lo (d + 8) kX7_save m [(Sum.inl (k))] M (oSave A k) := by
  intro Q hQ
  obtain ⟨⟨pt, mn, ln, om, ol, ho⟩, hps, hk⟩ := id hd
  have ho' := ho
  unfold mOb at ho
  obtain ⟨⟨S, h1, h2⟩, ⟨G, h3, h4⟩, ⟨L, h5, h6⟩, ⟨V, h7, h8⟩, P, h9, h10⟩ := id hps
  rw [oSave] at hQ
  refine zct [some (Sum.inr (Sum.inl (some (m)))), some (Sum.inl (k))] rfl (Nat.le_of_ble_eq_true rfl) (by decide +kernel) rfl ?_
  refine zgo [] ?_
  simp only [↓zX_succ, ↓zstp_nil, ↓zstp_cons, ↓reduceIte, zpu_some, zpu_none, zcs, zg, zst, Nat.reduceAdd, Nat.reduceSub, Nat.reduceMul, Nat.reduceEqDiff, Nat.reduceLeDiff, Nat.reduceLT, Int.reduceToNat, Int.reduceAdd, Int.reduceSub, Int.reduceMul, Int.reduceNeg, Int.reduceLE, Int.reduceLT, Int.reduceEq, Int.cast_ofNat_Int, Int.reduceNatCast', true_and, and_true, and_self, Nat.le_refl, Nat.add_zero, Nat.zero_add, Nat.zero_le, Nat.not_lt_zero, or_true, true_or, or_false, false_or, not_true_eq_false, not_false_eq_true, forall_const, true_implies, false_implies, implies_true, zup_same, zup_zup, Int.toNat_natCast, Nat.reduceDiv, List.length_cons, List.length_nil, Nat.succ_ne_zero, ne_eq, reduceCtorEq, zRl_m6, zRl_m5, zRl_m4, zRl_m3, zRl_m2, zRl_m1, zRl_0, zRl_1, zRl_2, zRl_3, zRl_4, zRl_5, zRl_6, zRl_7, zRl_8, zRl_12, zRl_31, zRl_32, zRl_33, zRl_59, zRl_60, zRl_64, zRl_67, zRl_97, zRl_122, zRl_124, zRl_126, zRl_128, zRl_336, zRl_672, zRl_1680, zRl_2016, zRl_7680, o_X7_save, r_X7_save, eX7_save_0, q_iload_1, eX7_save_1, q_iconst, eX7_save_2, eX7_save_3, q_invs, zqst_s, zqst_c, zqcp_s, zqc_s, zC_7_54, o_X7_within, zqcs_3, eX7_save_6, q_if_ne, eX7_save_9, q_bipush, eX7_save_11, q_ireturn, zqi_i, zqi_z, eX7_save_12, q_aload_0, eX7_save_13, q_getfield, zqg_s, zqv_s, zF_7_7, eX7_save_16, eX7_save_17, eX7_save_18, zF_7_16, eX7_save_21, q_sipush, eX7_save_24, eX7_save_25, q_imul, eX7_save_26, zC_7_50, o_X7_moves, zqcs_4, eX7_save_29, eX7_save_30, zF_7_19, eX7_save_33, eX7_save_34, eX7_save_35, q_iastore, zqas_s, eX7_save_36, eX7_save_37, eX7_save_40, eX7_save_41, q_iaload, zqal_s, eX7_save_42, ho]
  refine c_within hr (zrr (by decide) (by decide)) (zrr (by decide) (by decide)) (fun c => ?_) (fun c => ?_)
  rotate_left
  · rw [if_neg (by omega)] at hQ
    refine zgo [] ?_
    simp only [↓zX_succ, ↓zstp_nil, ↓zstp_cons, ↓reduceIte, zpu_some, zpu_none, zcs, zg, zst, Nat.reduceAdd, Nat.reduceSub, Nat.reduceMul, Nat.reduceEqDiff, Nat.reduceLeDiff, Nat.reduceLT, Int.reduceToNat, Int.reduceAdd, Int.reduceSub, Int.reduceMul, Int.reduceNeg, Int.reduceLE, Int.reduceLT, Int.reduceEq, Int.cast_ofNat_Int, Int.reduceNatCast', true_and, and_true, and_self, Nat.le_refl, Nat.add_zero, Nat.zero_add, Nat.zero_le, Nat.not_lt_zero, or_true, true_or, or_false, false_or, not_true_eq_false, not_false_eq_true, forall_const, true_implies, false_implies, implies_true, zup_same, zup_zup, Int.toNat_natCast, Nat.reduceDiv, List.length_cons, List.length_nil, Nat.succ_ne_zero, ne_eq, reduceCtorEq, zRl_m6, zRl_m5, zRl_m4, zRl_m3, zRl_m2, zRl_m1, zRl_0, zRl_1, zRl_2, zRl_3, zRl_4, zRl_5, zRl_6, zRl_7, zRl_8, zRl_12, zRl_31, zRl_32, zRl_33, zRl_59, zRl_60, zRl_64, zRl_67, zRl_97, zRl_122, zRl_124, zRl_126, zRl_128, zRl_336, zRl_672, zRl_1680, zRl_2016, zRl_7680, o_X7_save, r_X7_save, eX7_save_0, q_iload_1, eX7_save_1, q_iconst, eX7_save_2, eX7_save_3, q_invs, zqst_s, zqst_c, zqcp_s, zqc_s, zC_7_54, o_X7_within, zqcs_3, eX7_save_6, q_if_ne, eX7_save_9, q_bipush, eX7_save_11, q_ireturn, zqi_i, zqi_z, eX7_save_12, q_aload_0, eX7_save_13, q_getfield, zqg_s, zqv_s, zF_7_7, eX7_save_16, eX7_save_17, eX7_save_18, zF_7_16, eX7_save_21, q_sipush, eX7_save_24, eX7_save_25, q_imul, eX7_save_26, zC_7_50, o_X7_moves, zqcs_4, eX7_save_29, eX7_save_30, zF_7_19, eX7_save_33, eX7_save_34, eX7_save_35, q_iastore, zqas_s, eX7_save_36, eX7_save_37, eX7_save_40, eX7_save_41, q_iaload, zqal_s, eX7_save_42]
    exact hQ M hd zfr_rf
  rw [if_pos (by omega)] at hQ
  obtain ⟨i, rfl⟩ : ∃ i : Nat, k = (i : Int) := ⟨k.toNat, by omega⟩
  rw [Int.toNat_natCast] at hQ
  have r2 : zRr (336 * (i : Int)) := zrr (by omega) (by omega)
  refine zgo [] ?_
  simp only [↓zX_succ, ↓zstp_nil, ↓zstp_cons, ↓reduceIte, zpu_some, zpu_none, zcs, zg, zst, Nat.reduceAdd, Nat.reduceSub, Nat.reduceMul, Nat.reduceEqDiff, Nat.reduceLeDiff, Nat.reduceLT, Int.reduceToNat, Int.reduceAdd, Int.reduceSub, Int.reduceMul, Int.reduceNeg, Int.reduceLE, Int.reduceLT, Int.reduceEq, Int.cast_ofNat_Int, Int.reduceNatCast', true_and, and_true, and_self, Nat.le_refl, Nat.add_zero, Nat.zero_add, Nat.zero_le, Nat.not_lt_zero, or_true, true_or, or_false, false_or, not_true_eq_false, not_false_eq_true, forall_const, true_implies, false_implies, implies_true, zup_same, zup_zup, Int.toNat_natCast, Nat.reduceDiv, List.length_cons, List.length_nil, Nat.succ_ne_zero, ne_eq, reduceCtorEq, zRl_m6, zRl_m5, zRl_m4, zRl_m3, zRl_m2, zRl_m1, zRl_0, zRl_1, zRl_2, zRl_3, zRl_4, zRl_5, zRl_6, zRl_7, zRl_8, zRl_12, zRl_31, zRl_32, zRl_33, zRl_59, zRl_60, zRl_64, zRl_67, zRl_97, zRl_122, zRl_124, zRl_126, zRl_128, zRl_336, zRl_672, zRl_1680, zRl_2016, zRl_7680, o_X7_save, r_X7_save, eX7_save_0, q_iload_1, eX7_save_1, q_iconst, eX7_save_2, eX7_save_3, q_invs, zqst_s, zqst_c, zqcp_s, zqc_s, zC_7_54, o_X7_within, zqcs_3, eX7_save_6, q_if_ne, eX7_save_9, q_bipush, eX7_save_11, q_ireturn, zqi_i, zqi_z, eX7_save_12, q_aload_0, eX7_save_13, q_getfield, zqg_s, zqv_s, zF_7_7, eX7_save_16, eX7_save_17, eX7_save_18, zF_7_16, eX7_save_21, q_sipush, eX7_save_24, eX7_save_25, q_imul, eX7_save_26, zC_7_50, o_X7_moves, zqcs_4, eX7_save_29, eX7_save_30, zF_7_19, eX7_save_33, eX7_save_34, eX7_save_35, q_iastore, zqas_s, eX7_save_36, eX7_save_37, eX7_save_40, eX7_save_41, q_iaload, zqal_s, eX7_save_42, ho, r2]
  rw [show (336 : Int) * (i : Int) = ((336 * i : Nat) : Int) by omega]
  refine c_moves (f := 0) h1 h5 (by omega) (by omega) (by omega) (by omega) (by omega) (fun M2 q1 q2 => ?_)
  have w1 : mOb M2 m _ _ _ _ _ _ _ := (q2 m (by omega)).trans ho'
  have n1 : M2 m = _ := w1
  unfold mOb at n1
  have s1 : M2 (m + 1) = _ := (q2 _ (by omega)).trans h1
  have s4 : M2 (m + 4) = _ := (q2 _ (by omega)).trans h7
  have e0 := h2.1
  have d1 : ∀ c, zup M2 (m + 4) c m = M2 m := fun c => zup_ne (by omega)
  have d2 : ∀ c, zup M2 (m + 4) c (m + 1) = M2 (m + 1) := fun c => zup_ne (by omega)
  refine zgo [] ?_
  simp only [↓zX_succ, ↓zstp_nil, ↓zstp_cons, ↓reduceIte, zpu_some, zpu_none, zcs, zg, zst, Nat.reduceAdd, Nat.reduceSub, Nat.reduceMul, Nat.reduceEqDiff, Nat.reduceLeDiff, Nat.reduceLT, Int.reduceToNat, Int.reduceAdd, Int.reduceSub, Int.reduceMul, Int.reduceNeg, Int.reduceLE, Int.reduceLT, Int.reduceEq, Int.cast_ofNat_Int, Int.reduceNatCast', true_and, and_true, and_self, Nat.le_refl, Nat.add_zero, Nat.zero_add, Nat.zero_le, Nat.not_lt_zero, or_true, true_or, or_false, false_or, not_true_eq_false, not_false_eq_true, forall_const, true_implies, false_implies, implies_true, zup_same, zup_zup, Int.toNat_natCast, Nat.reduceDiv, List.length_cons, List.length_nil, Nat.succ_ne_zero, ne_eq, reduceCtorEq, zRl_m6, zRl_m5, zRl_m4, zRl_m3, zRl_m2, zRl_m1, zRl_0, zRl_1, zRl_2, zRl_3, zRl_4, zRl_5, zRl_6, zRl_7, zRl_8, zRl_12, zRl_31, zRl_32, zRl_33, zRl_59, zRl_60, zRl_64, zRl_67, zRl_97, zRl_122, zRl_124, zRl_126, zRl_128, zRl_336, zRl_672, zRl_1680, zRl_2016, zRl_7680, o_X7_save, r_X7_save, eX7_save_0, q_iload_1, eX7_save_1, q_iconst, eX7_save_2, eX7_save_3, q_invs, zqst_s, zqst_c, zqcp_s, zqc_s, zC_7_54, o_X7_within, zqcs_3, eX7_save_6, q_if_ne, eX7_save_9, q_bipush, eX7_save_11, q_ireturn, zqi_i, zqi_z, eX7_save_12, q_aload_0, eX7_save_13, q_getfield, zqg_s, zqv_s, zF_7_7, eX7_save_16, eX7_save_17, eX7_save_18, zF_7_16, eX7_save_21, q_sipush, eX7_save_24, eX7_save_25, q_imul, eX7_save_26, zC_7_50, o_X7_moves, zqcs_4, eX7_save_29, eX7_save_30, zF_7_19, eX7_save_33, eX7_save_34, eX7_save_35, q_iastore, zqas_s, eX7_save_36, eX7_save_37, eX7_save_40, eX7_save_41, q_iaload, zqal_s, eX7_save_42, n1, s4, s1, d1, d2, e0]
  refine ⟨by omega, by omega, ?_⟩
  have fr : ∀ c q, q ≠ m + 3 → q ≠ m + 4 → zup M2 (m + 4) c q = M q := fun c q a1 a2 => by rw [zup_ne a2, q2 q (by omega)]
  have h2sl := hw.2.2.2
  refine hQ _ ⟨⟨_, _, _, _, _, (d1 _).trans w1⟩, ⟨⟨S, (d2 _).trans s1, h2⟩, ⟨G, (fr _ _ (by omega) (by omega)).trans h3, h4⟩, ⟨_, (zup_ne (by omega)).trans q1, fun j hj hv => ?_⟩, ⟨_, zup_same, ?_, ?_⟩, P, (fr _ _ (by omega) (by omega)).trans h9, h10⟩, ?_⟩ (fun q hq => fr _ q (by omega) (by omega))
  · dsimp only at hv ⊢
    by_cases c1 : j = i
    · subst c1
      rw [zu_same]
      refine h2.cg hw.1 (fun j' hj' => ?_)
      rw [zcp, if_pos (by omega), Nat.add_sub_cancel_left]
    · rw [zu_ne c1] at hv ⊢
      refine (h6 j hj hv).cg ?_ (fun j' hj' => ?_)
      · rcases h2sl j hj with z | z
        · rw [z] at hv; omega
        · exact z.2
      · rw [zcp, if_neg (by omega)]
  · dsimp only
    by_cases c1 : 0 = i
    · subst c1; rw [zu_same, zu_same]
    · rw [zu_ne c1, zu_ne c1]; exact h8.1
  · dsimp only
    by_cases c1 : 1 = i
    · subst c1; rw [zu_same, zu_same]
    · rw [zu_ne c1, zu_ne c1]; exact h8.2
  · have hk2 : mWk M2 m := hk.fr q2 (by omega)
    exact hk2.fr (l := m + 4) (h := m + 5) (fun q hq => zup_ne (by omega)) (by omega)
theorem m_restore {k : Int} (hd : mdG M m A) (hw : wfA A) (hr : zRr k) : zMb lo (d + 8) kX7_restore m [(Sum.inl (k))] M (oRestore A k) := by
  intro Q hQ
  obtain ⟨⟨pt, mn, ln, om, ol, ho⟩, hps, hk⟩ := id hd
  have ho' := ho
  unfold mOb at ho
  obtain ⟨⟨S, h1, h2⟩, ⟨G, h3, h4⟩, ⟨L, h5, h6⟩, ⟨V, h7, h8⟩, P, h9, h10⟩ := id hps
  rw [oRestore] at hQ
  refine zct [some (Sum.inr (Sum.inl (some (m)))), some (Sum.inl (k))] rfl (Nat.le_of_ble_eq_true rfl) (by decide +kernel) rfl ?_
  refine zgo [] ?_
  simp only [↓zX_succ, ↓zstp_nil, ↓zstp_cons, ↓reduceIte, zpu_some, zpu_none, zcs, zg, zst, Nat.reduceAdd, Nat.reduceSub, Nat.reduceMul, Nat.reduceEqDiff, Nat.reduceLeDiff, Nat.reduceLT, Int.reduceToNat, Int.reduceAdd, Int.reduceSub, Int.reduceMul, Int.reduceNeg, Int.reduceLE, Int.reduceLT, Int.reduceEq, Int.cast_ofNat_Int, Int.reduceNatCast', true_and, and_true, and_self, Nat.le_refl, Nat.add_zero, Nat.zero_add, Nat.zero_le, Nat.not_lt_zero, or_true, true_or, or_false, false_or, not_true_eq_false, not_false_eq_true, forall_const, true_implies, false_implies, implies_true, zup_same, zup_zup, Int.toNat_natCast, Nat.reduceDiv, List.length_cons, List.length_nil, Nat.succ_ne_zero, ne_eq, reduceCtorEq, zRl_m6, zRl_m5, zRl_m4, zRl_m3, zRl_m2, zRl_m1, zRl_0, zRl_1, zRl_2, zRl_3, zRl_4, zRl_5, zRl_6, zRl_7, zRl_8, zRl_12, zRl_31, zRl_32, zRl_33, zRl_59, zRl_60, zRl_64, zRl_67, zRl_97, zRl_122, zRl_124, zRl_126, zRl_128, zRl_336, zRl_672, zRl_1680, zRl_2016, zRl_7680, o_X7_restore, r_X7_restore, eX7_restore_0, q_iload_1, eX7_restore_1, q_iconst, eX7_restore_2, eX7_restore_3, q_invs, zqst_s, zqst_c, zqcp_s, zqc_s, zC_7_54, o_X7_within, zqcs_3, eX7_restore_6, q_if_ne, eX7_restore_9, q_bipush, eX7_restore_11, q_ireturn, zqi_i, zqi_z, eX7_restore_12, q_aload_0, eX7_restore_13, q_getfield, zqg_s, zqv_s, zF_7_19, eX7_restore_16, eX7_restore_17, q_iaload, zqal_s, eX7_restore_18, eX7_restore_21, eX7_restore_23, eX7_restore_24, eX7_restore_25, q_invv, zqo_s, zC_7_118, o_X7_record, zqcv_0, eX7_restore_28, eX7_restore_29, zF_7_16, eX7_restore_32, q_sipush, eX7_restore_35, eX7_restore_36, q_imul, eX7_restore_37, eX7_restore_38, zF_7_7, eX7_restore_41, eX7_restore_42, zC_7_50, o_X7_moves, zqcs_4, eX7_restore_45, eX7_restore_46, eX7_restore_49, eX7_restore_50, eX7_restore_51, ho]
  refine c_within hr (zrr (by decide) (by decide)) (zrr (by decide) (by decide)) (fun c => ?_) (fun c => ?_)
  rotate_left
  · rw [if_neg (by omega)] at hQ
    refine zgo [] ?_
    simp only [↓zX_succ, ↓zstp_nil, ↓zstp_cons, ↓reduceIte, zpu_some, zpu_none, zcs, zg, zst, Nat.reduceAdd, Nat.reduceSub, Nat.reduceMul, Nat.reduceEqDiff, Nat.reduceLeDiff, Nat.reduceLT, Int.reduceToNat, Int.reduceAdd, Int.reduceSub, Int.reduceMul, Int.reduceNeg, Int.reduceLE, Int.reduceLT, Int.reduceEq, Int.cast_ofNat_Int, Int.reduceNatCast', true_and, and_true, and_self, Nat.le_refl, Nat.add_zero, Nat.zero_add, Nat.zero_le, Nat.not_lt_zero, or_true, true_or, or_false, false_or, not_true_eq_false, not_false_eq_true, forall_const, true_implies, false_implies, implies_true, zup_same, zup_zup, Int.toNat_natCast, Nat.reduceDiv, List.length_cons, List.length_nil, Nat.succ_ne_zero, ne_eq, reduceCtorEq, zRl_m6, zRl_m5, zRl_m4, zRl_m3, zRl_m2, zRl_m1, zRl_0, zRl_1, zRl_2, zRl_3, zRl_4, zRl_5, zRl_6, zRl_7, zRl_8, zRl_12, zRl_31, zRl_32, zRl_33, zRl_59, zRl_60, zRl_64, zRl_67, zRl_97, zRl_122, zRl_124, zRl_126, zRl_128, zRl_336, zRl_672, zRl_1680, zRl_2016, zRl_7680, o_X7_restore, r_X7_restore, eX7_restore_0, q_iload_1, eX7_restore_1, q_iconst, eX7_restore_2, eX7_restore_3, q_invs, zqst_s, zqst_c, zqcp_s, zqc_s, zC_7_54, o_X7_within, zqcs_3, eX7_restore_6, q_if_ne, eX7_restore_9, q_bipush, eX7_restore_11, q_ireturn, zqi_i, zqi_z, eX7_restore_12, q_aload_0, eX7_restore_13, q_getfield, zqg_s, zqv_s, zF_7_19, eX7_restore_16, eX7_restore_17, q_iaload, zqal_s, eX7_restore_18, eX7_restore_21, eX7_restore_23, eX7_restore_24, eX7_restore_25, q_invv, zqo_s, zC_7_118, o_X7_record, zqcv_0, eX7_restore_28, eX7_restore_29, zF_7_16, eX7_restore_32, q_sipush, eX7_restore_35, eX7_restore_36, q_imul, eX7_restore_37, eX7_restore_38, zF_7_7, eX7_restore_41, eX7_restore_42, zC_7_50, o_X7_moves, zqcs_4, eX7_restore_45, eX7_restore_46, eX7_restore_49, eX7_restore_50, eX7_restore_51]
    exact hQ M hd zfr_rf
  rw [if_pos (by omega)] at hQ
  obtain ⟨i, rfl⟩ : ∃ i : Nat, k = (i : Int) := ⟨k.toNat, by omega⟩
  rw [Int.toNat_natCast] at hQ
  have ev : V i = A.2.2.2.2 i := by
    have hc : i = 0 ∨ i = 1 := by omega
    rcases hc with rfl | rfl
    · exact h8.1
    · exact h8.2
  have h2sl := hw.2.2.2 i (by omega)
  have rv : zRr (A.2.2.2.2 i) := by rcases h2sl with z | z <;> exact zrr (by omega) (by omega)
  by_cases c0 : A.2.2.2.2 i = 0
  · rw [if_pos c0] at hQ
    have f0 : (A.2.2.2.2 i = 0) = True := eq_true c0
    refine zgo [] ?_
    simp only [↓zX_succ, ↓zstp_nil, ↓zstp_cons, ↓reduceIte, zpu_some, zpu_none, zcs, zg, zst, Nat.reduceAdd, Nat.reduceSub, Nat.reduceMul, Nat.reduceEqDiff, Nat.reduceLeDiff, Nat.reduceLT, Int.reduceToNat, Int.reduceAdd, Int.reduceSub, Int.reduceMul, Int.reduceNeg, Int.reduceLE, Int.reduceLT, Int.reduceEq, Int.cast_ofNat_Int, Int.reduceNatCast', true_and, and_true, and_self, Nat.le_refl, Nat.add_zero, Nat.zero_add, Nat.zero_le, Nat.not_lt_zero, or_true, true_or, or_false, false_or, not_true_eq_false, not_false_eq_true, forall_const, true_implies, false_implies, implies_true, zup_same, zup_zup, Int.toNat_natCast, Nat.reduceDiv, List.length_cons, List.length_nil, Nat.succ_ne_zero, ne_eq, reduceCtorEq, zRl_m6, zRl_m5, zRl_m4, zRl_m3, zRl_m2, zRl_m1, zRl_0, zRl_1, zRl_2, zRl_3, zRl_4, zRl_5, zRl_6, zRl_7, zRl_8, zRl_12, zRl_31, zRl_32, zRl_33, zRl_59, zRl_60, zRl_64, zRl_67, zRl_97, zRl_122, zRl_124, zRl_126, zRl_128, zRl_336, zRl_672, zRl_1680, zRl_2016, zRl_7680, o_X7_restore, r_X7_restore, eX7_restore_0, q_iload_1, eX7_restore_1, q_iconst, eX7_restore_2, eX7_restore_3, q_invs, zqst_s, zqst_c, zqcp_s, zqc_s, zC_7_54, o_X7_within, zqcs_3, eX7_restore_6, q_if_ne, eX7_restore_9, q_bipush, eX7_restore_11, q_ireturn, zqi_i, zqi_z, eX7_restore_12, q_aload_0, eX7_restore_13, q_getfield, zqg_s, zqv_s, zF_7_19, eX7_restore_16, eX7_restore_17, q_iaload, zqal_s, eX7_restore_18, eX7_restore_21, eX7_restore_23, eX7_restore_24, eX7_restore_25, q_invv, zqo_s, zC_7_118, o_X7_record, zqcv_0, eX7_restore_28, eX7_restore_29, zF_7_16, eX7_restore_32, q_sipush, eX7_restore_35, eX7_restore_36, q_imul, eX7_restore_37, eX7_restore_38, zF_7_7, eX7_restore_41, eX7_restore_42, zC_7_50, o_X7_moves, zqcs_4, eX7_restore_45, eX7_restore_46, eX7_restore_49, eX7_restore_50, eX7_restore_51, ho, h7, ev, rv, f0]
    exact ⟨by omega, by omega, hQ M hd zfr_rf⟩
  · rw [if_neg c0] at hQ
    have f0 : (A.2.2.2.2 i = 0) = False := eq_false c0
    refine zgo [] ?_
    simp only [↓zX_succ, ↓zstp_nil, ↓zstp_cons, ↓reduceIte, zpu_some, zpu_none, zcs, zg, zst, Nat.reduceAdd, Nat.reduceSub, Nat.reduceMul, Nat.reduceEqDiff, Nat.reduceLeDiff, Nat.reduceLT, Int.reduceToNat, Int.reduceAdd, Int.reduceSub, Int.reduceMul, Int.reduceNeg, Int.reduceLE, Int.reduceLT, Int.reduceEq, Int.cast_ofNat_Int, Int.reduceNatCast', true_and, and_true, and_self, Nat.le_refl, Nat.add_zero, Nat.zero_add, Nat.zero_le, Nat.not_lt_zero, or_true, true_or, or_false, false_or, not_true_eq_false, not_false_eq_true, forall_const, true_implies, false_implies, implies_true, zup_same, zup_zup, Int.toNat_natCast, Nat.reduceDiv, List.length_cons, List.length_nil, Nat.succ_ne_zero, ne_eq, reduceCtorEq, zRl_m6, zRl_m5, zRl_m4, zRl_m3, zRl_m2, zRl_m1, zRl_0, zRl_1, zRl_2, zRl_3, zRl_4, zRl_5, zRl_6, zRl_7, zRl_8, zRl_12, zRl_31, zRl_32, zRl_33, zRl_59, zRl_60, zRl_64, zRl_67, zRl_97, zRl_122, zRl_124, zRl_126, zRl_128, zRl_336, zRl_672, zRl_1680, zRl_2016, zRl_7680, o_X7_restore, r_X7_restore, eX7_restore_0, q_iload_1, eX7_restore_1, q_iconst, eX7_restore_2, eX7_restore_3, q_invs, zqst_s, zqst_c, zqcp_s, zqc_s, zC_7_54, o_X7_within, zqcs_3, eX7_restore_6, q_if_ne, eX7_restore_9, q_bipush, eX7_restore_11, q_ireturn, zqi_i, zqi_z, eX7_restore_12, q_aload_0, eX7_restore_13, q_getfield, zqg_s, zqv_s, zF_7_19, eX7_restore_16, eX7_restore_17, q_iaload, zqal_s, eX7_restore_18, eX7_restore_21, eX7_restore_23, eX7_restore_24, eX7_restore_25, q_invv, zqo_s, zC_7_118, o_X7_record, zqcv_0, eX7_restore_28, eX7_restore_29, zF_7_16, eX7_restore_32, q_sipush, eX7_restore_35, eX7_restore_36, q_imul, eX7_restore_37, eX7_restore_38, zF_7_7, eX7_restore_41, eX7_restore_42, zC_7_50, o_X7_moves, zqcs_4, eX7_restore_45, eX7_restore_46, eX7_restore_49, eX7_restore_50, eX7_restore_51, ho, h7, ev, rv, f0]
    refine ⟨by omega, by omega, ?_⟩
    refine c_mrecord ho' hps hw (fun M2 a1 a2 a3 => ?_)
    have n0 : M2 m = _ := a1
    unfold mOb at n0
    have r2 : zRr (336 * (i : Int)) := zrr (by omega) (by omega)
    refine zgo [] ?_
    simp only [↓zX_succ, ↓zstp_nil, ↓zstp_cons, ↓reduceIte, zpu_some, zpu_none, zcs, zg, zst, Nat.reduceAdd, Nat.reduceSub, Nat.reduceMul, Nat.reduceEqDiff, Nat.reduceLeDiff, Nat.reduceLT, Int.reduceToNat, Int.reduceAdd, Int.reduceSub, Int.reduceMul, Int.reduceNeg, Int.reduceLE, Int.reduceLT, Int.reduceEq, Int.cast_ofNat_Int, Int.reduceNatCast', true_and, and_true, and_self, Nat.le_refl, Nat.add_zero, Nat.zero_add, Nat.zero_le, Nat.not_lt_zero, or_true, true_or, or_false, false_or, not_true_eq_false, not_false_eq_true, forall_const, true_implies, false_implies, implies_true, zup_same, zup_zup, Int.toNat_natCast, Nat.reduceDiv, List.length_cons, List.length_nil, Nat.succ_ne_zero, ne_eq, reduceCtorEq, zRl_m6, zRl_m5, zRl_m4, zRl_m3, zRl_m2, zRl_m1, zRl_0, zRl_1, zRl_2, zRl_3, zRl_4, zRl_5, zRl_6, zRl_7, zRl_8, zRl_12, zRl_31, zRl_32, zRl_33, zRl_59, zRl_60, zRl_64, zRl_67, zRl_97, zRl_122, zRl_124, zRl_126, zRl_128, zRl_336, zRl_672, zRl_1680, zRl_2016, zRl_7680, o_X7_restore, r_X7_restore, eX7_restore_0, q_iload_1, eX7_restore_1, q_iconst, eX7_restore_2, eX7_restore_3, q_invs, zqst_s, zqst_c, zqcp_s, zqc_s, zC_7_54, o_X7_within, zqcs_3, eX7_restore_6, q_if_ne, eX7_restore_9, q_bipush, eX7_restore_11, q_ireturn, zqi_i, zqi_z, eX7_restore_12, q_aload_0, eX7_restore_13, q_getfield, zqg_s, zqv_s, zF_7_19, eX7_restore_16, eX7_restore_17, q_iaload, zqal_s, eX7_restore_18, eX7_restore_21, eX7_restore_23, eX7_restore_24, eX7_restore_25, q_invv, zqo_s, zC_7_118, o_X7_record, zqcv_0, eX7_restore_28, eX7_restore_29, zF_7_16, eX7_restore_32, q_sipush, eX7_restore_35, eX7_restore_36, q_imul, eX7_restore_37, eX7_restore_38, zF_7_7, eX7_restore_41, eX7_restore_42, zC_7_50, o_X7_moves, zqcs_4, eX7_restore_45, eX7_restore_46, eX7_restore_49, eX7_restore_50, eX7_restore_51, n0, r2]
    rw [show (336 : Int) * (i : Int) = ((336 * i : Nat) : Int) by omega]
    refine c_moves (t := 0) ((a3 _ (by omega) (by omega)).trans h5) ((a3 _ (by omega) (by omega)).trans h1) (by omega) (by omega) (by omega) (by omega) (by omega) (fun M3 q1 q2 => ?_)
    have w1 : mOb M3 m _ _ _ _ _ _ _ := (q2 m (by omega)).trans a1
    have n1 : M3 m = _ := w1
    unfold mOb at n1
    have h1v : A.2.2.2.2 i = 1 ∧ wfH (A.2.2.2.1 i) := by
      rcases h2sl with z | z
      · exact absurd z c0
      · exact z
    have st : stI (zcp L S (336 * i) 0 336) 0 (A.2.2.2.1 i) := by
      refine (h6 i (by omega) h1v.1).cg h1v.2 (fun j hj => ?_)
      rw [zcp, if_pos (by omega), Nat.zero_add, Nat.sub_zero]
    have e0 := st.1
    refine zgo [] ?_
    simp only [↓zX_succ, ↓zstp_nil, ↓zstp_cons, ↓reduceIte, zpu_some, zpu_none, zcs, zg, zst, Nat.reduceAdd, Nat.reduceSub, Nat.reduceMul, Nat.reduceEqDiff, Nat.reduceLeDiff, Nat.reduceLT, Int.reduceToNat, Int.reduceAdd, Int.reduceSub, Int.reduceMul, Int.reduceNeg, Int.reduceLE, Int.reduceLT, Int.reduceEq, Int.cast_ofNat_Int, Int.reduceNatCast', true_and, and_true, and_self, Nat.le_refl, Nat.add_zero, Nat.zero_add, Nat.zero_le, Nat.not_lt_zero, or_true, true_or, or_false, false_or, not_true_eq_false, not_false_eq_true, forall_const, true_implies, false_implies, implies_true, zup_same, zup_zup, Int.toNat_natCast, Nat.reduceDiv, List.length_cons, List.length_nil, Nat.succ_ne_zero, ne_eq, reduceCtorEq, zRl_m6, zRl_m5, zRl_m4, zRl_m3, zRl_m2, zRl_m1, zRl_0, zRl_1, zRl_2, zRl_3, zRl_4, zRl_5, zRl_6, zRl_7, zRl_8, zRl_12, zRl_31, zRl_32, zRl_33, zRl_59, zRl_60, zRl_64, zRl_67, zRl_97, zRl_122, zRl_124, zRl_126, zRl_128, zRl_336, zRl_672, zRl_1680, zRl_2016, zRl_7680, o_X7_restore, r_X7_restore, eX7_restore_0, q_iload_1, eX7_restore_1, q_iconst, eX7_restore_2, eX7_restore_3, q_invs, zqst_s, zqst_c, zqcp_s, zqc_s, zC_7_54, o_X7_within, zqcs_3, eX7_restore_6, q_if_ne, eX7_restore_9, q_bipush, eX7_restore_11, q_ireturn, zqi_i, zqi_z, eX7_restore_12, q_aload_0, eX7_restore_13, q_getfield, zqg_s, zqv_s, zF_7_19, eX7_restore_16, eX7_restore_17, q_iaload, zqal_s, eX7_restore_18, eX7_restore_21, eX7_restore_23, eX7_restore_24, eX7_restore_25, q_invv, zqo_s, zC_7_118, o_X7_record, zqcv_0, eX7_restore_28, eX7_restore_29, zF_7_16, eX7_restore_32, q_sipush, eX7_restore_35, eX7_restore_36, q_imul, eX7_restore_37, eX7_restore_38, zF_7_7, eX7_restore_41, eX7_restore_42, zC_7_50, o_X7_moves, zqcs_4, eX7_restore_45, eX7_restore_46, eX7_restore_49, eX7_restore_50, eX7_restore_51, n1, q1, e0]
    exact hQ M3 ⟨⟨_, _, _, _, _, w1⟩, a2.st q1 st q2, (hk.rec a3).fr q2 (by omega)⟩ (fun q hq => by rw [q2 q (by omega), a3 q (by omega) (by omega)])
end MV
