section SL
variable {lo d x : Nat} {A : aS} {M : zM}
theorem p_wipe (hc : clG M x A) (hw : wfA A) : zPb lo (d + 12) kX6_wipe x [] M (oWipe A) := by
  intro Q hQ
  obtain ⟨hx, h2, h3, h4, h5⟩ := id hc
  have m0 := hx.1
  unfold xO at m0
  obtain ⟨hpn, C, m2, -, -⟩ := id h3
  refine zct [some (Sum.inr (Sum.inl (some (x)))), none] rfl (Nat.le_of_ble_eq_true rfl) (by decide +kernel) rfl ?_
  refine zgo [] ?_
  simp only [↓zX_succ, ↓zstp_nil, ↓zstp_cons, ↓reduceIte, zpu_some, zpu_none, zcs, zg, zst, Nat.reduceAdd, Nat.reduceSub, Nat.reduceMul, Nat.reduceEqDiff, Nat.reduceLeDiff, Nat.reduceLT, Int.reduceToNat, Int.reduceAdd, Int.reduceSub, Int.reduceMul, Int.reduceNeg, Int.reduceLE, Int.reduceLT, Int.reduceEq, Int.cast_ofNat_Int, Int.reduceNatCast', true_and, and_true, and_self, Nat.le_refl, Nat.add_zero, Nat.zero_add, Nat.zero_le, Nat.not_lt_zero, or_true, true_or, or_false, false_or, not_true_eq_false, not_false_eq_true, forall_const, true_implies, false_implies, implies_true, zup_same, zup_zup, Int.toNat_natCast, Nat.reduceDiv, List.length_cons, List.length_nil, Nat.succ_ne_zero, ne_eq, reduceCtorEq, zRl_m6, zRl_m5, zRl_m4, zRl_m3, zRl_m2, zRl_m1, zRl_0, zRl_1, zRl_2, zRl_3, zRl_4, zRl_5, zRl_6, zRl_7, zRl_8, zRl_12, zRl_31, zRl_32, zRl_33, zRl_59, zRl_60, zRl_64, zRl_67, zRl_97, zRl_122, zRl_124, zRl_126, zRl_128, zRl_336, zRl_672, zRl_1680, zRl_2016, zRl_7680, o_X6_wipe, r_X6_wipe, eX6_wipe_0, q_aload_0, eX6_wipe_1, q_getfield, zqg_s, zqv_s, zF_6_19, eX6_wipe_4, zF_6_179, eX6_wipe_7, q_istore_1n, q_istore_1i, q_istore_1a, eX6_wipe_8, eX6_wipe_9, eX6_wipe_12, q_invv, zqo_s, zqc_s, zC_6_74, o_X2_empty, zqcv_0, eX6_wipe_15, q_iload_1, eX6_wipe_16, q_ireturn, zqi_i, zqi_z, m0, m2]
  refine c_padEmpty h3 (fun M2 q1 q2 => ?_)
  refine zgo [] ?_
  simp only [↓zX_succ, ↓zstp_nil, ↓zstp_cons, ↓reduceIte, zpu_some, zpu_none, zcs, zg, zst, Nat.reduceAdd, Nat.reduceSub, Nat.reduceMul, Nat.reduceEqDiff, Nat.reduceLeDiff, Nat.reduceLT, Int.reduceToNat, Int.reduceAdd, Int.reduceSub, Int.reduceMul, Int.reduceNeg, Int.reduceLE, Int.reduceLT, Int.reduceEq, Int.cast_ofNat_Int, Int.reduceNatCast', true_and, and_true, and_self, Nat.le_refl, Nat.add_zero, Nat.zero_add, Nat.zero_le, Nat.not_lt_zero, or_true, true_or, or_false, false_or, not_true_eq_false, not_false_eq_true, forall_const, true_implies, false_implies, implies_true, zup_same, zup_zup, Int.toNat_natCast, Nat.reduceDiv, List.length_cons, List.length_nil, Nat.succ_ne_zero, ne_eq, reduceCtorEq, zRl_m6, zRl_m5, zRl_m4, zRl_m3, zRl_m2, zRl_m1, zRl_0, zRl_1, zRl_2, zRl_3, zRl_4, zRl_5, zRl_6, zRl_7, zRl_8, zRl_12, zRl_31, zRl_32, zRl_33, zRl_59, zRl_60, zRl_64, zRl_67, zRl_97, zRl_122, zRl_124, zRl_126, zRl_128, zRl_336, zRl_672, zRl_1680, zRl_2016, zRl_7680, o_X6_wipe, r_X6_wipe, eX6_wipe_0, q_aload_0, eX6_wipe_1, q_getfield, zqg_s, zqv_s, zF_6_19, eX6_wipe_4, zF_6_179, eX6_wipe_7, q_istore_1n, q_istore_1i, q_istore_1a, eX6_wipe_8, eX6_wipe_9, eX6_wipe_12, q_invv, zqo_s, zqc_s, zC_6_74, o_X2_empty, zqcv_0, eX6_wipe_15, q_iload_1, eX6_wipe_16, q_ireturn, zqi_i, zqi_z]
  exact hQ M2 (hc.pad q1 q2) (q2.mono (by omega) (by omega))
theorem p_fault (hc : clG M x A) (hw : wfA A) : zPb lo (d + 12) kX6_fault x [] M (A, ff A.2.1.2 A.2.1.1) := by
  intro Q hQ
  obtain ⟨hx, h2, h3, h4, h5⟩ := id hc
  have m0 := hx.1
  unfold xO at m0
  obtain ⟨hpn, C, m2, -, -⟩ := id h3
  refine zct [some (Sum.inr (Sum.inl (some (x))))] rfl (Nat.le_of_ble_eq_true rfl) (by decide +kernel) rfl ?_
  refine zgo [] ?_
  simp only [↓zX_succ, ↓zstp_nil, ↓zstp_cons, ↓reduceIte, zpu_some, zpu_none, zcs, zg, zst, Nat.reduceAdd, Nat.reduceSub, Nat.reduceMul, Nat.reduceEqDiff, Nat.reduceLeDiff, Nat.reduceLT, Int.reduceToNat, Int.reduceAdd, Int.reduceSub, Int.reduceMul, Int.reduceNeg, Int.reduceLE, Int.reduceLT, Int.reduceEq, Int.cast_ofNat_Int, Int.reduceNatCast', true_and, and_true, and_self, Nat.le_refl, Nat.add_zero, Nat.zero_add, Nat.zero_le, Nat.not_lt_zero, or_true, true_or, or_false, false_or, not_true_eq_false, not_false_eq_true, forall_const, true_implies, false_implies, implies_true, zup_same, zup_zup, Int.toNat_natCast, Nat.reduceDiv, List.length_cons, List.length_nil, Nat.succ_ne_zero, ne_eq, reduceCtorEq, zRl_m6, zRl_m5, zRl_m4, zRl_m3, zRl_m2, zRl_m1, zRl_0, zRl_1, zRl_2, zRl_3, zRl_4, zRl_5, zRl_6, zRl_7, zRl_8, zRl_12, zRl_31, zRl_32, zRl_33, zRl_59, zRl_60, zRl_64, zRl_67, zRl_97, zRl_122, zRl_124, zRl_126, zRl_128, zRl_336, zRl_672, zRl_1680, zRl_2016, zRl_7680, o_X6_fault, r_X6_fault, eX6_fault_0, q_aload_0, eX6_fault_1, q_getfield, zqg_s, zqv_s, zF_6_19, eX6_fault_4, q_invv, zqo_s, zqc_s, zC_6_56, o_X2_firstFault, zqcv_0, eX6_fault_7, q_ireturn, zqi_i, zqi_z, m0, m2]
  refine c_firstFault h3 hw.2.1.2 ?_
  refine zgo [] ?_
  simp only [↓zX_succ, ↓zstp_nil, ↓zstp_cons, ↓reduceIte, zpu_some, zpu_none, zcs, zg, zst, Nat.reduceAdd, Nat.reduceSub, Nat.reduceMul, Nat.reduceEqDiff, Nat.reduceLeDiff, Nat.reduceLT, Int.reduceToNat, Int.reduceAdd, Int.reduceSub, Int.reduceMul, Int.reduceNeg, Int.reduceLE, Int.reduceLT, Int.reduceEq, Int.cast_ofNat_Int, Int.reduceNatCast', true_and, and_true, and_self, Nat.le_refl, Nat.add_zero, Nat.zero_add, Nat.zero_le, Nat.not_lt_zero, or_true, true_or, or_false, false_or, not_true_eq_false, not_false_eq_true, forall_const, true_implies, false_implies, implies_true, zup_same, zup_zup, Int.toNat_natCast, Nat.reduceDiv, List.length_cons, List.length_nil, Nat.succ_ne_zero, ne_eq, reduceCtorEq, zRl_m6, zRl_m5, zRl_m4, zRl_m3, zRl_m2, zRl_m1, zRl_0, zRl_1, zRl_2, zRl_3, zRl_4, zRl_5, zRl_6, zRl_7, zRl_8, zRl_12, zRl_31, zRl_32, zRl_33, zRl_59, zRl_60, zRl_64, zRl_67, zRl_97, zRl_122, zRl_124, zRl_126, zRl_128, zRl_336, zRl_672, zRl_1680, zRl_2016, zRl_7680, o_X6_fault, r_X6_fault, eX6_fault_0, q_aload_0, eX6_fault_1, q_getfield, zqg_s, zqv_s, zF_6_19, eX6_fault_4, q_invv, zqo_s, zqc_s, zC_6_56, o_X2_firstFault, zqcv_0, eX6_fault_7, q_ireturn, zqi_i, zqi_z]
  exact hQ M hc zfr_rf
theorem p_undo (hc : clG M x A) (hw : wfA A) : zPb lo (d + 12) kX6_undo x [] M (oUndo A) := by
  intro Q hQ
  obtain ⟨hx, h2, h3, h4, h5⟩ := id hc
  have m0 := hx.1
  unfold xO at m0
  have m3 := h4.2.1
  refine zct [some (Sum.inr (Sum.inl (some (x))))] rfl (Nat.le_of_ble_eq_true rfl) (by decide +kernel) rfl ?_
  refine zgo [] ?_
  simp only [↓zX_succ, ↓zstp_nil, ↓zstp_cons, ↓reduceIte, zpu_some, zpu_none, zcs, zg, zst, Nat.reduceAdd, Nat.reduceSub, Nat.reduceMul, Nat.reduceEqDiff, Nat.reduceLeDiff, Nat.reduceLT, Int.reduceToNat, Int.reduceAdd, Int.reduceSub, Int.reduceMul, Int.reduceNeg, Int.reduceLE, Int.reduceLT, Int.reduceEq, Int.cast_ofNat_Int, Int.reduceNatCast', true_and, and_true, and_self, Nat.le_refl, Nat.add_zero, Nat.zero_add, Nat.zero_le, Nat.not_lt_zero, or_true, true_or, or_false, false_or, not_true_eq_false, not_false_eq_true, forall_const, true_implies, false_implies, implies_true, zup_same, zup_zup, Int.toNat_natCast, Nat.reduceDiv, List.length_cons, List.length_nil, Nat.succ_ne_zero, ne_eq, reduceCtorEq, zRl_m6, zRl_m5, zRl_m4, zRl_m3, zRl_m2, zRl_m1, zRl_0, zRl_1, zRl_2, zRl_3, zRl_4, zRl_5, zRl_6, zRl_7, zRl_8, zRl_12, zRl_31, zRl_32, zRl_33, zRl_59, zRl_60, zRl_64, zRl_67, zRl_97, zRl_122, zRl_124, zRl_126, zRl_128, zRl_336, zRl_672, zRl_1680, zRl_2016, zRl_7680, o_X6_undo, r_X6_undo, eX6_undo_0, q_aload_0, eX6_undo_1, q_getfield, zqg_s, zqv_s, zF_6_26, eX6_undo_4, eX6_undo_5, zF_6_10, eX6_undo_8, q_invv, zqo_s, zqc_s, zC_6_197, o_X1_takeBack, zqcv_1, eX6_undo_11, q_if_ne, eX6_undo_14, q_bipush, eX6_undo_16, q_ireturn, zqi_i, zqi_z, eX6_undo_17, eX6_undo_18, eX6_undo_21, zF_6_181, eX6_undo_24, m0, m3]
  refine c_takeBack h4 h2 (fun i hi j hj => (hw.2.2.1.2 i hi).2 j hj) (by omega) (fun e => ?_) (fun M2 q0 q1 q2 q3 => ?_)
  · refine zgo [] ?_
    simp only [↓zX_succ, ↓zstp_nil, ↓zstp_cons, ↓reduceIte, zpu_some, zpu_none, zcs, zg, zst, Nat.reduceAdd, Nat.reduceSub, Nat.reduceMul, Nat.reduceEqDiff, Nat.reduceLeDiff, Nat.reduceLT, Int.reduceToNat, Int.reduceAdd, Int.reduceSub, Int.reduceMul, Int.reduceNeg, Int.reduceLE, Int.reduceLT, Int.reduceEq, Int.cast_ofNat_Int, Int.reduceNatCast', true_and, and_true, and_self, Nat.le_refl, Nat.add_zero, Nat.zero_add, Nat.zero_le, Nat.not_lt_zero, or_true, true_or, or_false, false_or, not_true_eq_false, not_false_eq_true, forall_const, true_implies, false_implies, implies_true, zup_same, zup_zup, Int.toNat_natCast, Nat.reduceDiv, List.length_cons, List.length_nil, Nat.succ_ne_zero, ne_eq, reduceCtorEq, zRl_m6, zRl_m5, zRl_m4, zRl_m3, zRl_m2, zRl_m1, zRl_0, zRl_1, zRl_2, zRl_3, zRl_4, zRl_5, zRl_6, zRl_7, zRl_8, zRl_12, zRl_31, zRl_32, zRl_33, zRl_59, zRl_60, zRl_64, zRl_67, zRl_97, zRl_122, zRl_124, zRl_126, zRl_128, zRl_336, zRl_672, zRl_1680, zRl_2016, zRl_7680, o_X6_undo, r_X6_undo, eX6_undo_0, q_aload_0, eX6_undo_1, q_getfield, zqg_s, zqv_s, zF_6_26, eX6_undo_4, eX6_undo_5, zF_6_10, eX6_undo_8, q_invv, zqo_s, zqc_s, zC_6_197, o_X1_takeBack, zqcv_1, eX6_undo_11, q_if_ne, eX6_undo_14, q_bipush, eX6_undo_16, q_ireturn, zqi_i, zqi_z, eX6_undo_17, eX6_undo_18, eX6_undo_21, zF_6_181, eX6_undo_24]
    rw [oUndo, if_pos e] at hQ
    exact hQ M hc zfr_rf
  · rw [oUndo, if_neg (by omega)] at hQ
    have n0 : M2 x = _ := (q3 x (by omega) (by omega)).trans m0
    have n3 : M2 (x + 20) = _ := q1.2.1
    refine zgo [] ?_
    simp only [↓zX_succ, ↓zstp_nil, ↓zstp_cons, ↓reduceIte, zpu_some, zpu_none, zcs, zg, zst, Nat.reduceAdd, Nat.reduceSub, Nat.reduceMul, Nat.reduceEqDiff, Nat.reduceLeDiff, Nat.reduceLT, Int.reduceToNat, Int.reduceAdd, Int.reduceSub, Int.reduceMul, Int.reduceNeg, Int.reduceLE, Int.reduceLT, Int.reduceEq, Int.cast_ofNat_Int, Int.reduceNatCast', true_and, and_true, and_self, Nat.le_refl, Nat.add_zero, Nat.zero_add, Nat.zero_le, Nat.not_lt_zero, or_true, true_or, or_false, false_or, not_true_eq_false, not_false_eq_true, forall_const, true_implies, false_implies, implies_true, zup_same, zup_zup, Int.toNat_natCast, Nat.reduceDiv, List.length_cons, List.length_nil, Nat.succ_ne_zero, ne_eq, reduceCtorEq, zRl_m6, zRl_m5, zRl_m4, zRl_m3, zRl_m2, zRl_m1, zRl_0, zRl_1, zRl_2, zRl_3, zRl_4, zRl_5, zRl_6, zRl_7, zRl_8, zRl_12, zRl_31, zRl_32, zRl_33, zRl_59, zRl_60, zRl_64, zRl_67, zRl_97, zRl_122, zRl_124, zRl_126, zRl_128, zRl_336, zRl_672, zRl_1680, zRl_2016, zRl_7680, o_X6_undo, r_X6_undo, eX6_undo_0, q_aload_0, eX6_undo_1, q_getfield, zqg_s, zqv_s, zF_6_26, eX6_undo_4, eX6_undo_5, zF_6_10, eX6_undo_8, q_invv, zqo_s, zqc_s, zC_6_197, o_X1_takeBack, zqcv_1, eX6_undo_11, q_if_ne, eX6_undo_14, q_bipush, eX6_undo_16, q_ireturn, zqi_i, zqi_z, eX6_undo_17, eX6_undo_18, eX6_undo_21, zF_6_181, eX6_undo_24, n0, n3]
    have hf : zfr M M2 (x + 1) (x + 124) := fun q hq => q3 q (by omega) (by omega)
    refine hQ M2 ?_ (hf.mono (by omega) (by omega))
    obtain ⟨⟨g, h5, h6, h7⟩, ⟨B, h8, h9⟩, ⟨h10, h11⟩, h12, h13⟩ := h5
    refine ⟨hx.keep hf (by omega), q2, ?_, q1, ⟨g, (hf _ (by omega)).trans h5, h6, h7⟩, ⟨B, (hf _ (by omega)).trans h8, h9⟩, ⟨h10.keep hf (by omega), fun q => (h11 q).keep hf (by omega)⟩, h12.keep hf (by omega), fun q => (h13 q).keep hf (by omega)⟩
    obtain ⟨p1, C, p2, p3, p4⟩ := h3
    exact ⟨p1, C, (q3 _ (by omega) (by omega)).trans p2, (q3 _ (by omega) (by omega)).trans p3, p4⟩
theorem p_save {k : Int} (hc : clG M x A) (hw : wfA A) (hk : zRr k) : zPb lo (d + 12) kX6_save x [(Sum.inl (k))] M (oSave A k) := by
  intro Q hQ
  obtain ⟨hx, h2, h3, h4, ⟨g, h5, h6, h7⟩, ⟨B, h8, h9, h9b⟩, ⟨h10, h11⟩, h12, h13⟩ := id hc
  have m0 := hx.1
  unfold xO at m0
  have m1 := h2.2.1
  rw [oSave] at hQ
  refine zct [some (Sum.inr (Sum.inl (some (x)))), some (Sum.inl (k)), none] rfl (Nat.le_of_ble_eq_true rfl) (by decide +kernel) rfl ?_
  by_cases c : 0 ≤ k ∧ k < 2
  · rw [if_pos c] at hQ
    have hk2 : k = 0 ∨ k = 1 := by omega
    rcases hk2 with rfl | rfl
    · have e0 : (0 : Int).toNat = 0 := rfl
      rw [e0] at hQ
      obtain ⟨n, s, w1⟩ := id h10
      have t1 := w1.2.1
      refine zgo [] ?_
      simp only [↓zX_succ, ↓zstp_nil, ↓zstp_cons, ↓reduceIte, zpu_some, zpu_none, zcs, zg, zst, Nat.reduceAdd, Nat.reduceSub, Nat.reduceMul, Nat.reduceEqDiff, Nat.reduceLeDiff, Nat.reduceLT, Int.reduceToNat, Int.reduceAdd, Int.reduceSub, Int.reduceMul, Int.reduceNeg, Int.reduceLE, Int.reduceLT, Int.reduceEq, Int.cast_ofNat_Int, Int.reduceNatCast', true_and, and_true, and_self, Nat.le_refl, Nat.add_zero, Nat.zero_add, Nat.zero_le, Nat.not_lt_zero, or_true, true_or, or_false, false_or, not_true_eq_false, not_false_eq_true, forall_const, true_implies, false_implies, implies_true, zup_same, zup_zup, Int.toNat_natCast, Nat.reduceDiv, List.length_cons, List.length_nil, Nat.succ_ne_zero, ne_eq, reduceCtorEq, zRl_m6, zRl_m5, zRl_m4, zRl_m3, zRl_m2, zRl_m1, zRl_0, zRl_1, zRl_2, zRl_3, zRl_4, zRl_5, zRl_6, zRl_7, zRl_8, zRl_12, zRl_31, zRl_32, zRl_33, zRl_59, zRl_60, zRl_64, zRl_67, zRl_97, zRl_122, zRl_124, zRl_126, zRl_128, zRl_336, zRl_672, zRl_1680, zRl_2016, zRl_7680, o_X6_save, r_X6_save, eX6_save_0, q_iload_1, eX6_save_1, q_if_lt, eX6_save_4, eX6_save_5, q_iconst, eX6_save_6, q_icmp_lt, eX6_save_9, q_bipush, eX6_save_11, q_ireturn, zqi_i, zqi_z, eX6_save_12, q_aload_0, eX6_save_13, q_getfield, zqg_s, zqv_s, zF_6_30, eX6_save_16, eX6_save_17, q_aaload, zqql_s, eX6_save_18, q_astore_2n, q_astore_2i, q_astore_2a, eX6_save_19, q_aload_2, eX6_save_20, q_ifnonnull_n, q_ifnonnull_s, eX6_save_23, eX6_save_25, eX6_save_26, eX6_save_27, eX6_save_28, zF_6_10, eX6_save_31, q_invv, zqo_s, zqc_s, zC_6_201, o_X5_copyFrom, zqcv_1, eX6_save_34, eX6_save_35, zF_6_34, eX6_save_38, eX6_save_39, eX6_save_40, q_bastore, zqbs_s, eX6_save_41, eX6_save_42, eX6_save_45, zF_6_60, eX6_save_48, m0, h5, h6, t1]
      refine c_shCopy h10 h2 hw.1.2 (by omega) (fun M2 q1 q2 => ?_)
      have n0 : M2 x = _ := (q2 x (by omega)).trans m0
      have n1 : M2 (x + 1) = _ := (q2 (x + 1) (by omega)).trans m1
      have n8 : M2 (x + 125) = _ := (q2 (x + 125) (by omega)).trans h8
      have u0 : ∀ c, zup M2 (x + 125) c x = M2 x := fun c => zup_ne (by omega)
      have u1 : ∀ c, zup M2 (x + 125) c (x + 1) = M2 (x + 1) := fun c => zup_ne (by omega)
      refine zgo [] ?_
      simp only [↓zX_succ, ↓zstp_nil, ↓zstp_cons, ↓reduceIte, zpu_some, zpu_none, zcs, zg, zst, Nat.reduceAdd, Nat.reduceSub, Nat.reduceMul, Nat.reduceEqDiff, Nat.reduceLeDiff, Nat.reduceLT, Int.reduceToNat, Int.reduceAdd, Int.reduceSub, Int.reduceMul, Int.reduceNeg, Int.reduceLE, Int.reduceLT, Int.reduceEq, Int.cast_ofNat_Int, Int.reduceNatCast', true_and, and_true, and_self, Nat.le_refl, Nat.add_zero, Nat.zero_add, Nat.zero_le, Nat.not_lt_zero, or_true, true_or, or_false, false_or, not_true_eq_false, not_false_eq_true, forall_const, true_implies, false_implies, implies_true, zup_same, zup_zup, Int.toNat_natCast, Nat.reduceDiv, List.length_cons, List.length_nil, Nat.succ_ne_zero, ne_eq, reduceCtorEq, zRl_m6, zRl_m5, zRl_m4, zRl_m3, zRl_m2, zRl_m1, zRl_0, zRl_1, zRl_2, zRl_3, zRl_4, zRl_5, zRl_6, zRl_7, zRl_8, zRl_12, zRl_31, zRl_32, zRl_33, zRl_59, zRl_60, zRl_64, zRl_67, zRl_97, zRl_122, zRl_124, zRl_126, zRl_128, zRl_336, zRl_672, zRl_1680, zRl_2016, zRl_7680, o_X6_save, r_X6_save, eX6_save_0, q_iload_1, eX6_save_1, q_if_lt, eX6_save_4, eX6_save_5, q_iconst, eX6_save_6, q_icmp_lt, eX6_save_9, q_bipush, eX6_save_11, q_ireturn, zqi_i, zqi_z, eX6_save_12, q_aload_0, eX6_save_13, q_getfield, zqg_s, zqv_s, zF_6_30, eX6_save_16, eX6_save_17, q_aaload, zqql_s, eX6_save_18, q_astore_2n, q_astore_2i, q_astore_2a, eX6_save_19, q_aload_2, eX6_save_20, q_ifnonnull_n, q_ifnonnull_s, eX6_save_23, eX6_save_25, eX6_save_26, eX6_save_27, eX6_save_28, zF_6_10, eX6_save_31, q_invv, zqo_s, zqc_s, zC_6_201, o_X5_copyFrom, zqcv_1, eX6_save_34, eX6_save_35, zF_6_34, eX6_save_38, eX6_save_39, eX6_save_40, q_bastore, zqbs_s, eX6_save_41, eX6_save_42, eX6_save_45, zF_6_60, eX6_save_48, n0, n8, u0, u1, n1]
      have f2 : ∀ c, zfr M2 (zup M2 (x + 125) c) (x + 125) (x + 126) := fun c => zfr_up (by omega) (by omega)
      refine hQ _ ⟨(hx.keep q2 (by omega)).keep (f2 _) (by omega), (h2.keep q2 (by omega)).keep (f2 _) (by omega), (h3.keep q2 (by omega)).keep (f2 _) (by omega), (h4.keep q2 (by omega)).keep (f2 _) (by omega), ⟨g, ?_, h6, h7⟩, ⟨_, zup_same, ?_, ?_⟩, ⟨⟨_, _, q1.keep (f2 _) (by omega)⟩, fun _ => ?_⟩, (h12.keep q2 (by omega)).keep (f2 _) (by omega), fun q => ?_⟩ ((q2.mono (by omega) (by omega)).tr ((f2 _).mono (by omega) (by omega)))
      · rw [zup_ne (by omega), q2 _ (by omega)]; exact h5
      · simp [zu]
      · simp [zu]; exact h9b
      · simp only [zu_same]
        exact q1.keep (f2 _) (by omega)
      · simp only [zu_ne (show (1 : Nat) ≠ 0 by decide)] at q ⊢
        exact ((h13 q).keep q2 (by omega)).keep (f2 _) (by omega)
    · have e0 : (1 : Int).toNat = 1 := rfl
      rw [e0] at hQ
      obtain ⟨n, s, w1⟩ := id h12
      have t1 := w1.2.1
      refine zgo [] ?_
      simp only [↓zX_succ, ↓zstp_nil, ↓zstp_cons, ↓reduceIte, zpu_some, zpu_none, zcs, zg, zst, Nat.reduceAdd, Nat.reduceSub, Nat.reduceMul, Nat.reduceEqDiff, Nat.reduceLeDiff, Nat.reduceLT, Int.reduceToNat, Int.reduceAdd, Int.reduceSub, Int.reduceMul, Int.reduceNeg, Int.reduceLE, Int.reduceLT, Int.reduceEq, Int.cast_ofNat_Int, Int.reduceNatCast', true_and, and_true, and_self, Nat.le_refl, Nat.add_zero, Nat.zero_add, Nat.zero_le, Nat.not_lt_zero, or_true, true_or, or_false, false_or, not_true_eq_false, not_false_eq_true, forall_const, true_implies, false_implies, implies_true, zup_same, zup_zup, Int.toNat_natCast, Nat.reduceDiv, List.length_cons, List.length_nil, Nat.succ_ne_zero, ne_eq, reduceCtorEq, zRl_m6, zRl_m5, zRl_m4, zRl_m3, zRl_m2, zRl_m1, zRl_0, zRl_1, zRl_2, zRl_3, zRl_4, zRl_5, zRl_6, zRl_7, zRl_8, zRl_12, zRl_31, zRl_32, zRl_33, zRl_59, zRl_60, zRl_64, zRl_67, zRl_97, zRl_122, zRl_124, zRl_126, zRl_128, zRl_336, zRl_672, zRl_1680, zRl_2016, zRl_7680, o_X6_save, r_X6_save, eX6_save_0, q_iload_1, eX6_save_1, q_if_lt, eX6_save_4, eX6_save_5, q_iconst, eX6_save_6, q_icmp_lt, eX6_save_9, q_bipush, eX6_save_11, q_ireturn, zqi_i, zqi_z, eX6_save_12, q_aload_0, eX6_save_13, q_getfield, zqg_s, zqv_s, zF_6_30, eX6_save_16, eX6_save_17, q_aaload, zqql_s, eX6_save_18, q_astore_2n, q_astore_2i, q_astore_2a, eX6_save_19, q_aload_2, eX6_save_20, q_ifnonnull_n, q_ifnonnull_s, eX6_save_23, eX6_save_25, eX6_save_26, eX6_save_27, eX6_save_28, zF_6_10, eX6_save_31, q_invv, zqo_s, zqc_s, zC_6_201, o_X5_copyFrom, zqcv_1, eX6_save_34, eX6_save_35, zF_6_34, eX6_save_38, eX6_save_39, eX6_save_40, q_bastore, zqbs_s, eX6_save_41, eX6_save_42, eX6_save_45, zF_6_60, eX6_save_48, m0, h5, h7, t1]
      refine c_shCopy h12 h2 hw.1.2 (by omega) (fun M2 q1 q2 => ?_)
      have n0 : M2 x = _ := (q2 x (by omega)).trans m0
      have n1 : M2 (x + 1) = _ := (q2 (x + 1) (by omega)).trans m1
      have n8 : M2 (x + 125) = _ := (q2 (x + 125) (by omega)).trans h8
      have u0 : ∀ c, zup M2 (x + 125) c x = M2 x := fun c => zup_ne (by omega)
      have u1 : ∀ c, zup M2 (x + 125) c (x + 1) = M2 (x + 1) := fun c => zup_ne (by omega)
      refine zgo [] ?_
      simp only [↓zX_succ, ↓zstp_nil, ↓zstp_cons, ↓reduceIte, zpu_some, zpu_none, zcs, zg, zst, Nat.reduceAdd, Nat.reduceSub, Nat.reduceMul, Nat.reduceEqDiff, Nat.reduceLeDiff, Nat.reduceLT, Int.reduceToNat, Int.reduceAdd, Int.reduceSub, Int.reduceMul, Int.reduceNeg, Int.reduceLE, Int.reduceLT, Int.reduceEq, Int.cast_ofNat_Int, Int.reduceNatCast', true_and, and_true, and_self, Nat.le_refl, Nat.add_zero, Nat.zero_add, Nat.zero_le, Nat.not_lt_zero, or_true, true_or, or_false, false_or, not_true_eq_false, not_false_eq_true, forall_const, true_implies, false_implies, implies_true, zup_same, zup_zup, Int.toNat_natCast, Nat.reduceDiv, List.length_cons, List.length_nil, Nat.succ_ne_zero, ne_eq, reduceCtorEq, zRl_m6, zRl_m5, zRl_m4, zRl_m3, zRl_m2, zRl_m1, zRl_0, zRl_1, zRl_2, zRl_3, zRl_4, zRl_5, zRl_6, zRl_7, zRl_8, zRl_12, zRl_31, zRl_32, zRl_33, zRl_59, zRl_60, zRl_64, zRl_67, zRl_97, zRl_122, zRl_124, zRl_126, zRl_128, zRl_336, zRl_672, zRl_1680, zRl_2016, zRl_7680, o_X6_save, r_X6_save, eX6_save_0, q_iload_1, eX6_save_1, q_if_lt, eX6_save_4, eX6_save_5, q_iconst, eX6_save_6, q_icmp_lt, eX6_save_9, q_bipush, eX6_save_11, q_ireturn, zqi_i, zqi_z, eX6_save_12, q_aload_0, eX6_save_13, q_getfield, zqg_s, zqv_s, zF_6_30, eX6_save_16, eX6_save_17, q_aaload, zqql_s, eX6_save_18, q_astore_2n, q_astore_2i, q_astore_2a, eX6_save_19, q_aload_2, eX6_save_20, q_ifnonnull_n, q_ifnonnull_s, eX6_save_23, eX6_save_25, eX6_save_26, eX6_save_27, eX6_save_28, zF_6_10, eX6_save_31, q_invv, zqo_s, zqc_s, zC_6_201, o_X5_copyFrom, zqcv_1, eX6_save_34, eX6_save_35, zF_6_34, eX6_save_38, eX6_save_39, eX6_save_40, q_bastore, zqbs_s, eX6_save_41, eX6_save_42, eX6_save_45, zF_6_60, eX6_save_48, n0, n8, u0, u1, n1]
      have f2 : ∀ c, zfr M2 (zup M2 (x + 125) c) (x + 125) (x + 126) := fun c => zfr_up (by omega) (by omega)
      refine hQ _ ⟨(hx.keep q2 (by omega)).keep (f2 _) (by omega), (h2.keep q2 (by omega)).keep (f2 _) (by omega), (h3.keep q2 (by omega)).keep (f2 _) (by omega), (h4.keep q2 (by omega)).keep (f2 _) (by omega), ⟨g, ?_, h6, h7⟩, ⟨_, zup_same, ?_, ?_⟩, ⟨(h10.keep q2 (by omega)).keep (f2 _) (by omega), fun q => ?_⟩, ⟨_, _, q1.keep (f2 _) (by omega)⟩, fun _ => ?_⟩ ((q2.mono (by omega) (by omega)).tr ((f2 _).mono (by omega) (by omega)))
      · rw [zup_ne (by omega), q2 _ (by omega)]; exact h5
      · simp [zu]; exact h9
      · simp [zu]
      · simp only [zu_ne (show (0 : Nat) ≠ 1 by decide)] at q ⊢
        exact ((h11 q).keep q2 (by omega)).keep (f2 _) (by omega)
      · simp only [zu_same]
        exact q1.keep (f2 _) (by omega)
  · rw [if_neg c] at hQ
    refine zgo [] ?_
    simp only [↓zX_succ, ↓zstp_nil, ↓zstp_cons, ↓reduceIte, zpu_some, zpu_none, zcs, zg, zst, Nat.reduceAdd, Nat.reduceSub, Nat.reduceMul, Nat.reduceEqDiff, Nat.reduceLeDiff, Nat.reduceLT, Int.reduceToNat, Int.reduceAdd, Int.reduceSub, Int.reduceMul, Int.reduceNeg, Int.reduceLE, Int.reduceLT, Int.reduceEq, Int.cast_ofNat_Int, Int.reduceNatCast', true_and, and_true, and_self, Nat.le_refl, Nat.add_zero, Nat.zero_add, Nat.zero_le, Nat.not_lt_zero, or_true, true_or, or_false, false_or, not_true_eq_false, not_false_eq_true, forall_const, true_implies, false_implies, implies_true, zup_same, zup_zup, Int.toNat_natCast, Nat.reduceDiv, List.length_cons, List.length_nil, Nat.succ_ne_zero, ne_eq, reduceCtorEq, zRl_m6, zRl_m5, zRl_m4, zRl_m3, zRl_m2, zRl_m1, zRl_0, zRl_1, zRl_2, zRl_3, zRl_4, zRl_5, zRl_6, zRl_7, zRl_8, zRl_12, zRl_31, zRl_32, zRl_33, zRl_59, zRl_60, zRl_64, zRl_67, zRl_97, zRl_122, zRl_124, zRl_126, zRl_128, zRl_336, zRl_672, zRl_1680, zRl_2016, zRl_7680, o_X6_save, r_X6_save, eX6_save_0, q_iload_1, eX6_save_1, q_if_lt, eX6_save_4, eX6_save_5, q_iconst, eX6_save_6, q_icmp_lt, eX6_save_9, q_bipush, eX6_save_11, q_ireturn, zqi_i, zqi_z, eX6_save_12, q_aload_0, eX6_save_13, q_getfield, zqg_s, zqv_s, zF_6_30, eX6_save_16, eX6_save_17, q_aaload, zqql_s, eX6_save_18, q_astore_2n, q_astore_2i, q_astore_2a, eX6_save_19, q_aload_2, eX6_save_20, q_ifnonnull_n, q_ifnonnull_s, eX6_save_23, eX6_save_25, eX6_save_26, eX6_save_27, eX6_save_28, zF_6_10, eX6_save_31, q_invv, zqo_s, zqc_s, zC_6_201, o_X5_copyFrom, zqcv_1, eX6_save_34, eX6_save_35, zF_6_34, eX6_save_38, eX6_save_39, eX6_save_40, q_bastore, zqbs_s, eX6_save_41, eX6_save_42, eX6_save_45, zF_6_60, eX6_save_48, hk]
    exact ⟨fun _ => hQ M hc zfr_rf, fun q => ⟨fun q2 => absurd ⟨by omega, q2⟩ c, fun _ => hQ M hc zfr_rf⟩⟩
theorem p_restore {k : Int} (hc : clG M x A) (hw : wfA A) (hk : zRr k) : zPb lo (d + 12) kX6_restore x [(Sum.inl (k))] M (oRestore A k) := by
  intro Q hQ
  obtain ⟨hx, h2, h3, h4, ⟨g, h5, h6, h7⟩, ⟨B, h8, h9, h9b⟩, ⟨h10, h11⟩, h12, h13⟩ := id hc
  have m0 := hx.1
  unfold xO at m0
  have m1 := h2.2.1
  have m3 := h4.2.1
  rw [oRestore] at hQ
  have lst : ∀ (j : Nat) (a : Nat), j < 2 → a = x + 140 + 17 * j → A.2.2.2.2 j = 1 → shG M a (A.2.2.2.1 j).1 (A.2.2.2.1 j).2 → (∀ M', clG M' x (stS (rcd A) (A.2.2.2.1 j)) → zfr M M' x (x + 174) → Q (some (Sum.inl (((A.2.2.2.1 j).1 : Int)))) M') → zm lo (d + 12) kX6_restore 0 0 Q (0, 0) 35 [some (Sum.inr (Sum.inl (some (x)))), some (Sum.inl ((j : Int))), some (Sum.inr (Sum.inl (some (a))))] [] M := by
    intro j a hj ha hsv hsl hQ'
    refine zgo [] ?_
    simp only [↓zX_succ, ↓zstp_nil, ↓zstp_cons, ↓reduceIte, zpu_some, zpu_none, zcs, zg, zst, Nat.reduceAdd, Nat.reduceSub, Nat.reduceMul, Nat.reduceEqDiff, Nat.reduceLeDiff, Nat.reduceLT, Int.reduceToNat, Int.reduceAdd, Int.reduceSub, Int.reduceMul, Int.reduceNeg, Int.reduceLE, Int.reduceLT, Int.reduceEq, Int.cast_ofNat_Int, Int.reduceNatCast', true_and, and_true, and_self, Nat.le_refl, Nat.add_zero, Nat.zero_add, Nat.zero_le, Nat.not_lt_zero, or_true, true_or, or_false, false_or, not_true_eq_false, not_false_eq_true, forall_const, true_implies, false_implies, implies_true, zup_same, zup_zup, Int.toNat_natCast, Nat.reduceDiv, List.length_cons, List.length_nil, Nat.succ_ne_zero, ne_eq, reduceCtorEq, zRl_m6, zRl_m5, zRl_m4, zRl_m3, zRl_m2, zRl_m1, zRl_0, zRl_1, zRl_2, zRl_3, zRl_4, zRl_5, zRl_6, zRl_7, zRl_8, zRl_12, zRl_31, zRl_32, zRl_33, zRl_59, zRl_60, zRl_64, zRl_67, zRl_97, zRl_122, zRl_124, zRl_126, zRl_128, zRl_336, zRl_672, zRl_1680, zRl_2016, zRl_7680, o_X6_restore, r_X6_restore, eX6_restore_0, q_iload_1, eX6_restore_1, q_if_lt, eX6_restore_4, eX6_restore_5, q_iconst, eX6_restore_6, q_icmp_lt, eX6_restore_9, q_bipush, eX6_restore_11, q_ireturn, zqi_i, zqi_z, eX6_restore_12, q_aload_0, eX6_restore_13, q_getfield, zqg_s, zqv_s, zF_6_30, eX6_restore_16, eX6_restore_17, q_aaload, zqql_s, eX6_restore_18, q_astore_2n, q_astore_2i, q_astore_2a, eX6_restore_19, q_aload_2, eX6_restore_20, q_ifnull_n, q_ifnull_s, eX6_restore_23, eX6_restore_24, zF_6_34, eX6_restore_27, eX6_restore_28, q_baload, zqal_s, eX6_restore_29, q_if_ne, eX6_restore_32, eX6_restore_34, eX6_restore_35, eX6_restore_36, zF_6_26, eX6_restore_39, eX6_restore_40, zF_6_10, eX6_restore_43, q_invv, zqo_s, zqc_s, zC_6_67, o_X1_record, zqcv_1, eX6_restore_46, eX6_restore_47, eX6_restore_50, eX6_restore_51, zC_6_201, o_X5_copyFrom, eX6_restore_54, eX6_restore_55, eX6_restore_58, zF_6_60, eX6_restore_61, m0, m3]
    refine c_record h4 h2 hw.1.2 (by omega) (fun M2 q1 q2 => ?_)
    have c2 := hc.rec q1 q2
    have n0 : M2 x = _ := c2.1.1
    have n1 : M2 (x + 1) = _ := c2.2.1.2.1
    refine zgo [] ?_
    simp only [↓zX_succ, ↓zstp_nil, ↓zstp_cons, ↓reduceIte, zpu_some, zpu_none, zcs, zg, zst, Nat.reduceAdd, Nat.reduceSub, Nat.reduceMul, Nat.reduceEqDiff, Nat.reduceLeDiff, Nat.reduceLT, Int.reduceToNat, Int.reduceAdd, Int.reduceSub, Int.reduceMul, Int.reduceNeg, Int.reduceLE, Int.reduceLT, Int.reduceEq, Int.cast_ofNat_Int, Int.reduceNatCast', true_and, and_true, and_self, Nat.le_refl, Nat.add_zero, Nat.zero_add, Nat.zero_le, Nat.not_lt_zero, or_true, true_or, or_false, false_or, not_true_eq_false, not_false_eq_true, forall_const, true_implies, false_implies, implies_true, zup_same, zup_zup, Int.toNat_natCast, Nat.reduceDiv, List.length_cons, List.length_nil, Nat.succ_ne_zero, ne_eq, reduceCtorEq, zRl_m6, zRl_m5, zRl_m4, zRl_m3, zRl_m2, zRl_m1, zRl_0, zRl_1, zRl_2, zRl_3, zRl_4, zRl_5, zRl_6, zRl_7, zRl_8, zRl_12, zRl_31, zRl_32, zRl_33, zRl_59, zRl_60, zRl_64, zRl_67, zRl_97, zRl_122, zRl_124, zRl_126, zRl_128, zRl_336, zRl_672, zRl_1680, zRl_2016, zRl_7680, o_X6_restore, r_X6_restore, eX6_restore_0, q_iload_1, eX6_restore_1, q_if_lt, eX6_restore_4, eX6_restore_5, q_iconst, eX6_restore_6, q_icmp_lt, eX6_restore_9, q_bipush, eX6_restore_11, q_ireturn, zqi_i, zqi_z, eX6_restore_12, q_aload_0, eX6_restore_13, q_getfield, zqg_s, zqv_s, zF_6_30, eX6_restore_16, eX6_restore_17, q_aaload, zqql_s, eX6_restore_18, q_astore_2n, q_astore_2i, q_astore_2a, eX6_restore_19, q_aload_2, eX6_restore_20, q_ifnull_n, q_ifnull_s, eX6_restore_23, eX6_restore_24, zF_6_34, eX6_restore_27, eX6_restore_28, q_baload, zqal_s, eX6_restore_29, q_if_ne, eX6_restore_32, eX6_restore_34, eX6_restore_35, eX6_restore_36, zF_6_26, eX6_restore_39, eX6_restore_40, zF_6_10, eX6_restore_43, q_invv, zqo_s, zqc_s, zC_6_67, o_X1_record, zqcv_1, eX6_restore_46, eX6_restore_47, eX6_restore_50, eX6_restore_51, zC_6_201, o_X5_copyFrom, eX6_restore_54, eX6_restore_55, eX6_restore_58, zF_6_60, eX6_restore_61, n0, n1]
    have hwf : wfH (A.2.2.2.1 j) := by
      rcases hw.2.2.2 j hj with q | q
      · omega
      · exact q.2
    refine c_shCopy ⟨_, _, c2.2.1⟩ (hsl.keep q2 (by omega)) hwf.2 (by omega) (fun M3 q3 q4 => ?_)
    have c3 := c2.shf q3 q4
    have p0 : M3 x = _ := c3.1.1
    have p1 : M3 (x + 1) = _ := q3.2.1
    refine zgo [] ?_
    simp only [↓zX_succ, ↓zstp_nil, ↓zstp_cons, ↓reduceIte, zpu_some, zpu_none, zcs, zg, zst, Nat.reduceAdd, Nat.reduceSub, Nat.reduceMul, Nat.reduceEqDiff, Nat.reduceLeDiff, Nat.reduceLT, Int.reduceToNat, Int.reduceAdd, Int.reduceSub, Int.reduceMul, Int.reduceNeg, Int.reduceLE, Int.reduceLT, Int.reduceEq, Int.cast_ofNat_Int, Int.reduceNatCast', true_and, and_true, and_self, Nat.le_refl, Nat.add_zero, Nat.zero_add, Nat.zero_le, Nat.not_lt_zero, or_true, true_or, or_false, false_or, not_true_eq_false, not_false_eq_true, forall_const, true_implies, false_implies, implies_true, zup_same, zup_zup, Int.toNat_natCast, Nat.reduceDiv, List.length_cons, List.length_nil, Nat.succ_ne_zero, ne_eq, reduceCtorEq, zRl_m6, zRl_m5, zRl_m4, zRl_m3, zRl_m2, zRl_m1, zRl_0, zRl_1, zRl_2, zRl_3, zRl_4, zRl_5, zRl_6, zRl_7, zRl_8, zRl_12, zRl_31, zRl_32, zRl_33, zRl_59, zRl_60, zRl_64, zRl_67, zRl_97, zRl_122, zRl_124, zRl_126, zRl_128, zRl_336, zRl_672, zRl_1680, zRl_2016, zRl_7680, o_X6_restore, r_X6_restore, eX6_restore_0, q_iload_1, eX6_restore_1, q_if_lt, eX6_restore_4, eX6_restore_5, q_iconst, eX6_restore_6, q_icmp_lt, eX6_restore_9, q_bipush, eX6_restore_11, q_ireturn, zqi_i, zqi_z, eX6_restore_12, q_aload_0, eX6_restore_13, q_getfield, zqg_s, zqv_s, zF_6_30, eX6_restore_16, eX6_restore_17, q_aaload, zqql_s, eX6_restore_18, q_astore_2n, q_astore_2i, q_astore_2a, eX6_restore_19, q_aload_2, eX6_restore_20, q_ifnull_n, q_ifnull_s, eX6_restore_23, eX6_restore_24, zF_6_34, eX6_restore_27, eX6_restore_28, q_baload, zqal_s, eX6_restore_29, q_if_ne, eX6_restore_32, eX6_restore_34, eX6_restore_35, eX6_restore_36, zF_6_26, eX6_restore_39, eX6_restore_40, zF_6_10, eX6_restore_43, q_invv, zqo_s, zqc_s, zC_6_67, o_X1_record, zqcv_1, eX6_restore_46, eX6_restore_47, eX6_restore_50, eX6_restore_51, zC_6_201, o_X5_copyFrom, eX6_restore_54, eX6_restore_55, eX6_restore_58, zF_6_60, eX6_restore_61, p0, p1]
    exact hQ' M3 c3 ((q2.mono (by omega) (by omega)).tr (q4.mono (by omega) (by omega)))
  refine zct [some (Sum.inr (Sum.inl (some (x)))), some (Sum.inl (k)), none] rfl (Nat.le_of_ble_eq_true rfl) (by decide +kernel) rfl ?_
  by_cases c : 0 ≤ k ∧ k < 2
  · rw [if_pos c] at hQ
    have hk2 : k = 0 ∨ k = 1 := by omega
    rcases hk2 with rfl | rfl
    · have e0 : (0 : Int).toNat = 0 := rfl
      rw [e0] at hQ
      have r1 : zRr (B 0) := by
        rcases hw.2.2.2 0 (by decide) with q | q
        · rw [h9, q]; exact zrr (by decide) (by decide)
        · rw [h9, q.1]; exact zrr (by decide) (by decide)
      refine zgo [35] ?_
      simp only [↓zX_succ, ↓zstp_nil, ↓zstp_cons, ↓reduceIte, zpu_some, zpu_none, zcs, zg, zst, Nat.reduceAdd, Nat.reduceSub, Nat.reduceMul, Nat.reduceEqDiff, Nat.reduceLeDiff, Nat.reduceLT, Int.reduceToNat, Int.reduceAdd, Int.reduceSub, Int.reduceMul, Int.reduceNeg, Int.reduceLE, Int.reduceLT, Int.reduceEq, Int.cast_ofNat_Int, Int.reduceNatCast', true_and, and_true, and_self, Nat.le_refl, Nat.add_zero, Nat.zero_add, Nat.zero_le, Nat.not_lt_zero, or_true, true_or, or_false, false_or, not_true_eq_false, not_false_eq_true, forall_const, true_implies, false_implies, implies_true, zup_same, zup_zup, Int.toNat_natCast, Nat.reduceDiv, List.length_cons, List.length_nil, Nat.succ_ne_zero, ne_eq, reduceCtorEq, zRl_m6, zRl_m5, zRl_m4, zRl_m3, zRl_m2, zRl_m1, zRl_0, zRl_1, zRl_2, zRl_3, zRl_4, zRl_5, zRl_6, zRl_7, zRl_8, zRl_12, zRl_31, zRl_32, zRl_33, zRl_59, zRl_60, zRl_64, zRl_67, zRl_97, zRl_122, zRl_124, zRl_126, zRl_128, zRl_336, zRl_672, zRl_1680, zRl_2016, zRl_7680, o_X6_restore, r_X6_restore, eX6_restore_0, q_iload_1, eX6_restore_1, q_if_lt, eX6_restore_4, eX6_restore_5, q_iconst, eX6_restore_6, q_icmp_lt, eX6_restore_9, q_bipush, eX6_restore_11, q_ireturn, zqi_i, zqi_z, eX6_restore_12, q_aload_0, eX6_restore_13, q_getfield, zqg_s, zqv_s, zF_6_30, eX6_restore_16, eX6_restore_17, q_aaload, zqql_s, eX6_restore_18, q_astore_2n, q_astore_2i, q_astore_2a, eX6_restore_19, q_aload_2, eX6_restore_20, q_ifnull_n, q_ifnull_s, eX6_restore_23, eX6_restore_24, zF_6_34, eX6_restore_27, eX6_restore_28, q_baload, zqal_s, eX6_restore_29, q_if_ne, eX6_restore_32, eX6_restore_34, eX6_restore_35, eX6_restore_36, zF_6_26, eX6_restore_39, eX6_restore_40, zF_6_10, eX6_restore_43, q_invv, zqo_s, zqc_s, zC_6_67, o_X1_record, zqcv_1, eX6_restore_46, eX6_restore_47, eX6_restore_50, eX6_restore_51, zC_6_201, o_X5_copyFrom, eX6_restore_54, eX6_restore_55, eX6_restore_58, zF_6_60, eX6_restore_61, m0, h5, h6, h8, r1]
      refine ⟨fun q => ?_, fun q => ?_⟩
      rotate_left
      · rw [if_pos (by omega)] at hQ
        exact hQ M hc zfr_rf
      · rw [if_neg (by omega)] at hQ
        have hsv : A.2.2.2.2 0 = 1 := by
          rcases hw.2.2.2 0 (by decide) with q2 | q2
          · omega
          · exact q2.1
        exact lst 0 (x + 140) (by decide) (by omega) hsv (h11 hsv) hQ
    · have e0 : (1 : Int).toNat = 1 := rfl
      rw [e0] at hQ
      have r1 : zRr (B 1) := by
        rcases hw.2.2.2 1 (by decide) with q | q
        · rw [h9b, q]; exact zrr (by decide) (by decide)
        · rw [h9b, q.1]; exact zrr (by decide) (by decide)
      refine zgo [35] ?_
      simp only [↓zX_succ, ↓zstp_nil, ↓zstp_cons, ↓reduceIte, zpu_some, zpu_none, zcs, zg, zst, Nat.reduceAdd, Nat.reduceSub, Nat.reduceMul, Nat.reduceEqDiff, Nat.reduceLeDiff, Nat.reduceLT, Int.reduceToNat, Int.reduceAdd, Int.reduceSub, Int.reduceMul, Int.reduceNeg, Int.reduceLE, Int.reduceLT, Int.reduceEq, Int.cast_ofNat_Int, Int.reduceNatCast', true_and, and_true, and_self, Nat.le_refl, Nat.add_zero, Nat.zero_add, Nat.zero_le, Nat.not_lt_zero, or_true, true_or, or_false, false_or, not_true_eq_false, not_false_eq_true, forall_const, true_implies, false_implies, implies_true, zup_same, zup_zup, Int.toNat_natCast, Nat.reduceDiv, List.length_cons, List.length_nil, Nat.succ_ne_zero, ne_eq, reduceCtorEq, zRl_m6, zRl_m5, zRl_m4, zRl_m3, zRl_m2, zRl_m1, zRl_0, zRl_1, zRl_2, zRl_3, zRl_4, zRl_5, zRl_6, zRl_7, zRl_8, zRl_12, zRl_31, zRl_32, zRl_33, zRl_59, zRl_60, zRl_64, zRl_67, zRl_97, zRl_122, zRl_124, zRl_126, zRl_128, zRl_336, zRl_672, zRl_1680, zRl_2016, zRl_7680, o_X6_restore, r_X6_restore, eX6_restore_0, q_iload_1, eX6_restore_1, q_if_lt, eX6_restore_4, eX6_restore_5, q_iconst, eX6_restore_6, q_icmp_lt, eX6_restore_9, q_bipush, eX6_restore_11, q_ireturn, zqi_i, zqi_z, eX6_restore_12, q_aload_0, eX6_restore_13, q_getfield, zqg_s, zqv_s, zF_6_30, eX6_restore_16, eX6_restore_17, q_aaload, zqql_s, eX6_restore_18, q_astore_2n, q_astore_2i, q_astore_2a, eX6_restore_19, q_aload_2, eX6_restore_20, q_ifnull_n, q_ifnull_s, eX6_restore_23, eX6_restore_24, zF_6_34, eX6_restore_27, eX6_restore_28, q_baload, zqal_s, eX6_restore_29, q_if_ne, eX6_restore_32, eX6_restore_34, eX6_restore_35, eX6_restore_36, zF_6_26, eX6_restore_39, eX6_restore_40, zF_6_10, eX6_restore_43, q_invv, zqo_s, zqc_s, zC_6_67, o_X1_record, zqcv_1, eX6_restore_46, eX6_restore_47, eX6_restore_50, eX6_restore_51, zC_6_201, o_X5_copyFrom, eX6_restore_54, eX6_restore_55, eX6_restore_58, zF_6_60, eX6_restore_61, m0, h5, h7, h8, r1]
      refine ⟨fun q => ?_, fun q => ?_⟩
      rotate_left
      · rw [if_pos (by omega)] at hQ
        exact hQ M hc zfr_rf
      · rw [if_neg (by omega)] at hQ
        have hsv : A.2.2.2.2 1 = 1 := by
          rcases hw.2.2.2 1 (by decide) with q2 | q2
          · omega
          · exact q2.1
        exact lst 1 (x + 157) (by decide) (by omega) hsv (h13 hsv) hQ
  · rw [if_neg c] at hQ
    refine zgo [35] ?_
    simp only [↓zX_succ, ↓zstp_nil, ↓zstp_cons, ↓reduceIte, zpu_some, zpu_none, zcs, zg, zst, Nat.reduceAdd, Nat.reduceSub, Nat.reduceMul, Nat.reduceEqDiff, Nat.reduceLeDiff, Nat.reduceLT, Int.reduceToNat, Int.reduceAdd, Int.reduceSub, Int.reduceMul, Int.reduceNeg, Int.reduceLE, Int.reduceLT, Int.reduceEq, Int.cast_ofNat_Int, Int.reduceNatCast', true_and, and_true, and_self, Nat.le_refl, Nat.add_zero, Nat.zero_add, Nat.zero_le, Nat.not_lt_zero, or_true, true_or, or_false, false_or, not_true_eq_false, not_false_eq_true, forall_const, true_implies, false_implies, implies_true, zup_same, zup_zup, Int.toNat_natCast, Nat.reduceDiv, List.length_cons, List.length_nil, Nat.succ_ne_zero, ne_eq, reduceCtorEq, zRl_m6, zRl_m5, zRl_m4, zRl_m3, zRl_m2, zRl_m1, zRl_0, zRl_1, zRl_2, zRl_3, zRl_4, zRl_5, zRl_6, zRl_7, zRl_8, zRl_12, zRl_31, zRl_32, zRl_33, zRl_59, zRl_60, zRl_64, zRl_67, zRl_97, zRl_122, zRl_124, zRl_126, zRl_128, zRl_336, zRl_672, zRl_1680, zRl_2016, zRl_7680, o_X6_restore, r_X6_restore, eX6_restore_0, q_iload_1, eX6_restore_1, q_if_lt, eX6_restore_4, eX6_restore_5, q_iconst, eX6_restore_6, q_icmp_lt, eX6_restore_9, q_bipush, eX6_restore_11, q_ireturn, zqi_i, zqi_z, eX6_restore_12, q_aload_0, eX6_restore_13, q_getfield, zqg_s, zqv_s, zF_6_30, eX6_restore_16, eX6_restore_17, q_aaload, zqql_s, eX6_restore_18, q_astore_2n, q_astore_2i, q_astore_2a, eX6_restore_19, q_aload_2, eX6_restore_20, q_ifnull_n, q_ifnull_s, eX6_restore_23, eX6_restore_24, zF_6_34, eX6_restore_27, eX6_restore_28, q_baload, zqal_s, eX6_restore_29, q_if_ne, eX6_restore_32, eX6_restore_34, eX6_restore_35, eX6_restore_36, zF_6_26, eX6_restore_39, eX6_restore_40, zF_6_10, eX6_restore_43, q_invv, zqo_s, zqc_s, zC_6_67, o_X1_record, zqcv_1, eX6_restore_46, eX6_restore_47, eX6_restore_50, eX6_restore_51, zC_6_201, o_X5_copyFrom, eX6_restore_54, eX6_restore_55, eX6_restore_58, zF_6_60, eX6_restore_61, hk]
    exact ⟨fun _ => hQ M hc zfr_rf, fun q => ⟨fun q2 => absurd ⟨by omega, q2⟩ c, fun _ => hQ M hc zfr_rf⟩⟩
end SL
