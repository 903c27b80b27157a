section ME
variable {lo d m : Nat} {A : aS} {M : zM} {Q : Option zV → zM → Prop}
theorem mOb.rr {rc pl pt mn ln om ol : Int} (ho : mOb M m rc pl pt mn ln om ol) (rc' pl' pt' mn' ln' om' ol' : Int) : mOb (zup M m (Sum.inl (7, [(Sum.inr (Sum.inl (some (m + 1)))), (Sum.inr (Sum.inl (some (m + 2)))), (Sum.inl (rc')), (Sum.inr (Sum.inl (some (m + 3)))), (Sum.inr (Sum.inl (some (m + 4)))), (Sum.inr (Sum.inl (some (m + 5)))), (Sum.inl (pl')), (Sum.inl (pt')), (Sum.inr (Sum.inl (some (m + 6)))), (Sum.inr (Sum.inl (some (m + 7)))), (Sum.inr (Sum.inl (some (m + 8)))), (Sum.inr (Sum.inl (some (m + 9)))), (Sum.inl (mn')), (Sum.inl (ln')), (Sum.inr (Sum.inl (some (m + 10)))), (Sum.inr (Sum.inl (some (m + 11)))), (Sum.inr (Sum.inl (some (m + 12)))), (Sum.inl (om')), (Sum.inl (ol'))]))) m rc' pl' pt' mn' ln' om' ol' := zup_same
theorem mOb.keep {M' : zM} {rc pl pt mn ln om ol : Int} {l h : Nat} (ho : mOb M m rc pl pt mn ln om ol) (hf : zfr M M' l h) (hd : m < l ∨ h ≤ m) : mOb M' m rc pl pt mn ln om ol := (hf _ (by omega)).trans ho
/-- the model's record: the history grows by the state -/
theorem c_mrecord {pt mn ln om ol : Int} (ho : mOb M m (A.2.2.1.1 : Int) (A.2.1.1 : Int) pt mn ln om ol) (hp : mPs M m A) (hw : wfA A) (hQ : ∀ M', mOb M' m (hrN A.2.2.1.1 : Int) (A.2.1.1 : Int) pt mn ln om ol → mPs M' m (rcd A) → (∀ q, q ≠ m → q ≠ m + 2 → M' q = M q) → Q none M') : zCt lo (d + 1) kX7_record 0 0 [(Sum.inr (Sum.inl (some (m))))] M Q := by
  have ho' := ho
  unfold mOb at ho
  obtain ⟨⟨S, h1, h2⟩, ⟨G, h3, h4⟩, ⟨L, h5, h6⟩, ⟨V, h7, h8⟩, P, h9, h10⟩ := id hp
  have hm6 := hw.2.2.1.1
  -- from 50 on: the state is moved behind c shelves
  have lst : ∀ (M1 : zM) (G1 : Nat → Int) (c : Nat), c < 6 → hrN A.2.2.1.1 = c + 1 → mOb M1 m (c : Int) (A.2.1.1 : Int) pt mn ln om ol → M1 (m + 2) = some (Sum.inr (0, 2016, Sum.inl (G1))) → (∀ q, q ≠ m → q ≠ m + 2 → M1 q = M q) → (∀ i, i < c → stI G1 (336 * i) (hrS A.2.2.1.1 A.2.2.1.2 A.1 i)) → hrS A.2.2.1.1 A.2.2.1.2 A.1 c = A.1 → ∀ w, zm lo (d + 1) kX7_record 0 0 Q (0, 0) 50 [some (Sum.inr (Sum.inl (some (m)))), w] [] M1 := by
    intro M1 G1 c hc hn ho1 hG1 hf1 hst hlast w
    have ho1' := ho1
    unfold mOb at ho1
    have r1 : zRr (336 * (c : Int)) := zrr (by omega) (by omega)
    have r2 : zRr ((c : Int) * 336) := zrr (by omega) (by omega)
    have g1 : M1 (m + 1) = _ := (hf1 (m + 1) (by omega) (by omega)).trans h1
    refine zgo [] ?_
    simp only [↓zX_succ, ↓zstp_nil, ↓zstp_cons, ↓reduceIte, zpu_some, zpu_none, zcs, zg, zst, Nat.reduceAdd, Nat.reduceSub, Nat.reduceMul, Nat.reduceEqDiff, Nat.reduceLeDiff, Nat.reduceLT, Int.reduceToNat, Int.reduceAdd, Int.reduceSub, Int.reduceMul, Int.reduceNeg, Int.reduceLE, Int.reduceLT, Int.reduceEq, Int.cast_ofNat_Int, Int.reduceNatCast', true_and, and_true, and_self, Nat.le_refl, Nat.add_zero, Nat.zero_add, Nat.zero_le, Nat.not_lt_zero, or_true, true_or, or_false, false_or, not_true_eq_false, not_false_eq_true, forall_const, true_implies, false_implies, implies_true, zup_same, zup_zup, Int.toNat_natCast, Nat.reduceDiv, List.length_cons, List.length_nil, Nat.succ_ne_zero, ne_eq, reduceCtorEq, zRl_m6, zRl_m5, zRl_m4, zRl_m3, zRl_m2, zRl_m1, zRl_0, zRl_1, zRl_2, zRl_3, zRl_4, zRl_5, zRl_6, zRl_7, zRl_8, zRl_12, zRl_31, zRl_32, zRl_33, zRl_59, zRl_60, zRl_64, zRl_67, zRl_97, zRl_122, zRl_124, zRl_126, zRl_128, zRl_336, zRl_672, zRl_1680, zRl_2016, zRl_7680, o_X7_record, r_X7_record, eX7_record_0, q_aload_0, eX7_record_1, q_getfield, zqg_s, zqv_s, zF_7_46, eX7_record_4, q_bipush, eX7_record_6, q_icmp_ne, eX7_record_9, q_iconst, eX7_record_10, q_istore_1n, q_istore_1i, q_istore_1a, eX7_record_11, q_iload_1, eX7_record_12, q_sipush, eX7_record_15, q_icmp_ge, eX7_record_18, eX7_record_19, zF_7_13, eX7_record_22, eX7_record_23, eX7_record_24, eX7_record_27, eX7_record_28, eX7_record_31, q_iadd, eX7_record_32, q_iaload, zqal_s, eX7_record_33, q_iastore, zqas_s, eX7_record_34, q_iinc_1n, q_iinc_1i, q_iinc_1a, eX7_record_37, q_goto, eX7_record_40, eX7_record_41, q_dup_i, q_dup_a, eX7_record_42, eX7_record_45, eX7_record_46, q_isub, eX7_record_47, q_putfield, q_putfieldR, zqp_s, zqr_s, zqw_s, eX7_record_50, eX7_record_51, zF_7_7, eX7_record_54, eX7_record_55, eX7_record_56, eX7_record_59, eX7_record_60, eX7_record_63, eX7_record_66, q_imul, eX7_record_67, q_invs, zqst_s, zqst_c, zqcp_s, zqc_s, zC_7_50, o_X7_moves, zqcs_4, eX7_record_70, eX7_record_71, eX7_record_72, eX7_record_75, eX7_record_76, eX7_record_77, eX7_record_80, q_return, zqe_s, ho1, r1, r2]
    rw [show (c : Int) * 336 = ((336 * c : Nat) : Int) by omega]
    refine c_moves (f := 0) g1 hG1 (by omega) (by omega) (by omega) (by omega) (by omega) (fun M2 q1 q2 => ?_)
    have n0 : M2 m = _ := (q2 m (by omega)).trans ho1
    have r3 : zRr ((c : Int) + 1) := zrr (by omega) (by omega)
    refine zgo [] ?_
    simp only [↓zX_succ, ↓zstp_nil, ↓zstp_cons, ↓reduceIte, zpu_some, zpu_none, zcs, zg, zst, Nat.reduceAdd, Nat.reduceSub, Nat.reduceMul, Nat.reduceEqDiff, Nat.reduceLeDiff, Nat.reduceLT, Int.reduceToNat, Int.reduceAdd, Int.reduceSub, Int.reduceMul, Int.reduceNeg, Int.reduceLE, Int.reduceLT, Int.reduceEq, Int.cast_ofNat_Int, Int.reduceNatCast', true_and, and_true, and_self, Nat.le_refl, Nat.add_zero, Nat.zero_add, Nat.zero_le, Nat.not_lt_zero, or_true, true_or, or_false, false_or, not_true_eq_false, not_false_eq_true, forall_const, true_implies, false_implies, implies_true, zup_same, zup_zup, Int.toNat_natCast, Nat.reduceDiv, List.length_cons, List.length_nil, Nat.succ_ne_zero, ne_eq, reduceCtorEq, zRl_m6, zRl_m5, zRl_m4, zRl_m3, zRl_m2, zRl_m1, zRl_0, zRl_1, zRl_2, zRl_3, zRl_4, zRl_5, zRl_6, zRl_7, zRl_8, zRl_12, zRl_31, zRl_32, zRl_33, zRl_59, zRl_60, zRl_64, zRl_67, zRl_97, zRl_122, zRl_124, zRl_126, zRl_128, zRl_336, zRl_672, zRl_1680, zRl_2016, zRl_7680, o_X7_record, r_X7_record, eX7_record_0, q_aload_0, eX7_record_1, q_getfield, zqg_s, zqv_s, zF_7_46, eX7_record_4, q_bipush, eX7_record_6, q_icmp_ne, eX7_record_9, q_iconst, eX7_record_10, q_istore_1n, q_istore_1i, q_istore_1a, eX7_record_11, q_iload_1, eX7_record_12, q_sipush, eX7_record_15, q_icmp_ge, eX7_record_18, eX7_record_19, zF_7_13, eX7_record_22, eX7_record_23, eX7_record_24, eX7_record_27, eX7_record_28, eX7_record_31, q_iadd, eX7_record_32, q_iaload, zqal_s, eX7_record_33, q_iastore, zqas_s, eX7_record_34, q_iinc_1n, q_iinc_1i, q_iinc_1a, eX7_record_37, q_goto, eX7_record_40, eX7_record_41, q_dup_i, q_dup_a, eX7_record_42, eX7_record_45, eX7_record_46, q_isub, eX7_record_47, q_putfield, q_putfieldR, zqp_s, zqr_s, zqw_s, eX7_record_50, eX7_record_51, zF_7_7, eX7_record_54, eX7_record_55, eX7_record_56, eX7_record_59, eX7_record_60, eX7_record_63, eX7_record_66, q_imul, eX7_record_67, q_invs, zqst_s, zqst_c, zqcp_s, zqc_s, zC_7_50, o_X7_moves, zqcs_4, eX7_record_70, eX7_record_71, eX7_record_72, eX7_record_75, eX7_record_76, eX7_record_77, eX7_record_80, q_return, zqe_s, n0, r3]
    have fr : ∀ q, q ≠ m → q ≠ m + 2 → zup M2 m (Sum.inl (7, [(Sum.inr (Sum.inl (some (m + 1)))), (Sum.inr (Sum.inl (some (m + 2)))), (Sum.inl ((c : Int) + 1)), (Sum.inr (Sum.inl (some (m + 3)))), (Sum.inr (Sum.inl (some (m + 4)))), (Sum.inr (Sum.inl (some (m + 5)))), (Sum.inl ((A.2.1.1 : Int))), (Sum.inl (pt)), (Sum.inr (Sum.inl (some (m + 6)))), (Sum.inr (Sum.inl (some (m + 7)))), (Sum.inr (Sum.inl (some (m + 8)))), (Sum.inr (Sum.inl (some (m + 9)))), (Sum.inl (mn)), (Sum.inl (ln)), (Sum.inr (Sum.inl (some (m + 10)))), (Sum.inr (Sum.inl (some (m + 11)))), (Sum.inr (Sum.inl (some (m + 12)))), (Sum.inl (om)), (Sum.inl (ol))])) q = M q := by
      intro q a1 a2
      rw [zup_ne (by omega), q2 q (by omega)]
      exact hf1 q a1 a2
    refine hQ _ ?_ ⟨⟨S, (fr _ (by omega) (by omega)).trans h1, h2⟩, ⟨_, (zup_ne (by omega)).trans q1, fun i hi => ?_⟩, ⟨L, (fr _ (by omega) (by omega)).trans h5, h6⟩, ⟨V, (fr _ (by omega) (by omega)).trans h7, h8⟩, P, (fr _ (by omega) (by omega)).trans h9, h10⟩ fr
    · rw [hn, Int.natCast_add]; exact zup_same
    · simp only [rcd, hn] at hi ⊢
      by_cases e : i = c
      · subst e
        rw [hlast]
        refine h2.cg hw.1 (fun j hj => ?_)
        rw [zcp, if_pos (by omega), Nat.add_sub_cancel_left]
      · refine (hst i (by omega)).cg ?_ (fun j hj => ?_)
        · have hwr := wfA_rcd hw
          have := hwr.2.2.1.2 i (by simp only [rcd, hn]; omega)
          exact this
        · rw [zcp, if_neg (by omega)]
  refine zct [some (Sum.inr (Sum.inl (some (m)))), none] rfl (Nat.le_of_ble_eq_true rfl) (by decide +kernel) rfl ?_
  by_cases c6 : A.2.2.1.1 = 6
  · have key : ∀ (n k : Nat) (M1 : zM) (G1 : Nat → Int), k + n = 1680 → M1 (m + 2) = some (Sum.inr (0, 2016, Sum.inl (G1))) → (∀ q, q ≠ m + 2 → M1 q = M q) → (∀ j, G1 j = if j < k then G (j + 336) else G j) → zm lo (d + 1) kX7_record 0 0 Q (0, 0) 11 [some (Sum.inr (Sum.inl (some (m)))), some (Sum.inl ((k : Int)))] [] M1 := by
      intro n
      induction n with
      | zero =>
        intro k M1 G1 hk hG1 hf1 he
        have r1 : zRr (k : Int) := zrr (by omega) (by omega)
        have n0 : M1 m = _ := (hf1 m (by omega)).trans ho
        have r2 : zRr ((A.2.2.1.1 : Int) - 1) := zrr (by omega) (by omega)
        have ek : k = 1680 := by omega
        subst ek
        refine zgo [11, 50] ?_
        simp only [↓zX_succ, ↓zstp_nil, ↓zstp_cons, ↓reduceIte, zpu_some, zpu_none, zcs, zg, zst, Nat.reduceAdd, Nat.reduceSub, Nat.reduceMul, Nat.reduceEqDiff, Nat.reduceLeDiff, Nat.reduceLT, Int.reduceToNat, Int.reduceAdd, Int.reduceSub, Int.reduceMul, Int.reduceNeg, Int.reduceLE, Int.reduceLT, Int.reduceEq, Int.cast_ofNat_Int, Int.reduceNatCast', true_and, and_true, and_self, Nat.le_refl, Nat.add_zero, Nat.zero_add, Nat.zero_le, Nat.not_lt_zero, or_true, true_or, or_false, false_or, not_true_eq_false, not_false_eq_true, forall_const, true_implies, false_implies, implies_true, zup_same, zup_zup, Int.toNat_natCast, Nat.reduceDiv, List.length_cons, List.length_nil, Nat.succ_ne_zero, ne_eq, reduceCtorEq, zRl_m6, zRl_m5, zRl_m4, zRl_m3, zRl_m2, zRl_m1, zRl_0, zRl_1, zRl_2, zRl_3, zRl_4, zRl_5, zRl_6, zRl_7, zRl_8, zRl_12, zRl_31, zRl_32, zRl_33, zRl_59, zRl_60, zRl_64, zRl_67, zRl_97, zRl_122, zRl_124, zRl_126, zRl_128, zRl_336, zRl_672, zRl_1680, zRl_2016, zRl_7680, o_X7_record, r_X7_record, eX7_record_0, q_aload_0, eX7_record_1, q_getfield, zqg_s, zqv_s, zF_7_46, eX7_record_4, q_bipush, eX7_record_6, q_icmp_ne, eX7_record_9, q_iconst, eX7_record_10, q_istore_1n, q_istore_1i, q_istore_1a, eX7_record_11, q_iload_1, eX7_record_12, q_sipush, eX7_record_15, q_icmp_ge, eX7_record_18, eX7_record_19, zF_7_13, eX7_record_22, eX7_record_23, eX7_record_24, eX7_record_27, eX7_record_28, eX7_record_31, q_iadd, eX7_record_32, q_iaload, zqal_s, eX7_record_33, q_iastore, zqas_s, eX7_record_34, q_iinc_1n, q_iinc_1i, q_iinc_1a, eX7_record_37, q_goto, eX7_record_40, eX7_record_41, q_dup_i, q_dup_a, eX7_record_42, eX7_record_45, eX7_record_46, q_isub, eX7_record_47, q_putfield, q_putfieldR, zqp_s, zqr_s, zqw_s, eX7_record_50, eX7_record_51, zF_7_7, eX7_record_54, eX7_record_55, eX7_record_56, eX7_record_59, eX7_record_60, eX7_record_63, eX7_record_66, q_imul, eX7_record_67, q_invs, zqst_s, zqst_c, zqcp_s, zqc_s, zC_7_50, o_X7_moves, zqcs_4, eX7_record_70, eX7_record_71, eX7_record_72, eX7_record_75, eX7_record_76, eX7_record_77, eX7_record_80, q_return, zqe_s, n0, r1, r2]
        refine lst _ G1 5 (by omega) (by rw [hrN, if_neg (by omega)]) ?_ ?_ (fun q a1 a2 => (zup_ne a1).trans (hf1 q a2)) (fun i hi => ?_) ?_ _
        · rw [show ((5 : Nat) : Int) = (A.2.2.1.1 : Int) - 1 by omega]; exact zup_same
        · rw [zup_ne (by omega)]; exact hG1
        · rw [hrS, if_neg (by omega), zu_ne (by omega)]
          refine (h4 (i + 1) (by omega)).cg (hw.2.2.1.2 (i + 1) (by omega)) (fun j hj => ?_)
          rw [he, if_pos (by omega)]
          congr 1
          omega
        · rw [hrS, if_neg (by omega), zu_same]
      | succ n ih =>
        intro k M1 G1 hk hG1 hf1 he
        have r1 : zRr (k : Int) := zrr (by omega) (by omega)
        have r2 : zRr ((k : Int) + 336) := zrr (by omega) (by omega)
        have n0 : M1 m = _ := (hf1 m (by omega)).trans ho
        refine zgo [11, 50] ?_
        simp only [↓zX_succ, ↓zstp_nil, ↓zstp_cons, ↓reduceIte, zpu_some, zpu_none, zcs, zg, zst, Nat.reduceAdd, Nat.reduceSub, Nat.reduceMul, Nat.reduceEqDiff, Nat.reduceLeDiff, Nat.reduceLT, Int.reduceToNat, Int.reduceAdd, Int.reduceSub, Int.reduceMul, Int.reduceNeg, Int.reduceLE, Int.reduceLT, Int.reduceEq, Int.cast_ofNat_Int, Int.reduceNatCast', true_and, and_true, and_self, Nat.le_refl, Nat.add_zero, Nat.zero_add, Nat.zero_le, Nat.not_lt_zero, or_true, true_or, or_false, false_or, not_true_eq_false, not_false_eq_true, forall_const, true_implies, false_implies, implies_true, zup_same, zup_zup, Int.toNat_natCast, Nat.reduceDiv, List.length_cons, List.length_nil, Nat.succ_ne_zero, ne_eq, reduceCtorEq, zRl_m6, zRl_m5, zRl_m4, zRl_m3, zRl_m2, zRl_m1, zRl_0, zRl_1, zRl_2, zRl_3, zRl_4, zRl_5, zRl_6, zRl_7, zRl_8, zRl_12, zRl_31, zRl_32, zRl_33, zRl_59, zRl_60, zRl_64, zRl_67, zRl_97, zRl_122, zRl_124, zRl_126, zRl_128, zRl_336, zRl_672, zRl_1680, zRl_2016, zRl_7680, o_X7_record, r_X7_record, eX7_record_0, q_aload_0, eX7_record_1, q_getfield, zqg_s, zqv_s, zF_7_46, eX7_record_4, q_bipush, eX7_record_6, q_icmp_ne, eX7_record_9, q_iconst, eX7_record_10, q_istore_1n, q_istore_1i, q_istore_1a, eX7_record_11, q_iload_1, eX7_record_12, q_sipush, eX7_record_15, q_icmp_ge, eX7_record_18, eX7_record_19, zF_7_13, eX7_record_22, eX7_record_23, eX7_record_24, eX7_record_27, eX7_record_28, eX7_record_31, q_iadd, eX7_record_32, q_iaload, zqal_s, eX7_record_33, q_iastore, zqas_s, eX7_record_34, q_iinc_1n, q_iinc_1i, q_iinc_1a, eX7_record_37, q_goto, eX7_record_40, eX7_record_41, q_dup_i, q_dup_a, eX7_record_42, eX7_record_45, eX7_record_46, q_isub, eX7_record_47, q_putfield, q_putfieldR, zqp_s, zqr_s, zqw_s, eX7_record_50, eX7_record_51, zF_7_7, eX7_record_54, eX7_record_55, eX7_record_56, eX7_record_59, eX7_record_60, eX7_record_63, eX7_record_66, q_imul, eX7_record_67, q_invs, zqst_s, zqst_c, zqcp_s, zqc_s, zC_7_50, o_X7_moves, zqcs_4, eX7_record_70, eX7_record_71, eX7_record_72, eX7_record_75, eX7_record_76, eX7_record_77, eX7_record_80, q_return, zqe_s, n0, r1, r2, hG1]
        refine ⟨fun q => by omega, fun _ => ?_⟩
        skip
    skip
  · skip
end ME
