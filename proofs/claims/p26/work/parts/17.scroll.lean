def bJn (p : Nat) (b b2 : Nat → Nat) : Nat → Nat := fun j => if j ≤ p then b j else b p + b2 (j - p)
def fJn (n : Nat) (f f2 : Nat → Int) : Nat → Int := fun j => if j < n then f j else f2 (j - n)
section SC8
variable {lo d a o p p2 : Nat} {b b2 : Nat → Nat} {f f2 : Nat → Int} {M : zM} {Q : Option zV → zM → Prop}
theorem g_sewOn (hs : sG M a p b f) (hw : wS p b f) (ho : sG M o p2 b2 f2) (hw2 : wS p2 b2 f2) (hd : a + 3 ≤ o ∨ o + 3 ≤ a) (hp : p + p2 ≤ 6) (hb : b p + b2 p2 ≤ 60) (hQ : ∀ M', sG M' a (p + p2) (bJn p b b2) (fJn (b p) f f2) → zfr M M' a (a + 3) → Q none M') : zCt lo (d + 3) kX4_sewOn 0 0 [(Sum.inr (Sum.inl (some (a)))), (Sum.inr (Sum.inl (some (o))))] M Q := by
  have hp2 := hw2.2.1
  have b20 := hw2.2.2.1
  obtain ⟨E, L, h1, h2, h3⟩ := id hs
  have hpr : zRr (p2 : Int) := zrr (by omega) (by omega)
  have inner : ∀ (i : Nat), i < p2 → (∀ M', (∃ E' L', sAt M' a ((p + (i + 1) : Nat) : Int) E' L' ∧ (∀ k, k < p + (i + 1) → E' k = (bJn p b b2 (k + 1) : Int)) ∧ ∀ j, j < b p + b2 (i + 1) → L' j = fJn (b p) f f2 j) → zfr M M' a (a + 3) → ∀ z : Int, zm lo (d + 3) kX4_sewOn 0 0 Q (0, 0) 2 [some (Sum.inr (Sum.inl (some (a)))), some (Sum.inr (Sum.inl (some (o)))), some (Sum.inl ((i : Int) + 1)), some (Sum.inl (z))] [] M') →
      ∀ (n t : Nat) (M' : zM) (E' L' : Nat → Int), t + n = b2 (i + 1) - b2 i → sAt M' a ((p + (i + 1) : Nat) : Int) E' L' → zfr M M' a (a + 3) → (∀ k, k < p + i → E' k = (bJn p b b2 (k + 1) : Int)) → E' (p + i) = ((b p + b2 i + t : Nat) : Int) → (∀ j, j < b p + b2 i + t → L' j = fJn (b p) f f2 j) → zm lo (d + 3) kX4_sewOn 0 0 Q (0, 0) 20 [some (Sum.inr (Sum.inl (some (a)))), some (Sum.inr (Sum.inl (some (o)))), some (Sum.inl ((i : Int))), some (Sum.inl ((b2 i : Int) + t))] [] M' := by
    intro i hi out n
    have hlt := hw2.2.2.2.1 i hi
    have htop := hw2.le (show i + 1 ≤ p2 by omega) (Nat.le_refl p2)
    induction n with
    | zero =>
      intro t M' E' L' ht hs' hf hE hEp hL
      have ho' := ho.keep hf (by omega)
      have g1 := hs'.1
      obtain ⟨E2, L2, k1, k2, k3⟩ := id ho'
      have g2 := k1.1
      have r1 : zRr ((b2 i : Int) + t) := zrr (by omega) (by omega)
      have r2 : zRr (b2 (i + 1) : Int) := zrr (by omega) (by omega)
      refine zgo [2] ?_
      simp only [↓zX_succ, ↓zstp_nil, ↓zstp_cons, ↓reduceIte, zpu_some, zpu_none, zcs, zg, zst, Nat.reduceAdd, Nat.reduceSub, Nat.reduceMul, Nat.reduceEqDiff, Nat.reduceLeDiff, Nat.reduceLT, Int.reduceToNat, Int.reduceAdd, Int.reduceSub, Int.reduceMul, Int.reduceNeg, Int.reduceLE, Int.reduceLT, Int.reduceEq, Int.cast_ofNat_Int, Int.reduceNatCast', true_and, and_true, and_self, Nat.le_refl, Nat.add_zero, Nat.zero_add, Nat.zero_le, Nat.not_lt_zero, or_true, true_or, or_false, false_or, not_true_eq_false, not_false_eq_true, forall_const, true_implies, false_implies, implies_true, zup_same, zup_zup, Int.toNat_natCast, Nat.reduceDiv, List.length_cons, List.length_nil, Nat.succ_ne_zero, ne_eq, reduceCtorEq, zRl_m6, zRl_m5, zRl_m4, zRl_m3, zRl_m2, zRl_m1, zRl_0, zRl_1, zRl_2, zRl_3, zRl_4, zRl_5, zRl_6, zRl_7, zRl_8, zRl_9, zRl_10, zRl_11, zRl_12, zRl_13, zRl_14, zRl_15, zRl_16, zRl_17, zRl_18, zRl_19, zRl_20, zRl_21, zRl_22, zRl_23, zRl_31, zRl_32, zRl_33, zRl_49, zRl_59, zRl_60, zRl_64, zRl_97, zRl_122, zRl_124, zRl_126, zRl_128, zRl_717809397, zRl_1067285329, zRl_2147483647, o_X4_sewOn, r_X4_sewOn, eX4_sewOn_0, q_iconst, eX4_sewOn_1, q_istore_2n, q_istore_2i, q_istore_2a, eX4_sewOn_2, q_iload_2, eX4_sewOn_3, q_aload_1, eX4_sewOn_4, q_getfield, zqg_s, zqv_s, zF_4_18, eX4_sewOn_7, q_icmp_ge, eX4_sewOn_10, q_aload_0, eX4_sewOn_11, q_invv, zqo_s, zqc_s, zC_4_22, o_X4_addPatch, zqcv_0, eX4_sewOn_14, eX4_sewOn_15, eX4_sewOn_16, zC_4_42, o_X4_startOf, zqcv_1, eX4_sewOn_19, q_istore_3n, q_istore_3i, q_istore_3a, eX4_sewOn_20, q_iload_3, eX4_sewOn_21, eX4_sewOn_22, eX4_sewOn_23, zC_4_39, o_X4_endOf, eX4_sewOn_26, eX4_sewOn_29, eX4_sewOn_30, eX4_sewOn_31, eX4_sewOn_32, zC_4_52, o_X4_letterAt, eX4_sewOn_35, zC_4_59, o_X4_addLetter, eX4_sewOn_38, q_iinc_3n, q_iinc_3i, q_iinc_3a, eX4_sewOn_41, q_goto, eX4_sewOn_44, q_iinc_2n, q_iinc_2i, q_iinc_2a, eX4_sewOn_47, eX4_sewOn_50, q_return, zqe_s, g1, g2]
      refine g_endOf ho' hw2 hi ?_
      refine zgo [2] ?_
      simp only [↓zX_succ, ↓zstp_nil, ↓zstp_cons, ↓reduceIte, zpu_some, zpu_none, zcs, zg, zst, Nat.reduceAdd, Nat.reduceSub, Nat.reduceMul, Nat.reduceEqDiff, Nat.reduceLeDiff, Nat.reduceLT, Int.reduceToNat, Int.reduceAdd, Int.reduceSub, Int.reduceMul, Int.reduceNeg, Int.reduceLE, Int.reduceLT, Int.reduceEq, Int.cast_ofNat_Int, Int.reduceNatCast', true_and, and_true, and_self, Nat.le_refl, Nat.add_zero, Nat.zero_add, Nat.zero_le, Nat.not_lt_zero, or_true, true_or, or_false, false_or, not_true_eq_false, not_false_eq_true, forall_const, true_implies, false_implies, implies_true, zup_same, zup_zup, Int.toNat_natCast, Nat.reduceDiv, List.length_cons, List.length_nil, Nat.succ_ne_zero, ne_eq, reduceCtorEq, zRl_m6, zRl_m5, zRl_m4, zRl_m3, zRl_m2, zRl_m1, zRl_0, zRl_1, zRl_2, zRl_3, zRl_4, zRl_5, zRl_6, zRl_7, zRl_8, zRl_9, zRl_10, zRl_11, zRl_12, zRl_13, zRl_14, zRl_15, zRl_16, zRl_17, zRl_18, zRl_19, zRl_20, zRl_21, zRl_22, zRl_23, zRl_31, zRl_32, zRl_33, zRl_49, zRl_59, zRl_60, zRl_64, zRl_97, zRl_122, zRl_124, zRl_126, zRl_128, zRl_717809397, zRl_1067285329, zRl_2147483647, o_X4_sewOn, r_X4_sewOn, eX4_sewOn_0, q_iconst, eX4_sewOn_1, q_istore_2n, q_istore_2i, q_istore_2a, eX4_sewOn_2, q_iload_2, eX4_sewOn_3, q_aload_1, eX4_sewOn_4, q_getfield, zqg_s, zqv_s, zF_4_18, eX4_sewOn_7, q_icmp_ge, eX4_sewOn_10, q_aload_0, eX4_sewOn_11, q_invv, zqo_s, zqc_s, zC_4_22, o_X4_addPatch, zqcv_0, eX4_sewOn_14, eX4_sewOn_15, eX4_sewOn_16, zC_4_42, o_X4_startOf, zqcv_1, eX4_sewOn_19, q_istore_3n, q_istore_3i, q_istore_3a, eX4_sewOn_20, q_iload_3, eX4_sewOn_21, eX4_sewOn_22, eX4_sewOn_23, zC_4_39, o_X4_endOf, eX4_sewOn_26, eX4_sewOn_29, eX4_sewOn_30, eX4_sewOn_31, eX4_sewOn_32, zC_4_52, o_X4_letterAt, eX4_sewOn_35, zC_4_59, o_X4_addLetter, eX4_sewOn_38, q_iinc_3n, q_iinc_3i, q_iinc_3a, eX4_sewOn_41, q_goto, eX4_sewOn_44, q_iinc_2n, q_iinc_2i, q_iinc_2a, eX4_sewOn_47, eX4_sewOn_50, q_return, zqe_s, g1, g2, r1, r2]
      refine ⟨fun _ => ?_, fun q => by omega⟩
      refine out M' ⟨E', L', hs', fun k hk => ?_, fun j hj => ?_⟩ hf _
      · by_cases c : k = p + i
        · subst c
          rw [hEp, bJn, if_neg (by omega), show p + i + 1 - p = i + 1 by omega]
          congr 1
          omega
        · exact hE k (by omega)
      · exact hL j (by omega)
    | succ n ih =>
      intro t M' E' L' ht hs' hf hE hEp hL
      have ho' := ho.keep hf (by omega)
      have g1 := hs'.1
      obtain ⟨E2, L2, k1, k2, k3⟩ := id ho'
      have g2 := k1.1
      have r1 : zRr ((b2 i : Int) + t) := zrr (by omega) (by omega)
      have r2 : zRr (b2 (i + 1) : Int) := zrr (by omega) (by omega)
      refine zgo [2] ?_
      simp only [↓zX_succ, ↓zstp_nil, ↓zstp_cons, ↓reduceIte, zpu_some, zpu_none, zcs, zg, zst, Nat.reduceAdd, Nat.reduceSub, Nat.reduceMul, Nat.reduceEqDiff, Nat.reduceLeDiff, Nat.reduceLT, Int.reduceToNat, Int.reduceAdd, Int.reduceSub, Int.reduceMul, Int.reduceNeg, Int.reduceLE, Int.reduceLT, Int.reduceEq, Int.cast_ofNat_Int, Int.reduceNatCast', true_and, and_true, and_self, Nat.le_refl, Nat.add_zero, Nat.zero_add, Nat.zero_le, Nat.not_lt_zero, or_true, true_or, or_false, false_or, not_true_eq_false, not_false_eq_true, forall_const, true_implies, false_implies, implies_true, zup_same, zup_zup, Int.toNat_natCast, Nat.reduceDiv, List.length_cons, List.length_nil, Nat.succ_ne_zero, ne_eq, reduceCtorEq, zRl_m6, zRl_m5, zRl_m4, zRl_m3, zRl_m2, zRl_m1, zRl_0, zRl_1, zRl_2, zRl_3, zRl_4, zRl_5, zRl_6, zRl_7, zRl_8, zRl_9, zRl_10, zRl_11, zRl_12, zRl_13, zRl_14, zRl_15, zRl_16, zRl_17, zRl_18, zRl_19, zRl_20, zRl_21, zRl_22, zRl_23, zRl_31, zRl_32, zRl_33, zRl_49, zRl_59, zRl_60, zRl_64, zRl_97, zRl_122, zRl_124, zRl_126, zRl_128, zRl_717809397, zRl_1067285329, zRl_2147483647, o_X4_sewOn, r_X4_sewOn, eX4_sewOn_0, q_iconst, eX4_sewOn_1, q_istore_2n, q_istore_2i, q_istore_2a, eX4_sewOn_2, q_iload_2, eX4_sewOn_3, q_aload_1, eX4_sewOn_4, q_getfield, zqg_s, zqv_s, zF_4_18, eX4_sewOn_7, q_icmp_ge, eX4_sewOn_10, q_aload_0, eX4_sewOn_11, q_invv, zqo_s, zqc_s, zC_4_22, o_X4_addPatch, zqcv_0, eX4_sewOn_14, eX4_sewOn_15, eX4_sewOn_16, zC_4_42, o_X4_startOf, zqcv_1, eX4_sewOn_19, q_istore_3n, q_istore_3i, q_istore_3a, eX4_sewOn_20, q_iload_3, eX4_sewOn_21, eX4_sewOn_22, eX4_sewOn_23, zC_4_39, o_X4_endOf, eX4_sewOn_26, eX4_sewOn_29, eX4_sewOn_30, eX4_sewOn_31, eX4_sewOn_32, zC_4_52, o_X4_letterAt, eX4_sewOn_35, zC_4_59, o_X4_addLetter, eX4_sewOn_38, q_iinc_3n, q_iinc_3i, q_iinc_3a, eX4_sewOn_41, q_goto, eX4_sewOn_44, q_iinc_2n, q_iinc_2i, q_iinc_2a, eX4_sewOn_47, eX4_sewOn_50, q_return, zqe_s, g1, g2]
      refine g_endOf ho' hw2 hi ?_
      refine zgo [2] ?_
      simp only [↓zX_succ, ↓zstp_nil, ↓zstp_cons, ↓reduceIte, zpu_some, zpu_none, zcs, zg, zst, Nat.reduceAdd, Nat.reduceSub, Nat.reduceMul, Nat.reduceEqDiff, Nat.reduceLeDiff, Nat.reduceLT, Int.reduceToNat, Int.reduceAdd, Int.reduceSub, Int.reduceMul, Int.reduceNeg, Int.reduceLE, Int.reduceLT, Int.reduceEq, Int.cast_ofNat_Int, Int.reduceNatCast', true_and, and_true, and_self, Nat.le_refl, Nat.add_zero, Nat.zero_add, Nat.zero_le, Nat.not_lt_zero, or_true, true_or, or_false, false_or, not_true_eq_false, not_false_eq_true, forall_const, true_implies, false_implies, implies_true, zup_same, zup_zup, Int.toNat_natCast, Nat.reduceDiv, List.length_cons, List.length_nil, Nat.succ_ne_zero, ne_eq, reduceCtorEq, zRl_m6, zRl_m5, zRl_m4, zRl_m3, zRl_m2, zRl_m1, zRl_0, zRl_1, zRl_2, zRl_3, zRl_4, zRl_5, zRl_6, zRl_7, zRl_8, zRl_9, zRl_10, zRl_11, zRl_12, zRl_13, zRl_14, zRl_15, zRl_16, zRl_17, zRl_18, zRl_19, zRl_20, zRl_21, zRl_22, zRl_23, zRl_31, zRl_32, zRl_33, zRl_49, zRl_59, zRl_60, zRl_64, zRl_97, zRl_122, zRl_124, zRl_126, zRl_128, zRl_717809397, zRl_1067285329, zRl_2147483647, o_X4_sewOn, r_X4_sewOn, eX4_sewOn_0, q_iconst, eX4_sewOn_1, q_istore_2n, q_istore_2i, q_istore_2a, eX4_sewOn_2, q_iload_2, eX4_sewOn_3, q_aload_1, eX4_sewOn_4, q_getfield, zqg_s, zqv_s, zF_4_18, eX4_sewOn_7, q_icmp_ge, eX4_sewOn_10, q_aload_0, eX4_sewOn_11, q_invv, zqo_s, zqc_s, zC_4_22, o_X4_addPatch, zqcv_0, eX4_sewOn_14, eX4_sewOn_15, eX4_sewOn_16, zC_4_42, o_X4_startOf, zqcv_1, eX4_sewOn_19, q_istore_3n, q_istore_3i, q_istore_3a, eX4_sewOn_20, q_iload_3, eX4_sewOn_21, eX4_sewOn_22, eX4_sewOn_23, zC_4_39, o_X4_endOf, eX4_sewOn_26, eX4_sewOn_29, eX4_sewOn_30, eX4_sewOn_31, eX4_sewOn_32, zC_4_52, o_X4_letterAt, eX4_sewOn_35, zC_4_59, o_X4_addLetter, eX4_sewOn_38, q_iinc_3n, q_iinc_3i, q_iinc_3a, eX4_sewOn_41, q_goto, eX4_sewOn_44, q_iinc_2n, q_iinc_2i, q_iinc_2a, eX4_sewOn_47, eX4_sewOn_50, q_return, zqe_s, g1, g2, r1, r2]
      refine ⟨fun q => by omega, fun _ => ?_⟩
      rw [show (b2 i : Int) + t = ((b2 i + t : Nat) : Int) by omega]
      refine g_letterAt ho' hw2 (by omega) ?_
      refine zgo [2] ?_
      simp only [↓zX_succ, ↓zstp_nil, ↓zstp_cons, ↓reduceIte, zpu_some, zpu_none, zcs, zg, zst, Nat.reduceAdd, Nat.reduceSub, Nat.reduceMul, Nat.reduceEqDiff, Nat.reduceLeDiff, Nat.reduceLT, Int.reduceToNat, Int.reduceAdd, Int.reduceSub, Int.reduceMul, Int.reduceNeg, Int.reduceLE, Int.reduceLT, Int.reduceEq, Int.cast_ofNat_Int, Int.reduceNatCast', true_and, and_true, and_self, Nat.le_refl, Nat.add_zero, Nat.zero_add, Nat.zero_le, Nat.not_lt_zero, or_true, true_or, or_false, false_or, not_true_eq_false, not_false_eq_true, forall_const, true_implies, false_implies, implies_true, zup_same, zup_zup, Int.toNat_natCast, Nat.reduceDiv, List.length_cons, List.length_nil, Nat.succ_ne_zero, ne_eq, reduceCtorEq, zRl_m6, zRl_m5, zRl_m4, zRl_m3, zRl_m2, zRl_m1, zRl_0, zRl_1, zRl_2, zRl_3, zRl_4, zRl_5, zRl_6, zRl_7, zRl_8, zRl_9, zRl_10, zRl_11, zRl_12, zRl_13, zRl_14, zRl_15, zRl_16, zRl_17, zRl_18, zRl_19, zRl_20, zRl_21, zRl_22, zRl_23, zRl_31, zRl_32, zRl_33, zRl_49, zRl_59, zRl_60, zRl_64, zRl_97, zRl_122, zRl_124, zRl_126, zRl_128, zRl_717809397, zRl_1067285329, zRl_2147483647, o_X4_sewOn, r_X4_sewOn, eX4_sewOn_0, q_iconst, eX4_sewOn_1, q_istore_2n, q_istore_2i, q_istore_2a, eX4_sewOn_2, q_iload_2, eX4_sewOn_3, q_aload_1, eX4_sewOn_4, q_getfield, zqg_s, zqv_s, zF_4_18, eX4_sewOn_7, q_icmp_ge, eX4_sewOn_10, q_aload_0, eX4_sewOn_11, q_invv, zqo_s, zqc_s, zC_4_22, o_X4_addPatch, zqcv_0, eX4_sewOn_14, eX4_sewOn_15, eX4_sewOn_16, zC_4_42, o_X4_startOf, zqcv_1, eX4_sewOn_19, q_istore_3n, q_istore_3i, q_istore_3a, eX4_sewOn_20, q_iload_3, eX4_sewOn_21, eX4_sewOn_22, eX4_sewOn_23, zC_4_39, o_X4_endOf, eX4_sewOn_26, eX4_sewOn_29, eX4_sewOn_30, eX4_sewOn_31, eX4_sewOn_32, zC_4_52, o_X4_letterAt, eX4_sewOn_35, zC_4_59, o_X4_addLetter, eX4_sewOn_38, q_iinc_3n, q_iinc_3i, q_iinc_3a, eX4_sewOn_41, q_goto, eX4_sewOn_44, q_iinc_2n, q_iinc_2i, q_iinc_2a, eX4_sewOn_47, eX4_sewOn_50, q_return, zqe_s, g1, g2]
      have e1 : ((((p + (i + 1) : Nat) : Int)) - 1).toNat = p + i := by omega
      refine c_addLetter hs' (by omega) (by rw [e1, hEp]; omega) (fun M2 q1 q2 => ?_)
      rw [e1, hEp, Int.toNat_natCast] at q1
      have g1b := q1.1
      refine zgo [2, 20] ?_
      simp only [↓zX_succ, ↓zstp_nil, ↓zstp_cons, ↓reduceIte, zpu_some, zpu_none, zcs, zg, zst, Nat.reduceAdd, Nat.reduceSub, Nat.reduceMul, Nat.reduceEqDiff, Nat.reduceLeDiff, Nat.reduceLT, Int.reduceToNat, Int.reduceAdd, Int.reduceSub, Int.reduceMul, Int.reduceNeg, Int.reduceLE, Int.reduceLT, Int.reduceEq, Int.cast_ofNat_Int, Int.reduceNatCast', true_and, and_true, and_self, Nat.le_refl, Nat.add_zero, Nat.zero_add, Nat.zero_le, Nat.not_lt_zero, or_true, true_or, or_false, false_or, not_true_eq_false, not_false_eq_true, forall_const, true_implies, false_implies, implies_true, zup_same, zup_zup, Int.toNat_natCast, Nat.reduceDiv, List.length_cons, List.length_nil, Nat.succ_ne_zero, ne_eq, reduceCtorEq, zRl_m6, zRl_m5, zRl_m4, zRl_m3, zRl_m2, zRl_m1, zRl_0, zRl_1, zRl_2, zRl_3, zRl_4, zRl_5, zRl_6, zRl_7, zRl_8, zRl_9, zRl_10, zRl_11, zRl_12, zRl_13, zRl_14, zRl_15, zRl_16, zRl_17, zRl_18, zRl_19, zRl_20, zRl_21, zRl_22, zRl_23, zRl_31, zRl_32, zRl_33, zRl_49, zRl_59, zRl_60, zRl_64, zRl_97, zRl_122, zRl_124, zRl_126, zRl_128, zRl_717809397, zRl_1067285329, zRl_2147483647, o_X4_sewOn, r_X4_sewOn, eX4_sewOn_0, q_iconst, eX4_sewOn_1, q_istore_2n, q_istore_2i, q_istore_2a, eX4_sewOn_2, q_iload_2, eX4_sewOn_3, q_aload_1, eX4_sewOn_4, q_getfield, zqg_s, zqv_s, zF_4_18, eX4_sewOn_7, q_icmp_ge, eX4_sewOn_10, q_aload_0, eX4_sewOn_11, q_invv, zqo_s, zqc_s, zC_4_22, o_X4_addPatch, zqcv_0, eX4_sewOn_14, eX4_sewOn_15, eX4_sewOn_16, zC_4_42, o_X4_startOf, zqcv_1, eX4_sewOn_19, q_istore_3n, q_istore_3i, q_istore_3a, eX4_sewOn_20, q_iload_3, eX4_sewOn_21, eX4_sewOn_22, eX4_sewOn_23, zC_4_39, o_X4_endOf, eX4_sewOn_26, eX4_sewOn_29, eX4_sewOn_30, eX4_sewOn_31, eX4_sewOn_32, zC_4_52, o_X4_letterAt, eX4_sewOn_35, zC_4_59, o_X4_addLetter, eX4_sewOn_38, q_iinc_3n, q_iinc_3i, q_iinc_3a, eX4_sewOn_41, q_goto, eX4_sewOn_44, q_iinc_2n, q_iinc_2i, q_iinc_2a, eX4_sewOn_47, eX4_sewOn_50, q_return, zqe_s, g1b]
      rw [show ((b2 i + t : Nat) : Int) + 1 = (b2 i : Int) + ((t + 1 : Nat) : Int) by omega]
      refine ih (t + 1) M2 _ _ (by omega) q1 (hf.tr q2) (fun k hk => ?_) ?_ (fun j hj => ?_)
      · rw [zu_ne (by omega)]; exact hE k hk
      · rw [zu_same]; omega
      · by_cases c : j = b p + b2 i + t
        · subst c
          rw [zu_same, fJn, if_neg (by omega)]
          congr 1
          omega
        · rw [zu_ne c]
          exact hL j (by omega)
  have outer : ∀ (n i : Nat) (M' : zM) (w : Option zV), i + n = p2 → (w = none ∨ ∃ z, w = some (Sum.inl (z))) → (∃ E' L', sAt M' a ((p + i : Nat) : Int) E' L' ∧ (∀ k, k < p + i → E' k = (bJn p b b2 (k + 1) : Int)) ∧ ∀ j, j < b p + b2 i → L' j = fJn (b p) f f2 j) → zfr M M' a (a + 3) → zm lo (d + 3) kX4_sewOn 0 0 Q (0, 0) 2 [some (Sum.inr (Sum.inl (some (a)))), some (Sum.inr (Sum.inl (some (o)))), some (Sum.inl ((i : Int))), w] [] M' := by
    intro n
    induction n with
    | zero =>
      intro i M' w hi hwn ⟨E', L', hs', hE, hL⟩ hf
      obtain ⟨E2, L2, k1, k2, k3⟩ := id (ho.keep hf (by omega))
      have g2 := k1.1
      have r1 : zRr (i : Int) := zrr (by omega) (by omega)
      refine zgo [2] ?_
      simp only [↓zX_succ, ↓zstp_nil, ↓zstp_cons, ↓reduceIte, zpu_some, zpu_none, zcs, zg, zst, Nat.reduceAdd, Nat.reduceSub, Nat.reduceMul, Nat.reduceEqDiff, Nat.reduceLeDiff, Nat.reduceLT, Int.reduceToNat, Int.reduceAdd, Int.reduceSub, Int.reduceMul, Int.reduceNeg, Int.reduceLE, Int.reduceLT, Int.reduceEq, Int.cast_ofNat_Int, Int.reduceNatCast', true_and, and_true, and_self, Nat.le_refl, Nat.add_zero, Nat.zero_add, Nat.zero_le, Nat.not_lt_zero, or_true, true_or, or_false, false_or, not_true_eq_false, not_false_eq_true, forall_const, true_implies, false_implies, implies_true, zup_same, zup_zup, Int.toNat_natCast, Nat.reduceDiv, List.length_cons, List.length_nil, Nat.succ_ne_zero, ne_eq, reduceCtorEq, zRl_m6, zRl_m5, zRl_m4, zRl_m3, zRl_m2, zRl_m1, zRl_0, zRl_1, zRl_2, zRl_3, zRl_4, zRl_5, zRl_6, zRl_7, zRl_8, zRl_9, zRl_10, zRl_11, zRl_12, zRl_13, zRl_14, zRl_15, zRl_16, zRl_17, zRl_18, zRl_19, zRl_20, zRl_21, zRl_22, zRl_23, zRl_31, zRl_32, zRl_33, zRl_49, zRl_59, zRl_60, zRl_64, zRl_97, zRl_122, zRl_124, zRl_126, zRl_128, zRl_717809397, zRl_1067285329, zRl_2147483647, o_X4_sewOn, r_X4_sewOn, eX4_sewOn_0, q_iconst, eX4_sewOn_1, q_istore_2n, q_istore_2i, q_istore_2a, eX4_sewOn_2, q_iload_2, eX4_sewOn_3, q_aload_1, eX4_sewOn_4, q_getfield, zqg_s, zqv_s, zF_4_18, eX4_sewOn_7, q_icmp_ge, eX4_sewOn_10, q_aload_0, eX4_sewOn_11, q_invv, zqo_s, zqc_s, zC_4_22, o_X4_addPatch, zqcv_0, eX4_sewOn_14, eX4_sewOn_15, eX4_sewOn_16, zC_4_42, o_X4_startOf, zqcv_1, eX4_sewOn_19, q_istore_3n, q_istore_3i, q_istore_3a, eX4_sewOn_20, q_iload_3, eX4_sewOn_21, eX4_sewOn_22, eX4_sewOn_23, zC_4_39, o_X4_endOf, eX4_sewOn_26, eX4_sewOn_29, eX4_sewOn_30, eX4_sewOn_31, eX4_sewOn_32, zC_4_52, o_X4_letterAt, eX4_sewOn_35, zC_4_59, o_X4_addLetter, eX4_sewOn_38, q_iinc_3n, q_iinc_3i, q_iinc_3a, eX4_sewOn_41, q_goto, eX4_sewOn_44, q_iinc_2n, q_iinc_2i, q_iinc_2a, eX4_sewOn_47, eX4_sewOn_50, q_return, zqe_s, g2, r1, hpr]
      have e : i = p2 := by omega
      subst e
      refine ⟨fun _ => hQ M' ⟨E', L', hs', hE, fun j hj => hL j ?_⟩ hf, fun q => by omega⟩
      simp only [bJn] at hj
      rw [if_neg (by have := hw2.1; omega), show p + i - p = i by omega] at hj
      exact hj
    | succ n ih =>
      intro i M' w hi hwn ⟨E', L', hs', hE, hL⟩ hf
      have hlt := hw2.2.2.2.1 i (by omega)
      have htop := hw2.le (show i + 1 ≤ p2 by omega) (Nat.le_refl p2)
      have ho' := ho.keep hf (by omega)
      obtain ⟨E2, L2, k1, k2, k3⟩ := id ho'
      have g1 := hs'.1
      have g2 := k1.1
      have r1 : zRr (i : Int) := zrr (by omega) (by omega)
      refine zgo [2] ?_
      simp only [↓zX_succ, ↓zstp_nil, ↓zstp_cons, ↓reduceIte, zpu_some, zpu_none, zcs, zg, zst, Nat.reduceAdd, Nat.reduceSub, Nat.reduceMul, Nat.reduceEqDiff, Nat.reduceLeDiff, Nat.reduceLT, Int.reduceToNat, Int.reduceAdd, Int.reduceSub, Int.reduceMul, Int.reduceNeg, Int.reduceLE, Int.reduceLT, Int.reduceEq, Int.cast_ofNat_Int, Int.reduceNatCast', true_and, and_true, and_self, Nat.le_refl, Nat.add_zero, Nat.zero_add, Nat.zero_le, Nat.not_lt_zero, or_true, true_or, or_false, false_or, not_true_eq_false, not_false_eq_true, forall_const, true_implies, false_implies, implies_true, zup_same, zup_zup, Int.toNat_natCast, Nat.reduceDiv, List.length_cons, List.length_nil, Nat.succ_ne_zero, ne_eq, reduceCtorEq, zRl_m6, zRl_m5, zRl_m4, zRl_m3, zRl_m2, zRl_m1, zRl_0, zRl_1, zRl_2, zRl_3, zRl_4, zRl_5, zRl_6, zRl_7, zRl_8, zRl_9, zRl_10, zRl_11, zRl_12, zRl_13, zRl_14, zRl_15, zRl_16, zRl_17, zRl_18, zRl_19, zRl_20, zRl_21, zRl_22, zRl_23, zRl_31, zRl_32, zRl_33, zRl_49, zRl_59, zRl_60, zRl_64, zRl_97, zRl_122, zRl_124, zRl_126, zRl_128, zRl_717809397, zRl_1067285329, zRl_2147483647, o_X4_sewOn, r_X4_sewOn, eX4_sewOn_0, q_iconst, eX4_sewOn_1, q_istore_2n, q_istore_2i, q_istore_2a, eX4_sewOn_2, q_iload_2, eX4_sewOn_3, q_aload_1, eX4_sewOn_4, q_getfield, zqg_s, zqv_s, zF_4_18, eX4_sewOn_7, q_icmp_ge, eX4_sewOn_10, q_aload_0, eX4_sewOn_11, q_invv, zqo_s, zqc_s, zC_4_22, o_X4_addPatch, zqcv_0, eX4_sewOn_14, eX4_sewOn_15, eX4_sewOn_16, zC_4_42, o_X4_startOf, zqcv_1, eX4_sewOn_19, q_istore_3n, q_istore_3i, q_istore_3a, eX4_sewOn_20, q_iload_3, eX4_sewOn_21, eX4_sewOn_22, eX4_sewOn_23, zC_4_39, o_X4_endOf, eX4_sewOn_26, eX4_sewOn_29, eX4_sewOn_30, eX4_sewOn_31, eX4_sewOn_32, zC_4_52, o_X4_letterAt, eX4_sewOn_35, zC_4_59, o_X4_addLetter, eX4_sewOn_38, q_iinc_3n, q_iinc_3i, q_iinc_3a, eX4_sewOn_41, q_goto, eX4_sewOn_44, q_iinc_2n, q_iinc_2i, q_iinc_2a, eX4_sewOn_47, eX4_sewOn_50, q_return, zqe_s, g1, g2, r1, hpr]
      refine ⟨fun q => by omega, fun _ => ?_⟩
      refine c_addPatch hs' (by omega) (fun M2 q1 q2 => ?_)
      rw [Int.toNat_natCast] at q1
      have hst : sSt E' ((p + i : Nat) : Int) = ((b p + b2 i : Nat) : Int) := by
        unfold sSt
        have hp1 := hw.1
        rw [if_pos (by omega), show (((p + i : Nat) : Int) - 1).toNat = p + i - 1 by omega, hE (p + i - 1) (by omega), show p + i - 1 + 1 = p + i by omega, bJn]
        by_cases c : i = 0
        · subst c
          rw [if_pos (by omega), b20]
          rfl
        · rw [if_neg (by omega), show p + i - p = i by omega]
      rw [hst] at q1
      have ho2 := ho.keep (hf.tr q2) (by omega)
      obtain ⟨E3, L3, k4, k5, k6⟩ := id ho2
      have g1b := q1.1
      have g2b := k4.1
      refine zgo [2] ?_
      simp only [↓zX_succ, ↓zstp_nil, ↓zstp_cons, ↓reduceIte, zpu_some, zpu_none, zcs, zg, zst, Nat.reduceAdd, Nat.reduceSub, Nat.reduceMul, Nat.reduceEqDiff, Nat.reduceLeDiff, Nat.reduceLT, Int.reduceToNat, Int.reduceAdd, Int.reduceSub, Int.reduceMul, Int.reduceNeg, Int.reduceLE, Int.reduceLT, Int.reduceEq, Int.cast_ofNat_Int, Int.reduceNatCast', true_and, and_true, and_self, Nat.le_refl, Nat.add_zero, Nat.zero_add, Nat.zero_le, Nat.not_lt_zero, or_true, true_or, or_false, false_or, not_true_eq_false, not_false_eq_true, forall_const, true_implies, false_implies, implies_true, zup_same, zup_zup, Int.toNat_natCast, Nat.reduceDiv, List.length_cons, List.length_nil, Nat.succ_ne_zero, ne_eq, reduceCtorEq, zRl_m6, zRl_m5, zRl_m4, zRl_m3, zRl_m2, zRl_m1, zRl_0, zRl_1, zRl_2, zRl_3, zRl_4, zRl_5, zRl_6, zRl_7, zRl_8, zRl_9, zRl_10, zRl_11, zRl_12, zRl_13, zRl_14, zRl_15, zRl_16, zRl_17, zRl_18, zRl_19, zRl_20, zRl_21, zRl_22, zRl_23, zRl_31, zRl_32, zRl_33, zRl_49, zRl_59, zRl_60, zRl_64, zRl_97, zRl_122, zRl_124, zRl_126, zRl_128, zRl_717809397, zRl_1067285329, zRl_2147483647, o_X4_sewOn, r_X4_sewOn, eX4_sewOn_0, q_iconst, eX4_sewOn_1, q_istore_2n, q_istore_2i, q_istore_2a, eX4_sewOn_2, q_iload_2, eX4_sewOn_3, q_aload_1, eX4_sewOn_4, q_getfield, zqg_s, zqv_s, zF_4_18, eX4_sewOn_7, q_icmp_ge, eX4_sewOn_10, q_aload_0, eX4_sewOn_11, q_invv, zqo_s, zqc_s, zC_4_22, o_X4_addPatch, zqcv_0, eX4_sewOn_14, eX4_sewOn_15, eX4_sewOn_16, zC_4_42, o_X4_startOf, zqcv_1, eX4_sewOn_19, q_istore_3n, q_istore_3i, q_istore_3a, eX4_sewOn_20, q_iload_3, eX4_sewOn_21, eX4_sewOn_22, eX4_sewOn_23, zC_4_39, o_X4_endOf, eX4_sewOn_26, eX4_sewOn_29, eX4_sewOn_30, eX4_sewOn_31, eX4_sewOn_32, zC_4_52, o_X4_letterAt, eX4_sewOn_35, zC_4_59, o_X4_addLetter, eX4_sewOn_38, q_iinc_3n, q_iinc_3i, q_iinc_3a, eX4_sewOn_41, q_goto, eX4_sewOn_44, q_iinc_2n, q_iinc_2i, q_iinc_2a, eX4_sewOn_47, eX4_sewOn_50, q_return, zqe_s, g1b, g2b]
      refine g_startOf ho2 hw2 (by omega) ?_
      have fin := inner i (by omega) (fun M4 x1 x2 w4 => ?_) (b2 (i + 1) - b2 i) 0 M2 _ _ (by omega) (by rw [show ((p + (i + 1) : Nat) : Int) = ((p + i : Nat) : Int) + 1 by omega]; exact q1) (hf.tr q2) (fun k hk => by rw [zu_ne (by omega)]; exact hE k hk) (by rw [zu_same]; rfl) (fun j hj => hL j (by omega))
      · rcases hwn with rfl | ⟨z, rfl⟩
        all_goals
          refine zgo [2, 20] ?_
          simp only [↓zX_succ, ↓zstp_nil, ↓zstp_cons, ↓reduceIte, zpu_some, zpu_none, zcs, zg, zst, Nat.reduceAdd, Nat.reduceSub, Nat.reduceMul, Nat.reduceEqDiff, Nat.reduceLeDiff, Nat.reduceLT, Int.reduceToNat, Int.reduceAdd, Int.reduceSub, Int.reduceMul, Int.reduceNeg, Int.reduceLE, Int.reduceLT, Int.reduceEq, Int.cast_ofNat_Int, Int.reduceNatCast', true_and, and_true, and_self, Nat.le_refl, Nat.add_zero, Nat.zero_add, Nat.zero_le, Nat.not_lt_zero, or_true, true_or, or_false, false_or, not_true_eq_false, not_false_eq_true, forall_const, true_implies, false_implies, implies_true, zup_same, zup_zup, Int.toNat_natCast, Nat.reduceDiv, List.length_cons, List.length_nil, Nat.succ_ne_zero, ne_eq, reduceCtorEq, zRl_m6, zRl_m5, zRl_m4, zRl_m3, zRl_m2, zRl_m1, zRl_0, zRl_1, zRl_2, zRl_3, zRl_4, zRl_5, zRl_6, zRl_7, zRl_8, zRl_9, zRl_10, zRl_11, zRl_12, zRl_13, zRl_14, zRl_15, zRl_16, zRl_17, zRl_18, zRl_19, zRl_20, zRl_21, zRl_22, zRl_23, zRl_31, zRl_32, zRl_33, zRl_49, zRl_59, zRl_60, zRl_64, zRl_97, zRl_122, zRl_124, zRl_126, zRl_128, zRl_717809397, zRl_1067285329, zRl_2147483647, o_X4_sewOn, r_X4_sewOn, eX4_sewOn_0, q_iconst, eX4_sewOn_1, q_istore_2n, q_istore_2i, q_istore_2a, eX4_sewOn_2, q_iload_2, eX4_sewOn_3, q_aload_1, eX4_sewOn_4, q_getfield, zqg_s, zqv_s, zF_4_18, eX4_sewOn_7, q_icmp_ge, eX4_sewOn_10, q_aload_0, eX4_sewOn_11, q_invv, zqo_s, zqc_s, zC_4_22, o_X4_addPatch, zqcv_0, eX4_sewOn_14, eX4_sewOn_15, eX4_sewOn_16, zC_4_42, o_X4_startOf, zqcv_1, eX4_sewOn_19, q_istore_3n, q_istore_3i, q_istore_3a, eX4_sewOn_20, q_iload_3, eX4_sewOn_21, eX4_sewOn_22, eX4_sewOn_23, zC_4_39, o_X4_endOf, eX4_sewOn_26, eX4_sewOn_29, eX4_sewOn_30, eX4_sewOn_31, eX4_sewOn_32, zC_4_52, o_X4_letterAt, eX4_sewOn_35, zC_4_59, o_X4_addLetter, eX4_sewOn_38, q_iinc_3n, q_iinc_3i, q_iinc_3a, eX4_sewOn_41, q_goto, eX4_sewOn_44, q_iinc_2n, q_iinc_2i, q_iinc_2a, eX4_sewOn_47, eX4_sewOn_50, q_return, zqe_s, g1b, g2b]
          simpa using fin
      · rw [show (i : Int) + 1 = ((i + 1 : Nat) : Int) by omega]
        exact ih (i + 1) M4 _ (by omega) (Or.inr ⟨_, rfl⟩) x1 x2
  refine zct [some (Sum.inr (Sum.inl (some (a)))), some (Sum.inr (Sum.inl (some (o)))), none, none] rfl (Nat.le_of_ble_eq_true rfl) (by decide +kernel) rfl ?_
  refine zgo [2] ?_
  simp only [↓zX_succ, ↓zstp_nil, ↓zstp_cons, ↓reduceIte, zpu_some, zpu_none, zcs, zg, zst, Nat.reduceAdd, Nat.reduceSub, Nat.reduceMul, Nat.reduceEqDiff, Nat.reduceLeDiff, Nat.reduceLT, Int.reduceToNat, Int.reduceAdd, Int.reduceSub, Int.reduceMul, Int.reduceNeg, Int.reduceLE, Int.reduceLT, Int.reduceEq, Int.cast_ofNat_Int, Int.reduceNatCast', true_and, and_true, and_self, Nat.le_refl, Nat.add_zero, Nat.zero_add, Nat.zero_le, Nat.not_lt_zero, or_true, true_or, or_false, false_or, not_true_eq_false, not_false_eq_true, forall_const, true_implies, false_implies, implies_true, zup_same, zup_zup, Int.toNat_natCast, Nat.reduceDiv, List.length_cons, List.length_nil, Nat.succ_ne_zero, ne_eq, reduceCtorEq, zRl_m6, zRl_m5, zRl_m4, zRl_m3, zRl_m2, zRl_m1, zRl_0, zRl_1, zRl_2, zRl_3, zRl_4, zRl_5, zRl_6, zRl_7, zRl_8, zRl_9, zRl_10, zRl_11, zRl_12, zRl_13, zRl_14, zRl_15, zRl_16, zRl_17, zRl_18, zRl_19, zRl_20, zRl_21, zRl_22, zRl_23, zRl_31, zRl_32, zRl_33, zRl_49, zRl_59, zRl_60, zRl_64, zRl_97, zRl_122, zRl_124, zRl_126, zRl_128, zRl_717809397, zRl_1067285329, zRl_2147483647, o_X4_sewOn, r_X4_sewOn, eX4_sewOn_0, q_iconst, eX4_sewOn_1, q_istore_2n, q_istore_2i, q_istore_2a, eX4_sewOn_2, q_iload_2, eX4_sewOn_3, q_aload_1, eX4_sewOn_4, q_getfield, zqg_s, zqv_s, zF_4_18, eX4_sewOn_7, q_icmp_ge, eX4_sewOn_10, q_aload_0, eX4_sewOn_11, q_invv, zqo_s, zqc_s, zC_4_22, o_X4_addPatch, zqcv_0, eX4_sewOn_14, eX4_sewOn_15, eX4_sewOn_16, zC_4_42, o_X4_startOf, zqcv_1, eX4_sewOn_19, q_istore_3n, q_istore_3i, q_istore_3a, eX4_sewOn_20, q_iload_3, eX4_sewOn_21, eX4_sewOn_22, eX4_sewOn_23, zC_4_39, o_X4_endOf, eX4_sewOn_26, eX4_sewOn_29, eX4_sewOn_30, eX4_sewOn_31, eX4_sewOn_32, zC_4_52, o_X4_letterAt, eX4_sewOn_35, zC_4_59, o_X4_addLetter, eX4_sewOn_38, q_iinc_3n, q_iinc_3i, q_iinc_3a, eX4_sewOn_41, q_goto, eX4_sewOn_44, q_iinc_2n, q_iinc_2i, q_iinc_2a, eX4_sewOn_47, eX4_sewOn_50, q_return, zqe_s]
  refine outer p2 0 M none (by omega) (Or.inl rfl) ⟨E, L, h1, fun k hk => ?_, fun j hj => ?_⟩ zfr_rf
  · rw [bJn, if_pos (by omega)]; exact h2 k (by omega)
  · rw [b20] at hj; rw [fJn, if_pos (by omega)]; exact h3 j (by omega)
end SC8
section SC9
variable {lo d a o p p2 : Nat} {b b2 : Nat → Nat} {f f2 : Nat → Int} {M : zM} {Q : Option zV → zM → Prop}
/-- any three cells of a scroll -/
def sAny (M : zM) (a : Nat) : Prop := ∃ p E L, sAt M a p E L
theorem sG.any (h : sG M a p b f) : sAny M a := by
  obtain ⟨E, L, h1, -⟩ := h
  exact ⟨_, E, L, h1⟩
theorem sAny.keep {M M' : zM} {a l h : Nat} (hs : sAny M a) (hf : zfr M M' l h) (hd : a + 3 ≤ l ∨ h ≤ a) : sAny M' a := by
  obtain ⟨p, E, L, h1⟩ := hs
  exact ⟨p, E, L, h1.keep hf hd⟩
theorem g_copyFrom (hs : sAny M a) (ho : sG M o p2 b2 f2) (hw2 : wS p2 b2 f2) (hd : a + 3 ≤ o ∨ o + 3 ≤ a) (hQ : ∀ M', sG M' a p2 b2 f2 → zfr M M' a (a + 3) → Q none M') : zCt lo (d + 1) kX4_copyFrom 0 0 [(Sum.inr (Sum.inl (some (a)))), (Sum.inr (Sum.inl (some (o))))] M Q := by
  obtain ⟨p, E, L, h1⟩ := hs
  obtain ⟨E2, L2, k1, k2, k3⟩ := ho
  have hp2 := hw2.2.1
  have hb6 := hw2.2.2.2.2.1
  refine c_copyFrom h1 k1 hd (fun M' q1 q2 => hQ M' ⟨_, _, q1, fun k hk => ?_, fun j hj => ?_⟩ q2)
  · rw [zcp, if_pos (by omega)]
    simpa using k2 k hk
  · rw [zcp, if_pos (by omega)]
    simpa using k3 j hj
end SC9
