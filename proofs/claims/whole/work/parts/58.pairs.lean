theorem RD_pos {t : Sc} (hw : wS t.1 t.2.1 t.2.2) : 0 < (RD t).length := by
  have h : rwW t 0 ∈ RD t := (RD_ways hw).mpr ⟨0, by have := Nat.two_pow_pos t.1; omega, rfl⟩
  exact List.length_pos_of_mem h
theorem cmp_4 {t t2 : Sc} (hw : wS t.1 t.2.1 t.2.2) (hw2 : wS t2.1 t2.2.1 t2.2.2) : cmp t t2 = 4 ↔ RD t = RD t2 := by
  have h := srt_eq (RD_srt hw) (RD_srt hw2)
  have hp := RD_pos hw
  rw [← h, cmp]
  have e : (List.filter (fun z => decide (z ∈ RD t2)) (RD t)).length = bth t t2 := rfl
  rw [e]
  constructor
  · intro h4
    split at h4
    · omega
    · split at h4
      · split at h4
        · omega
        · omega
      · split at h4 <;> omega
  · rintro ⟨h1, h2⟩
    rw [if_neg (by omega), if_pos (by omega), if_pos (by omega)]
theorem cmp_rr {t t2 : Sc} : zRr (cmp t t2) := by
  rw [cmp]
  split
  · exact zrr (by decide) (by decide)
  · split
    · split <;> exact zrr (by decide) (by decide)
    · split <;> exact zrr (by decide) (by decide)
section MS
variable {lo d m : Nat} {A : aS} {M : zM} {Q : Option zV → zM → Prop}
theorem c_samePairs (hd : mdG M m A) (hw : wfA A) (hQ : ∀ M', mdG M' m A → (∀ q, q ≠ m → (q < m + 6 ∨ m + 13 ≤ q) → M' q = M q) → Q (some (Sum.inl ((prS A.1.1 A.1.2 : Int)))) M') : zCt lo (d + 6) kX7_samePairs 0 0 [(Sum.inr (Sum.inl (some (m))))] M Q := by
  have h5 := hw.1.1
  have rn : zRr (A.1.1 : Int) := zrr (by omega) (by omega)
  have key : ∀ (n i : Nat) (M1 : zM) (w : Option zV), i + n = A.1.1 → (w = none ∨ ∃ z, w = some (Sum.inl (z))) → mdG M1 m A → (∀ q, q ≠ m → (q < m + 6 ∨ m + 13 ≤ q) → M1 q = M q) → zm lo (d + 6) kX7_samePairs 0 0 Q (0, 0) 4 [some (Sum.inr (Sum.inl (some (m)))), some (Sum.inl ((zsm (fun i => zcnt (fun j => decide (RD (A.1.2 i) = RD (A.1.2 j))) i) i : Int))), some (Sum.inl ((i : Int))), w] [] M1 := by
    intro n
    induction n with
    | zero =>
      intro i M1 w hi hww hd1 hf
      have ri : zRr (i : Int) := zrr (by omega) (by omega)
      obtain ⟨⟨pt, mn, ln, om, ol, ho⟩, ⟨⟨S, h1, h2⟩, hrest⟩, hk⟩ := id hd1
      unfold mOb at ho
      have h0 := h2.1
      refine zgo [4, 16] ?_
      simp only [↓zX_succ, ↓zstp_nil, ↓zstp_cons, ↓reduceIte, zpu_some, zpu_none, zcs, zg, zst, Nat.reduceAdd, Nat.reduceSub, Nat.reduceMul, Nat.reduceEqDiff, Nat.reduceLeDiff, Nat.reduceLT, Int.reduceToNat, Int.reduceAdd, Int.reduceSub, Int.reduceMul, Int.reduceNeg, Int.reduceLE, Int.reduceLT, Int.reduceEq, Int.cast_ofNat_Int, Int.reduceNatCast', true_and, and_true, and_self, Nat.le_refl, Nat.add_zero, Nat.zero_add, Nat.zero_le, Nat.not_lt_zero, or_true, true_or, or_false, false_or, not_true_eq_false, not_false_eq_true, forall_const, true_implies, false_implies, implies_true, zup_same, zup_zup, Int.toNat_natCast, Nat.reduceDiv, List.length_cons, List.length_nil, Nat.succ_ne_zero, ne_eq, reduceCtorEq, zRl_m6, zRl_m5, zRl_m4, zRl_m3, zRl_m2, zRl_m1, zRl_0, zRl_1, zRl_2, zRl_3, zRl_4, zRl_5, zRl_6, zRl_7, zRl_8, zRl_12, zRl_31, zRl_32, zRl_33, zRl_59, zRl_60, zRl_64, zRl_67, zRl_97, zRl_122, zRl_124, zRl_126, zRl_128, zRl_336, zRl_672, zRl_1680, zRl_2016, zRl_7680, o_X7_samePairs, r_X7_samePairs, eX7_samePairs_0, q_iconst, eX7_samePairs_1, q_istore_1n, q_istore_1i, q_istore_1a, eX7_samePairs_2, eX7_samePairs_3, q_istore_2n, q_istore_2i, q_istore_2a, eX7_samePairs_4, q_iload_2, eX7_samePairs_5, q_aload_0, eX7_samePairs_6, q_getfield, zqg_s, zqv_s, zF_7_7, eX7_samePairs_9, eX7_samePairs_10, q_iaload, zqal_s, eX7_samePairs_11, q_icmp_ge, eX7_samePairs_14, eX7_samePairs_15, q_istore_3n, q_istore_3i, q_istore_3a, eX7_samePairs_16, q_iload_3, eX7_samePairs_17, eX7_samePairs_18, eX7_samePairs_21, q_iload_1, eX7_samePairs_22, eX7_samePairs_23, eX7_samePairs_24, eX7_samePairs_25, q_invv, zqo_s, zqc_s, zC_7_173, o_X7_howTheyStand, zqcv_2, eX7_samePairs_28, eX7_samePairs_29, q_icmp_ne, eX7_samePairs_32, eX7_samePairs_33, q_goto, eX7_samePairs_36, eX7_samePairs_37, q_iadd, eX7_samePairs_38, eX7_samePairs_39, q_iinc_3n, q_iinc_3i, q_iinc_3a, eX7_samePairs_42, eX7_samePairs_45, q_iinc_2n, q_iinc_2i, q_iinc_2a, eX7_samePairs_48, eX7_samePairs_51, eX7_samePairs_52, q_ireturn, zqi_i, zqi_z, ho, h1, h0, rn, ri]
      refine ⟨fun _ => ?_, fun q => by omega⟩
      have k0 := hQ M1 hd1 hf
      rw [prS, show A.1.1 = i by omega] at k0
      exact k0
    | succ n ih =>
      intro i M1 w hi hww hd1 hf
      have ri : zRr (i : Int) := zrr (by omega) (by omega)
      have hz := zsm_le (F := fun i => zcnt (fun j => decide (RD (A.1.2 i) = RD (A.1.2 j))) i) (K := 5) i (fun j hj => Nat.le_trans (zcnt_le j) (by omega))
      have inner : ∀ (n' j : Nat) (M2 : zM), j + n' = i → mdG M2 m A → (∀ q, q ≠ m → (q < m + 6 ∨ m + 13 ≤ q) → M2 q = M q) → zm lo (d + 6) kX7_samePairs 0 0 Q (0, 0) 16 [some (Sum.inr (Sum.inl (some (m)))), some (Sum.inl (((zsm (fun i => zcnt (fun j => decide (RD (A.1.2 i) = RD (A.1.2 j))) i) i + zcnt (fun j => decide (RD (A.1.2 i) = RD (A.1.2 j))) j : Nat) : Int))), some (Sum.inl ((i : Int))), some (Sum.inl ((j : Int)))] [] M2 := by
        intro n'
        induction n' with
        | zero =>
          intro j M2 hj hd2 hf2
          have rj : zRr (j : Int) := zrr (by omega) (by omega)
          have e : j = i := by omega
          subst e
          refine zgo [4, 16] ?_
          simp only [↓zX_succ, ↓zstp_nil, ↓zstp_cons, ↓reduceIte, zpu_some, zpu_none, zcs, zg, zst, Nat.reduceAdd, Nat.reduceSub, Nat.reduceMul, Nat.reduceEqDiff, Nat.reduceLeDiff, Nat.reduceLT, Int.reduceToNat, Int.reduceAdd, Int.reduceSub, Int.reduceMul, Int.reduceNeg, Int.reduceLE, Int.reduceLT, Int.reduceEq, Int.cast_ofNat_Int, Int.reduceNatCast', true_and, and_true, and_self, Nat.le_refl, Nat.add_zero, Nat.zero_add, Nat.zero_le, Nat.not_lt_zero, or_true, true_or, or_false, false_or, not_true_eq_false, not_false_eq_true, forall_const, true_implies, false_implies, implies_true, zup_same, zup_zup, Int.toNat_natCast, Nat.reduceDiv, List.length_cons, List.length_nil, Nat.succ_ne_zero, ne_eq, reduceCtorEq, zRl_m6, zRl_m5, zRl_m4, zRl_m3, zRl_m2, zRl_m1, zRl_0, zRl_1, zRl_2, zRl_3, zRl_4, zRl_5, zRl_6, zRl_7, zRl_8, zRl_12, zRl_31, zRl_32, zRl_33, zRl_59, zRl_60, zRl_64, zRl_67, zRl_97, zRl_122, zRl_124, zRl_126, zRl_128, zRl_336, zRl_672, zRl_1680, zRl_2016, zRl_7680, o_X7_samePairs, r_X7_samePairs, eX7_samePairs_0, q_iconst, eX7_samePairs_1, q_istore_1n, q_istore_1i, q_istore_1a, eX7_samePairs_2, eX7_samePairs_3, q_istore_2n, q_istore_2i, q_istore_2a, eX7_samePairs_4, q_iload_2, eX7_samePairs_5, q_aload_0, eX7_samePairs_6, q_getfield, zqg_s, zqv_s, zF_7_7, eX7_samePairs_9, eX7_samePairs_10, q_iaload, zqal_s, eX7_samePairs_11, q_icmp_ge, eX7_samePairs_14, eX7_samePairs_15, q_istore_3n, q_istore_3i, q_istore_3a, eX7_samePairs_16, q_iload_3, eX7_samePairs_17, eX7_samePairs_18, eX7_samePairs_21, q_iload_1, eX7_samePairs_22, eX7_samePairs_23, eX7_samePairs_24, eX7_samePairs_25, q_invv, zqo_s, zqc_s, zC_7_173, o_X7_howTheyStand, zqcv_2, eX7_samePairs_28, eX7_samePairs_29, q_icmp_ne, eX7_samePairs_32, eX7_samePairs_33, q_goto, eX7_samePairs_36, eX7_samePairs_37, q_iadd, eX7_samePairs_38, eX7_samePairs_39, q_iinc_3n, q_iinc_3i, q_iinc_3a, eX7_samePairs_42, eX7_samePairs_45, q_iinc_2n, q_iinc_2i, q_iinc_2a, eX7_samePairs_48, eX7_samePairs_51, eX7_samePairs_52, q_ireturn, zqi_i, zqi_z, ri]
          rw [show (j : Int) + 1 = ((j + 1 : Nat) : Int) by omega]
          exact ⟨fun _ => ih (j + 1) M2 _ (by omega) (Or.inr ⟨_, rfl⟩) hd2 hf2, fun q => by omega⟩
        | succ n' ihn =>
          intro j M2 hj hd2 hf2
          have rj : zRr (j : Int) := zrr (by omega) (by omega)
          obtain ⟨⟨pt, mn, ln, om, ol, ho⟩, hp, hk⟩ := id hd2
          have ho' := ho
          unfold mOb at ho
          have hcz := zcnt_le (P := fun j => decide (RD (A.1.2 i) = RD (A.1.2 j))) j
          have r1 : zRr (((zsm (fun i => zcnt (fun j => decide (RD (A.1.2 i) = RD (A.1.2 j))) i) i + zcnt (fun j => decide (RD (A.1.2 i) = RD (A.1.2 j))) j : Nat) : Int) + 1) := zrr (by omega) (by omega)
          have r0 : zRr ((zsm (fun i => zcnt (fun j => decide (RD (A.1.2 i) = RD (A.1.2 j))) i) i + zcnt (fun j => decide (RD (A.1.2 i) = RD (A.1.2 j))) j : Nat) : Int) := zrr (by omega) (by omega)
          have ez : zcnt (fun j => decide (RD (A.1.2 i) = RD (A.1.2 j))) (j + 1) = zcnt (fun j => decide (RD (A.1.2 i) = RD (A.1.2 j))) j + (if decide (RD (A.1.2 i) = RD (A.1.2 j)) = true then 1 else 0) := rfl
          have rcm := cmp_rr (t := A.1.2 i) (t2 := A.1.2 j)
          have h4 := cmp_4 (hw.1.2 i (by omega)).1 (hw.1.2 j (by omega)).1
          refine zgo [4, 16] ?_
          simp only [↓zX_succ, ↓zstp_nil, ↓zstp_cons, ↓reduceIte, zpu_some, zpu_none, zcs, zg, zst, Nat.reduceAdd, Nat.reduceSub, Nat.reduceMul, Nat.reduceEqDiff, Nat.reduceLeDiff, Nat.reduceLT, Int.reduceToNat, Int.reduceAdd, Int.reduceSub, Int.reduceMul, Int.reduceNeg, Int.reduceLE, Int.reduceLT, Int.reduceEq, Int.cast_ofNat_Int, Int.reduceNatCast', true_and, and_true, and_self, Nat.le_refl, Nat.add_zero, Nat.zero_add, Nat.zero_le, Nat.not_lt_zero, or_true, true_or, or_false, false_or, not_true_eq_false, not_false_eq_true, forall_const, true_implies, false_implies, implies_true, zup_same, zup_zup, Int.toNat_natCast, Nat.reduceDiv, List.length_cons, List.length_nil, Nat.succ_ne_zero, ne_eq, reduceCtorEq, zRl_m6, zRl_m5, zRl_m4, zRl_m3, zRl_m2, zRl_m1, zRl_0, zRl_1, zRl_2, zRl_3, zRl_4, zRl_5, zRl_6, zRl_7, zRl_8, zRl_12, zRl_31, zRl_32, zRl_33, zRl_59, zRl_60, zRl_64, zRl_67, zRl_97, zRl_122, zRl_124, zRl_126, zRl_128, zRl_336, zRl_672, zRl_1680, zRl_2016, zRl_7680, o_X7_samePairs, r_X7_samePairs, eX7_samePairs_0, q_iconst, eX7_samePairs_1, q_istore_1n, q_istore_1i, q_istore_1a, eX7_samePairs_2, eX7_samePairs_3, q_istore_2n, q_istore_2i, q_istore_2a, eX7_samePairs_4, q_iload_2, eX7_samePairs_5, q_aload_0, eX7_samePairs_6, q_getfield, zqg_s, zqv_s, zF_7_7, eX7_samePairs_9, eX7_samePairs_10, q_iaload, zqal_s, eX7_samePairs_11, q_icmp_ge, eX7_samePairs_14, eX7_samePairs_15, q_istore_3n, q_istore_3i, q_istore_3a, eX7_samePairs_16, q_iload_3, eX7_samePairs_17, eX7_samePairs_18, eX7_samePairs_21, q_iload_1, eX7_samePairs_22, eX7_samePairs_23, eX7_samePairs_24, eX7_samePairs_25, q_invv, zqo_s, zqc_s, zC_7_173, o_X7_howTheyStand, zqcv_2, eX7_samePairs_28, eX7_samePairs_29, q_icmp_ne, eX7_samePairs_32, eX7_samePairs_33, q_goto, eX7_samePairs_36, eX7_samePairs_37, q_iadd, eX7_samePairs_38, eX7_samePairs_39, q_iinc_3n, q_iinc_3i, q_iinc_3a, eX7_samePairs_42, eX7_samePairs_45, q_iinc_2n, q_iinc_2i, q_iinc_2a, eX7_samePairs_48, eX7_samePairs_51, eX7_samePairs_52, q_ireturn, zqi_i, zqi_z, ri, rj, ho]
          refine ⟨fun q => by omega, fun _ => ?_⟩
          refine c_howTheyStand ho' hp hk hw (by omega) (by omega) (fun M3 q1 q2 => ?_)
          have k0 := ihn (j + 1) M3 (by omega) q1 (fun q c1 c2 => (q2 q c1 c2).trans (hf2 q c1 c2))
          refine zgo [4, 16] ?_
          simp only [↓zX_succ, ↓zstp_nil, ↓zstp_cons, ↓reduceIte, zpu_some, zpu_none, zcs, zg, zst, Nat.reduceAdd, Nat.reduceSub, Nat.reduceMul, Nat.reduceEqDiff, Nat.reduceLeDiff, Nat.reduceLT, Int.reduceToNat, Int.reduceAdd, Int.reduceSub, Int.reduceMul, Int.reduceNeg, Int.reduceLE, Int.reduceLT, Int.reduceEq, Int.cast_ofNat_Int, Int.reduceNatCast', true_and, and_true, and_self, Nat.le_refl, Nat.add_zero, Nat.zero_add, Nat.zero_le, Nat.not_lt_zero, or_true, true_or, or_false, false_or, not_true_eq_false, not_false_eq_true, forall_const, true_implies, false_implies, implies_true, zup_same, zup_zup, Int.toNat_natCast, Nat.reduceDiv, List.length_cons, List.length_nil, Nat.succ_ne_zero, ne_eq, reduceCtorEq, zRl_m6, zRl_m5, zRl_m4, zRl_m3, zRl_m2, zRl_m1, zRl_0, zRl_1, zRl_2, zRl_3, zRl_4, zRl_5, zRl_6, zRl_7, zRl_8, zRl_12, zRl_31, zRl_32, zRl_33, zRl_59, zRl_60, zRl_64, zRl_67, zRl_97, zRl_122, zRl_124, zRl_126, zRl_128, zRl_336, zRl_672, zRl_1680, zRl_2016, zRl_7680, o_X7_samePairs, r_X7_samePairs, eX7_samePairs_0, q_iconst, eX7_samePairs_1, q_istore_1n, q_istore_1i, q_istore_1a, eX7_samePairs_2, eX7_samePairs_3, q_istore_2n, q_istore_2i, q_istore_2a, eX7_samePairs_4, q_iload_2, eX7_samePairs_5, q_aload_0, eX7_samePairs_6, q_getfield, zqg_s, zqv_s, zF_7_7, eX7_samePairs_9, eX7_samePairs_10, q_iaload, zqal_s, eX7_samePairs_11, q_icmp_ge, eX7_samePairs_14, eX7_samePairs_15, q_istore_3n, q_istore_3i, q_istore_3a, eX7_samePairs_16, q_iload_3, eX7_samePairs_17, eX7_samePairs_18, eX7_samePairs_21, q_iload_1, eX7_samePairs_22, eX7_samePairs_23, eX7_samePairs_24, eX7_samePairs_25, q_invv, zqo_s, zqc_s, zC_7_173, o_X7_howTheyStand, zqcv_2, eX7_samePairs_28, eX7_samePairs_29, q_icmp_ne, eX7_samePairs_32, eX7_samePairs_33, q_goto, eX7_samePairs_36, eX7_samePairs_37, q_iadd, eX7_samePairs_38, eX7_samePairs_39, q_iinc_3n, q_iinc_3i, q_iinc_3a, eX7_samePairs_42, eX7_samePairs_45, q_iinc_2n, q_iinc_2i, q_iinc_2a, eX7_samePairs_48, eX7_samePairs_51, eX7_samePairs_52, q_ireturn, zqi_i, zqi_z, rj, r1, r0, rcm, Int.add_zero]
          refine ⟨fun c => ?_, fun c => ?_⟩
          · rw [if_neg (by simpa using fun h => c (h4.mpr h))] at ez
            rw [ez.trans (Nat.add_zero _), Int.natCast_add j 1] at k0
            exact k0
          · rw [if_pos (decide_eq_true (h4.mp (Decidable.not_not.mp c)))] at ez
            rw [ez, ← Nat.add_assoc, Int.natCast_add _ 1, Int.natCast_add j 1] at k0
            exact k0
      obtain ⟨⟨pt, mn, ln, om, ol, ho⟩, ⟨⟨S, h1, h2⟩, hrest⟩, hk⟩ := id hd1
      unfold mOb at ho
      have h0 := h2.1
      rcases hww with rfl | ⟨z, rfl⟩
      all_goals
        refine zgo [4, 16] ?_
        simp only [↓zX_succ, ↓zstp_nil, ↓zstp_cons, ↓reduceIte, zpu_some, zpu_none, zcs, zg, zst, Nat.reduceAdd, Nat.reduceSub, Nat.reduceMul, Nat.reduceEqDiff, Nat.reduceLeDiff, Nat.reduceLT, Int.reduceToNat, Int.reduceAdd, Int.reduceSub, Int.reduceMul, Int.reduceNeg, Int.reduceLE, Int.reduceLT, Int.reduceEq, Int.cast_ofNat_Int, Int.reduceNatCast', true_and, and_true, and_self, Nat.le_refl, Nat.add_zero, Nat.zero_add, Nat.zero_le, Nat.not_lt_zero, or_true, true_or, or_false, false_or, not_true_eq_false, not_false_eq_true, forall_const, true_implies, false_implies, implies_true, zup_same, zup_zup, Int.toNat_natCast, Nat.reduceDiv, List.length_cons, List.length_nil, Nat.succ_ne_zero, ne_eq, reduceCtorEq, zRl_m6, zRl_m5, zRl_m4, zRl_m3, zRl_m2, zRl_m1, zRl_0, zRl_1, zRl_2, zRl_3, zRl_4, zRl_5, zRl_6, zRl_7, zRl_8, zRl_12, zRl_31, zRl_32, zRl_33, zRl_59, zRl_60, zRl_64, zRl_67, zRl_97, zRl_122, zRl_124, zRl_126, zRl_128, zRl_336, zRl_672, zRl_1680, zRl_2016, zRl_7680, o_X7_samePairs, r_X7_samePairs, eX7_samePairs_0, q_iconst, eX7_samePairs_1, q_istore_1n, q_istore_1i, q_istore_1a, eX7_samePairs_2, eX7_samePairs_3, q_istore_2n, q_istore_2i, q_istore_2a, eX7_samePairs_4, q_iload_2, eX7_samePairs_5, q_aload_0, eX7_samePairs_6, q_getfield, zqg_s, zqv_s, zF_7_7, eX7_samePairs_9, eX7_samePairs_10, q_iaload, zqal_s, eX7_samePairs_11, q_icmp_ge, eX7_samePairs_14, eX7_samePairs_15, q_istore_3n, q_istore_3i, q_istore_3a, eX7_samePairs_16, q_iload_3, eX7_samePairs_17, eX7_samePairs_18, eX7_samePairs_21, q_iload_1, eX7_samePairs_22, eX7_samePairs_23, eX7_samePairs_24, eX7_samePairs_25, q_invv, zqo_s, zqc_s, zC_7_173, o_X7_howTheyStand, zqcv_2, eX7_samePairs_28, eX7_samePairs_29, q_icmp_ne, eX7_samePairs_32, eX7_samePairs_33, q_goto, eX7_samePairs_36, eX7_samePairs_37, q_iadd, eX7_samePairs_38, eX7_samePairs_39, q_iinc_3n, q_iinc_3i, q_iinc_3a, eX7_samePairs_42, eX7_samePairs_45, q_iinc_2n, q_iinc_2i, q_iinc_2a, eX7_samePairs_48, eX7_samePairs_51, eX7_samePairs_52, q_ireturn, zqi_i, zqi_z, ho, h1, h0, rn, ri]
        refine ⟨fun q => by omega, fun _ => ?_⟩
        exact inner i 0 M1 (by omega) hd1 hf
  refine zct [some (Sum.inr (Sum.inl (some (m)))), none, none, none] rfl (Nat.le_of_ble_eq_true rfl) (by decide +kernel) rfl ?_
  refine zgo [4, 16] ?_
  simp only [↓zX_succ, ↓zstp_nil, ↓zstp_cons, ↓reduceIte, zpu_some, zpu_none, zcs, zg, zst, Nat.reduceAdd, Nat.reduceSub, Nat.reduceMul, Nat.reduceEqDiff, Nat.reduceLeDiff, Nat.reduceLT, Int.reduceToNat, Int.reduceAdd, Int.reduceSub, Int.reduceMul, Int.reduceNeg, Int.reduceLE, Int.reduceLT, Int.reduceEq, Int.cast_ofNat_Int, Int.reduceNatCast', true_and, and_true, and_self, Nat.le_refl, Nat.add_zero, Nat.zero_add, Nat.zero_le, Nat.not_lt_zero, or_true, true_or, or_false, false_or, not_true_eq_false, not_false_eq_true, forall_const, true_implies, false_implies, implies_true, zup_same, zup_zup, Int.toNat_natCast, Nat.reduceDiv, List.length_cons, List.length_nil, Nat.succ_ne_zero, ne_eq, reduceCtorEq, zRl_m6, zRl_m5, zRl_m4, zRl_m3, zRl_m2, zRl_m1, zRl_0, zRl_1, zRl_2, zRl_3, zRl_4, zRl_5, zRl_6, zRl_7, zRl_8, zRl_12, zRl_31, zRl_32, zRl_33, zRl_59, zRl_60, zRl_64, zRl_67, zRl_97, zRl_122, zRl_124, zRl_126, zRl_128, zRl_336, zRl_672, zRl_1680, zRl_2016, zRl_7680, o_X7_samePairs, r_X7_samePairs, eX7_samePairs_0, q_iconst, eX7_samePairs_1, q_istore_1n, q_istore_1i, q_istore_1a, eX7_samePairs_2, eX7_samePairs_3, q_istore_2n, q_istore_2i, q_istore_2a, eX7_samePairs_4, q_iload_2, eX7_samePairs_5, q_aload_0, eX7_samePairs_6, q_getfield, zqg_s, zqv_s, zF_7_7, eX7_samePairs_9, eX7_samePairs_10, q_iaload, zqal_s, eX7_samePairs_11, q_icmp_ge, eX7_samePairs_14, eX7_samePairs_15, q_istore_3n, q_istore_3i, q_istore_3a, eX7_samePairs_16, q_iload_3, eX7_samePairs_17, eX7_samePairs_18, eX7_samePairs_21, q_iload_1, eX7_samePairs_22, eX7_samePairs_23, eX7_samePairs_24, eX7_samePairs_25, q_invv, zqo_s, zqc_s, zC_7_173, o_X7_howTheyStand, zqcv_2, eX7_samePairs_28, eX7_samePairs_29, q_icmp_ne, eX7_samePairs_32, eX7_samePairs_33, q_goto, eX7_samePairs_36, eX7_samePairs_37, q_iadd, eX7_samePairs_38, eX7_samePairs_39, q_iinc_3n, q_iinc_3i, q_iinc_3a, eX7_samePairs_42, eX7_samePairs_45, q_iinc_2n, q_iinc_2i, q_iinc_2a, eX7_samePairs_48, eX7_samePairs_51, eX7_samePairs_52, q_ireturn, zqi_i, zqi_z]
  exact key A.1.1 0 M none (by omega) (Or.inl rfl) hd (fun q _ _ => rfl)
end MS
