/-- a scroll's 67 numbers in a row -/
def gvI (S S' : Nat → Int) (i : Nat) (t : Sc) : Prop := (∀ j, j < 1 + 67 * i ∨ 68 + 67 * i ≤ j → S' j = S j) ∧ S' (1 + 67 * i) = (t.1 : Int) ∧ (∀ k, k ≤ t.1 → S' (1 + 67 * i + 1 + k) = (t.2.1 k : Int)) ∧ ∀ j, j < t.2.1 t.1 → S' (1 + 67 * i + 7 + j) = t.2.2 j
theorem gvI.pt {S S' : Nat → Int} {i : Nat} {t : Sc} {H : Sh} (h : gvI S S' i t) (hs : stI S 0 H) (hw : wfH H) : stI S' 0 (ptS H i t) := by
  obtain ⟨g1, g2, g3, g4⟩ := h
  have h5 := hw.1
  refine ⟨(g1 0 (by omega)).trans hs.1, fun j hj => ?_⟩
  simp only [ptS] at hj ⊢
  by_cases c : j = i
  · subst c
    rw [zu_same]
    simp only [Nat.zero_add]
    exact ⟨g2, g3, g4⟩
  · rw [zu_ne c]
    obtain ⟨k1, k2, k3⟩ := hs.2 j hj
    simp only [Nat.zero_add] at k1 k2 k3 ⊢
    have hb := hw.2 j hj
    have hp := hb.2.1
    have h60 := hb.1.2.2.2.2.1
    exact ⟨(g1 _ (by omega)).trans k1, fun k hk => (g1 _ (by omega)).trans (k2 k hk), fun k hk => (g1 _ (by omega)).trans (k3 k hk)⟩
theorem gvI.ap {S S' : Nat → Int} {t : Sc} {H : Sh} (h : gvI S S' H.1 t) (hs : stI S 0 H) (hw : wfH H) : stI (zu S' 0 ((H.1 : Int) + 1)) 0 (H.1 + 1, zu H.2 H.1 t) := by
  obtain ⟨g1, g2, g3, g4⟩ := h
  have h5 := hw.1
  refine ⟨by rw [zu_same]; simp, fun j hj => ?_⟩
  dsimp only at hj ⊢
  by_cases c : j = H.1
  · subst c
    rw [zu_same]
    simp only [Nat.zero_add]
    rw [zu_ne (by omega)]
    exact ⟨g2, fun k hk => by rw [zu_ne (by omega)]; exact g3 k hk, fun k hk => by rw [zu_ne (by omega)]; exact g4 k hk⟩
  · rw [zu_ne c]
    obtain ⟨k1, k2, k3⟩ := hs.2 j (by omega)
    simp only [Nat.zero_add] at k1 k2 k3 ⊢
    have hb := hw.2 j (by omega)
    have hp := hb.2.1
    have h60 := hb.1.2.2.2.2.1
    rw [zu_ne (by omega)]
    exact ⟨(g1 _ (by omega)).trans k1, fun k hk => by rw [zu_ne (by omega)]; exact (g1 _ (by omega)).trans (k2 k hk), fun k hk => by rw [zu_ne (by omega)]; exact (g1 _ (by omega)).trans (k3 k hk)⟩
section MF
variable {lo d m : Nat} {A : aS} {M : zM} {Q : Option zV → zM → Prop}
theorem c_give {rc pl mn ln om ol : Int} {S : Nat → Int} {i : Nat} {t : Sc} (ho : mOb M m rc pl (t.1 : Int) mn ln om ol) (hS : M (m + 1) = some (Sum.inr (0, 336, Sum.inl (S)))) (hi : i < 5) (ht : wB t) (hk : wkT M m t) (hQ : ∀ M' S', M' (m + 1) = some (Sum.inr (0, 336, Sum.inl (S'))) → gvI S S' i t → zfr M M' (m + 1) (m + 2) → Q none M') : zCt lo d kX7_give 0 0 [(Sum.inr (Sum.inl (some (m)))), (Sum.inl ((i : Int)))] M Q := by
  have ho' := ho
  unfold mOb at ho
  obtain ⟨B, T, h1, h2, h3, h4⟩ := id hk
  have hp := ht.2.1
  have h60 := ht.1.2.2.2.2.1
  have q0 : zRr (67 * (i : Int)) := zrr (by omega) (by omega)
  have q1 : zRr (1 + 67 * (i : Int)) := zrr (by omega) (by omega)
  have rp : zRr (t.1 : Int) := zrr (by omega) (by omega)
  have eN := h2 t.1 (Nat.le_refl _)
  have rN : zRr (t.2.1 t.1 : Int) := zrr (by omega) (by omega)
  have loop2 : ∀ (n k : Nat) (M1 : zM) (S1 : Nat → Int), k + n = 60 → M1 (m + 1) = some (Sum.inr (0, 336, Sum.inl (S1))) → (∀ j, j < 1 + 67 * i ∨ 68 + 67 * i ≤ j → S1 j = S j) → S1 (1 + 67 * i) = (t.1 : Int) → (∀ k, k ≤ t.1 → S1 (1 + 67 * i + 1 + k) = (t.2.1 k : Int)) → (∀ j, j < k → j < t.2.1 t.1 → S1 (1 + 67 * i + 7 + j) = t.2.2 j) → zfr M M1 (m + 1) (m + 2) → zm lo d kX7_give 0 0 Q (0, 0) 60 [some (Sum.inr (Sum.inl (some (m)))), some (Sum.inl ((i : Int))), some (Sum.inl (1 + 67 * (i : Int))), some (Sum.inl ((k : Int)))] [] M1 := by
    intro n
    induction n with
    | zero =>
      intro k M1 S1 hk hS1 a1 a2 a3 a4 hf
      have r1 : zRr (k : Int) := zrr (by omega) (by omega)
      have ek : k = 60 := by omega
      subst ek
      refine zgo [19, 60] ?_
      simp only [↓zX_succ, ↓zstp_nil, ↓zstp_cons, ↓reduceIte, zpu_some, zpu_none, zcs, zg, zst, Nat.reduceAdd, Nat.reduceSub, Nat.reduceMul, Nat.reduceEqDiff, Nat.reduceLeDiff, Nat.reduceLT, Int.reduceToNat, Int.reduceAdd, Int.reduceSub, Int.reduceMul, Int.reduceNeg, Int.reduceLE, Int.reduceLT, Int.reduceEq, Int.cast_ofNat_Int, Int.reduceNatCast', true_and, and_true, and_self, Nat.le_refl, Nat.add_zero, Nat.zero_add, Nat.zero_le, Nat.not_lt_zero, or_true, true_or, or_false, false_or, not_true_eq_false, not_false_eq_true, forall_const, true_implies, false_implies, implies_true, zup_same, zup_zup, Int.toNat_natCast, Nat.reduceDiv, List.length_cons, List.length_nil, Nat.succ_ne_zero, ne_eq, reduceCtorEq, zRl_m6, zRl_m5, zRl_m4, zRl_m3, zRl_m2, zRl_m1, zRl_0, zRl_1, zRl_2, zRl_3, zRl_4, zRl_5, zRl_6, zRl_7, zRl_8, zRl_12, zRl_31, zRl_32, zRl_33, zRl_59, zRl_60, zRl_64, zRl_67, zRl_97, zRl_122, zRl_124, zRl_126, zRl_128, zRl_336, zRl_672, zRl_1680, zRl_2016, zRl_7680, o_X7_give, r_X7_give, eX7_give_0, q_iconst, eX7_give_1, q_bipush, eX7_give_3, q_iload_1, eX7_give_4, q_imul, eX7_give_5, q_iadd, eX7_give_6, q_istore_2n, q_istore_2i, q_istore_2a, eX7_give_7, q_aload_0, eX7_give_8, q_getfield, zqg_s, zqv_s, zF_7_7, eX7_give_11, q_iload_2, eX7_give_12, eX7_give_13, zF_7_66, eX7_give_16, q_iastore, zqas_s, eX7_give_17, eX7_give_18, q_istore_3n, q_istore_3i, q_istore_3a, eX7_give_19, q_iload_3, eX7_give_20, eX7_give_21, q_icmp_gt, eX7_give_24, eX7_give_25, eX7_give_28, eX7_give_29, eX7_give_30, eX7_give_31, eX7_give_32, eX7_give_33, eX7_give_34, eX7_give_35, eX7_give_38, eX7_give_41, eX7_give_42, zF_7_25, eX7_give_45, eX7_give_46, q_iaload, zqal_s, eX7_give_47, q_goto, eX7_give_50, eX7_give_51, eX7_give_52, q_iinc_3n, q_iinc_3i, q_iinc_3a, eX7_give_55, eX7_give_58, eX7_give_59, eX7_give_60, eX7_give_61, eX7_give_63, q_icmp_ge, eX7_give_66, eX7_give_67, eX7_give_70, eX7_give_71, eX7_give_73, eX7_give_74, eX7_give_75, eX7_give_76, eX7_give_77, eX7_give_78, eX7_give_81, eX7_give_82, eX7_give_85, eX7_give_86, eX7_give_89, eX7_give_90, zF_7_28, eX7_give_93, eX7_give_94, eX7_give_95, eX7_give_98, eX7_give_99, eX7_give_100, eX7_give_103, eX7_give_106, q_return, zqe_s, r1]
      exact hQ M1 S1 hS1 ⟨a1, a2, a3, fun j hj => a4 j (by omega) hj⟩ hf
    | succ n ih =>
      intro k M1 S1 hk hS1 a1 a2 a3 a4 hf
      have r1 : zRr (k : Int) := zrr (by omega) (by omega)
      have r2 : zRr (1 + 67 * (i : Int) + 7) := zrr (by omega) (by omega)
      have r3 : zRr (1 + 67 * (i : Int) + 7 + (k : Int)) := zrr (by omega) (by omega)
      have n0 : M1 m = _ := (hf m (by omega)).trans ho
      have n6 : M1 (m + 6) = _ := (hf (m + 6) (by omega)).trans h1
      have n7 : M1 (m + 7) = _ := (hf (m + 7) (by omega)).trans h3
      have ei : (1 + 67 * (i : Int) + 7 + (k : Int)).toNat = 1 + 67 * i + 7 + k := by omega
      have nxt : ∀ v : Int, (k < t.2.1 t.1 → v = t.2.2 k) → zm lo d kX7_give 0 0 Q (0, 0) 60 [some (Sum.inr (Sum.inl (some (m)))), some (Sum.inl ((i : Int))), some (Sum.inl (1 + 67 * (i : Int))), some (Sum.inl ((k : Int) + 1))] [] (zup M1 (m + 1) (Sum.inr (0, 336, Sum.inl (zu S1 (1 + 67 * i + 7 + k) v)))) := by
        intro v hv
        rw [show (k : Int) + 1 = ((k + 1 : Nat) : Int) by omega]
        refine ih (k + 1) _ _ (by omega) zup_same (fun j hj => ?_) ?_ (fun j hj => ?_) (fun j h1 h2 => ?_) (hf.up (by omega) (by omega))
        · rw [zu_ne (by omega)]; exact a1 j hj
        · rw [zu_ne (by omega)]; exact a2
        · rw [zu_ne (by omega)]; exact a3 j hj
        · by_cases c : j = k
          · subst c; rw [zu_same]; exact hv h2
          · rw [zu_ne (by omega)]; exact a4 j (by omega) h2
      refine zgo [19, 60] ?_
      simp only [↓zX_succ, ↓zstp_nil, ↓zstp_cons, ↓reduceIte, zpu_some, zpu_none, zcs, zg, zst, Nat.reduceAdd, Nat.reduceSub, Nat.reduceMul, Nat.reduceEqDiff, Nat.reduceLeDiff, Nat.reduceLT, Int.reduceToNat, Int.reduceAdd, Int.reduceSub, Int.reduceMul, Int.reduceNeg, Int.reduceLE, Int.reduceLT, Int.reduceEq, Int.cast_ofNat_Int, Int.reduceNatCast', true_and, and_true, and_self, Nat.le_refl, Nat.add_zero, Nat.zero_add, Nat.zero_le, Nat.not_lt_zero, or_true, true_or, or_false, false_or, not_true_eq_false, not_false_eq_true, forall_const, true_implies, false_implies, implies_true, zup_same, zup_zup, Int.toNat_natCast, Nat.reduceDiv, List.length_cons, List.length_nil, Nat.succ_ne_zero, ne_eq, reduceCtorEq, zRl_m6, zRl_m5, zRl_m4, zRl_m3, zRl_m2, zRl_m1, zRl_0, zRl_1, zRl_2, zRl_3, zRl_4, zRl_5, zRl_6, zRl_7, zRl_8, zRl_12, zRl_31, zRl_32, zRl_33, zRl_59, zRl_60, zRl_64, zRl_67, zRl_97, zRl_122, zRl_124, zRl_126, zRl_128, zRl_336, zRl_672, zRl_1680, zRl_2016, zRl_7680, o_X7_give, r_X7_give, eX7_give_0, q_iconst, eX7_give_1, q_bipush, eX7_give_3, q_iload_1, eX7_give_4, q_imul, eX7_give_5, q_iadd, eX7_give_6, q_istore_2n, q_istore_2i, q_istore_2a, eX7_give_7, q_aload_0, eX7_give_8, q_getfield, zqg_s, zqv_s, zF_7_7, eX7_give_11, q_iload_2, eX7_give_12, eX7_give_13, zF_7_66, eX7_give_16, q_iastore, zqas_s, eX7_give_17, eX7_give_18, q_istore_3n, q_istore_3i, q_istore_3a, eX7_give_19, q_iload_3, eX7_give_20, eX7_give_21, q_icmp_gt, eX7_give_24, eX7_give_25, eX7_give_28, eX7_give_29, eX7_give_30, eX7_give_31, eX7_give_32, eX7_give_33, eX7_give_34, eX7_give_35, eX7_give_38, eX7_give_41, eX7_give_42, zF_7_25, eX7_give_45, eX7_give_46, q_iaload, zqal_s, eX7_give_47, q_goto, eX7_give_50, eX7_give_51, eX7_give_52, q_iinc_3n, q_iinc_3i, q_iinc_3a, eX7_give_55, eX7_give_58, eX7_give_59, eX7_give_60, eX7_give_61, eX7_give_63, q_icmp_ge, eX7_give_66, eX7_give_67, eX7_give_70, eX7_give_71, eX7_give_73, eX7_give_74, eX7_give_75, eX7_give_76, eX7_give_77, eX7_give_78, eX7_give_81, eX7_give_82, eX7_give_85, eX7_give_86, eX7_give_89, eX7_give_90, zF_7_28, eX7_give_93, eX7_give_94, eX7_give_95, eX7_give_98, eX7_give_99, eX7_give_100, eX7_give_103, eX7_give_106, q_return, zqe_s, r1, r2, r3, n0, n6, n7, rN, eN, hS1, ei]
      refine ⟨fun q => by omega, fun _ => ⟨by omega, by omega, fun q => ⟨by omega, by omega, nxt 0 (fun h => by omega)⟩, fun q => ⟨by omega, by omega, by omega, by omega, nxt (T k) (fun h => h4 k h)⟩⟩⟩
  have loop1 : ∀ (n k : Nat) (M1 : zM) (S1 : Nat → Int), k + n = 6 → M1 (m + 1) = some (Sum.inr (0, 336, Sum.inl (S1))) → (∀ j, j < 1 + 67 * i ∨ 68 + 67 * i ≤ j → S1 j = S j) → S1 (1 + 67 * i) = (t.1 : Int) → (∀ j, j < k → j ≤ t.1 → S1 (1 + 67 * i + 1 + j) = (t.2.1 j : Int)) → zfr M M1 (m + 1) (m + 2) → zm lo d kX7_give 0 0 Q (0, 0) 19 [some (Sum.inr (Sum.inl (some (m)))), some (Sum.inl ((i : Int))), some (Sum.inl (1 + 67 * (i : Int))), some (Sum.inl ((k : Int)))] [] M1 := by
    intro n
    induction n with
    | zero =>
      intro k M1 S1 hk hS1 a1 a2 a3 hf
      have r1 : zRr (k : Int) := zrr (by omega) (by omega)
      have ek : k = 6 := by omega
      subst ek
      refine zgo [19, 60] ?_
      simp only [↓zX_succ, ↓zstp_nil, ↓zstp_cons, ↓reduceIte, zpu_some, zpu_none, zcs, zg, zst, Nat.reduceAdd, Nat.reduceSub, Nat.reduceMul, Nat.reduceEqDiff, Nat.reduceLeDiff, Nat.reduceLT, Int.reduceToNat, Int.reduceAdd, Int.reduceSub, Int.reduceMul, Int.reduceNeg, Int.reduceLE, Int.reduceLT, Int.reduceEq, Int.cast_ofNat_Int, Int.reduceNatCast', true_and, and_true, and_self, Nat.le_refl, Nat.add_zero, Nat.zero_add, Nat.zero_le, Nat.not_lt_zero, or_true, true_or, or_false, false_or, not_true_eq_false, not_false_eq_true, forall_const, true_implies, false_implies, implies_true, zup_same, zup_zup, Int.toNat_natCast, Nat.reduceDiv, List.length_cons, List.length_nil, Nat.succ_ne_zero, ne_eq, reduceCtorEq, zRl_m6, zRl_m5, zRl_m4, zRl_m3, zRl_m2, zRl_m1, zRl_0, zRl_1, zRl_2, zRl_3, zRl_4, zRl_5, zRl_6, zRl_7, zRl_8, zRl_12, zRl_31, zRl_32, zRl_33, zRl_59, zRl_60, zRl_64, zRl_67, zRl_97, zRl_122, zRl_124, zRl_126, zRl_128, zRl_336, zRl_672, zRl_1680, zRl_2016, zRl_7680, o_X7_give, r_X7_give, eX7_give_0, q_iconst, eX7_give_1, q_bipush, eX7_give_3, q_iload_1, eX7_give_4, q_imul, eX7_give_5, q_iadd, eX7_give_6, q_istore_2n, q_istore_2i, q_istore_2a, eX7_give_7, q_aload_0, eX7_give_8, q_getfield, zqg_s, zqv_s, zF_7_7, eX7_give_11, q_iload_2, eX7_give_12, eX7_give_13, zF_7_66, eX7_give_16, q_iastore, zqas_s, eX7_give_17, eX7_give_18, q_istore_3n, q_istore_3i, q_istore_3a, eX7_give_19, q_iload_3, eX7_give_20, eX7_give_21, q_icmp_gt, eX7_give_24, eX7_give_25, eX7_give_28, eX7_give_29, eX7_give_30, eX7_give_31, eX7_give_32, eX7_give_33, eX7_give_34, eX7_give_35, eX7_give_38, eX7_give_41, eX7_give_42, zF_7_25, eX7_give_45, eX7_give_46, q_iaload, zqal_s, eX7_give_47, q_goto, eX7_give_50, eX7_give_51, eX7_give_52, q_iinc_3n, q_iinc_3i, q_iinc_3a, eX7_give_55, eX7_give_58, eX7_give_59, eX7_give_60, eX7_give_61, eX7_give_63, q_icmp_ge, eX7_give_66, eX7_give_67, eX7_give_70, eX7_give_71, eX7_give_73, eX7_give_74, eX7_give_75, eX7_give_76, eX7_give_77, eX7_give_78, eX7_give_81, eX7_give_82, eX7_give_85, eX7_give_86, eX7_give_89, eX7_give_90, zF_7_28, eX7_give_93, eX7_give_94, eX7_give_95, eX7_give_98, eX7_give_99, eX7_give_100, eX7_give_103, eX7_give_106, q_return, zqe_s, r1]
      exact loop2 60 0 M1 S1 rfl hS1 a1 a2 (fun j hj => a3 j (by omega) hj) (fun j hj => by omega) hf
    | succ n ih =>
      intro k M1 S1 hk hS1 a1 a2 a3 hf
      have r1 : zRr (k : Int) := zrr (by omega) (by omega)
      have r2 : zRr (1 + 67 * (i : Int) + 1) := zrr (by omega) (by omega)
      have r3 : zRr (1 + 67 * (i : Int) + 1 + (k : Int)) := zrr (by omega) (by omega)
      have n0 : M1 m = _ := (hf m (by omega)).trans ho
      have n6 : M1 (m + 6) = _ := (hf (m + 6) (by omega)).trans h1
      have ei : (1 + 67 * (i : Int) + 1 + (k : Int)).toNat = 1 + 67 * i + 1 + k := by omega
      have nxt : ∀ v : Int, (k ≤ t.1 → v = (t.2.1 k : Int)) → zm lo d kX7_give 0 0 Q (0, 0) 19 [some (Sum.inr (Sum.inl (some (m)))), some (Sum.inl ((i : Int))), some (Sum.inl (1 + 67 * (i : Int))), some (Sum.inl ((k : Int) + 1))] [] (zup M1 (m + 1) (Sum.inr (0, 336, Sum.inl (zu S1 (1 + 67 * i + 1 + k) v)))) := by
        intro v hv
        rw [show (k : Int) + 1 = ((k + 1 : Nat) : Int) by omega]
        refine ih (k + 1) _ _ (by omega) zup_same (fun j hj => ?_) ?_ (fun j h1 h2 => ?_) (hf.up (by omega) (by omega))
        · rw [zu_ne (by omega)]; exact a1 j hj
        · rw [zu_ne (by omega)]; exact a2
        · by_cases c : j = k
          · subst c; rw [zu_same]; exact hv h2
          · rw [zu_ne (by omega)]; exact a3 j (by omega) h2
      refine zgo [19, 60] ?_
      simp only [↓zX_succ, ↓zstp_nil, ↓zstp_cons, ↓reduceIte, zpu_some, zpu_none, zcs, zg, zst, Nat.reduceAdd, Nat.reduceSub, Nat.reduceMul, Nat.reduceEqDiff, Nat.reduceLeDiff, Nat.reduceLT, Int.reduceToNat, Int.reduceAdd, Int.reduceSub, Int.reduceMul, Int.reduceNeg, Int.reduceLE, Int.reduceLT, Int.reduceEq, Int.cast_ofNat_Int, Int.reduceNatCast', true_and, and_true, and_self, Nat.le_refl, Nat.add_zero, Nat.zero_add, Nat.zero_le, Nat.not_lt_zero, or_true, true_or, or_false, false_or, not_true_eq_false, not_false_eq_true, forall_const, true_implies, false_implies, implies_true, zup_same, zup_zup, Int.toNat_natCast, Nat.reduceDiv, List.length_cons, List.length_nil, Nat.succ_ne_zero, ne_eq, reduceCtorEq, zRl_m6, zRl_m5, zRl_m4, zRl_m3, zRl_m2, zRl_m1, zRl_0, zRl_1, zRl_2, zRl_3, zRl_4, zRl_5, zRl_6, zRl_7, zRl_8, zRl_12, zRl_31, zRl_32, zRl_33, zRl_59, zRl_60, zRl_64, zRl_67, zRl_97, zRl_122, zRl_124, zRl_126, zRl_128, zRl_336, zRl_672, zRl_1680, zRl_2016, zRl_7680, o_X7_give, r_X7_give, eX7_give_0, q_iconst, eX7_give_1, q_bipush, eX7_give_3, q_iload_1, eX7_give_4, q_imul, eX7_give_5, q_iadd, eX7_give_6, q_istore_2n, q_istore_2i, q_istore_2a, eX7_give_7, q_aload_0, eX7_give_8, q_getfield, zqg_s, zqv_s, zF_7_7, eX7_give_11, q_iload_2, eX7_give_12, eX7_give_13, zF_7_66, eX7_give_16, q_iastore, zqas_s, eX7_give_17, eX7_give_18, q_istore_3n, q_istore_3i, q_istore_3a, eX7_give_19, q_iload_3, eX7_give_20, eX7_give_21, q_icmp_gt, eX7_give_24, eX7_give_25, eX7_give_28, eX7_give_29, eX7_give_30, eX7_give_31, eX7_give_32, eX7_give_33, eX7_give_34, eX7_give_35, eX7_give_38, eX7_give_41, eX7_give_42, zF_7_25, eX7_give_45, eX7_give_46, q_iaload, zqal_s, eX7_give_47, q_goto, eX7_give_50, eX7_give_51, eX7_give_52, q_iinc_3n, q_iinc_3i, q_iinc_3a, eX7_give_55, eX7_give_58, eX7_give_59, eX7_give_60, eX7_give_61, eX7_give_63, q_icmp_ge, eX7_give_66, eX7_give_67, eX7_give_70, eX7_give_71, eX7_give_73, eX7_give_74, eX7_give_75, eX7_give_76, eX7_give_77, eX7_give_78, eX7_give_81, eX7_give_82, eX7_give_85, eX7_give_86, eX7_give_89, eX7_give_90, zF_7_28, eX7_give_93, eX7_give_94, eX7_give_95, eX7_give_98, eX7_give_99, eX7_give_100, eX7_give_103, eX7_give_106, q_return, zqe_s, r1, r2, r3, n0, n6, rp, hS1, ei]
      refine ⟨fun q => by omega, fun _ => ⟨fun q => ⟨by omega, by omega, nxt 0 (fun h => by omega)⟩, fun q => ⟨by omega, by omega, by omega, by omega, nxt (B k) (fun h => h2 k h)⟩⟩⟩
  have e0 : (1 + 67 * (i : Int)).toNat = 1 + 67 * i := by omega
  refine zct [some (Sum.inr (Sum.inl (some (m)))), some (Sum.inl ((i : Int))), none, none] rfl (Nat.le_of_ble_eq_true rfl) (by decide +kernel) rfl ?_
  refine zgo [19, 60] ?_
  simp only [↓zX_succ, ↓zstp_nil, ↓zstp_cons, ↓reduceIte, zpu_some, zpu_none, zcs, zg, zst, Nat.reduceAdd, Nat.reduceSub, Nat.reduceMul, Nat.reduceEqDiff, Nat.reduceLeDiff, Nat.reduceLT, Int.reduceToNat, Int.reduceAdd, Int.reduceSub, Int.reduceMul, Int.reduceNeg, Int.reduceLE, Int.reduceLT, Int.reduceEq, Int.cast_ofNat_Int, Int.reduceNatCast', true_and, and_true, and_self, Nat.le_refl, Nat.add_zero, Nat.zero_add, Nat.zero_le, Nat.not_lt_zero, or_true, true_or, or_false, false_or, not_true_eq_false, not_false_eq_true, forall_const, true_implies, false_implies, implies_true, zup_same, zup_zup, Int.toNat_natCast, Nat.reduceDiv, List.length_cons, List.length_nil, Nat.succ_ne_zero, ne_eq, reduceCtorEq, zRl_m6, zRl_m5, zRl_m4, zRl_m3, zRl_m2, zRl_m1, zRl_0, zRl_1, zRl_2, zRl_3, zRl_4, zRl_5, zRl_6, zRl_7, zRl_8, zRl_12, zRl_31, zRl_32, zRl_33, zRl_59, zRl_60, zRl_64, zRl_67, zRl_97, zRl_122, zRl_124, zRl_126, zRl_128, zRl_336, zRl_672, zRl_1680, zRl_2016, zRl_7680, o_X7_give, r_X7_give, eX7_give_0, q_iconst, eX7_give_1, q_bipush, eX7_give_3, q_iload_1, eX7_give_4, q_imul, eX7_give_5, q_iadd, eX7_give_6, q_istore_2n, q_istore_2i, q_istore_2a, eX7_give_7, q_aload_0, eX7_give_8, q_getfield, zqg_s, zqv_s, zF_7_7, eX7_give_11, q_iload_2, eX7_give_12, eX7_give_13, zF_7_66, eX7_give_16, q_iastore, zqas_s, eX7_give_17, eX7_give_18, q_istore_3n, q_istore_3i, q_istore_3a, eX7_give_19, q_iload_3, eX7_give_20, eX7_give_21, q_icmp_gt, eX7_give_24, eX7_give_25, eX7_give_28, eX7_give_29, eX7_give_30, eX7_give_31, eX7_give_32, eX7_give_33, eX7_give_34, eX7_give_35, eX7_give_38, eX7_give_41, eX7_give_42, zF_7_25, eX7_give_45, eX7_give_46, q_iaload, zqal_s, eX7_give_47, q_goto, eX7_give_50, eX7_give_51, eX7_give_52, q_iinc_3n, q_iinc_3i, q_iinc_3a, eX7_give_55, eX7_give_58, eX7_give_59, eX7_give_60, eX7_give_61, eX7_give_63, q_icmp_ge, eX7_give_66, eX7_give_67, eX7_give_70, eX7_give_71, eX7_give_73, eX7_give_74, eX7_give_75, eX7_give_76, eX7_give_77, eX7_give_78, eX7_give_81, eX7_give_82, eX7_give_85, eX7_give_86, eX7_give_89, eX7_give_90, zF_7_28, eX7_give_93, eX7_give_94, eX7_give_95, eX7_give_98, eX7_give_99, eX7_give_100, eX7_give_103, eX7_give_106, q_return, zqe_s, ho, hS, q0, q1, e0]
  refine ⟨by omega, by omega, ?_⟩
  exact loop1 6 0 _ _ rfl zup_same (fun j hj => zu_ne (by omega)) zu_same (fun j hj => by omega) (zfr_up (by omega) (by omega))
theorem c_goes {rc pl pt mn ln om ol : Int} {S : Nat → Int} {i : Nat} (ho : mOb M m rc pl pt mn ln om ol) (hS : M (m + 1) = some (Sum.inr (0, 336, Sum.inl (S)))) (hs : stI S 0 A.1) (hw : wfH A.1) (hi : i < A.1.1) (hQ : ∀ M' S', M' (m + 1) = some (Sum.inr (0, 336, Sum.inl (S'))) → stI S' 0 (rmS A.1 i) → zfr M M' (m + 1) (m + 2) → Q none M') : zCt lo d kX7_goes 0 0 [(Sum.inr (Sum.inl (some (m)))), (Sum.inl ((i : Int)))] M Q := by
  have ho' := ho
  unfold mOb at ho
  have h5 := hw.1
  have h0 := hs.1
  have q0 : zRr (67 * (i : Int)) := zrr (by omega) (by omega)
  have q1 : zRr (1 + 67 * (i : Int)) := zrr (by omega) (by omega)
  have q2 : zRr ((A.1.1 : Int) - 1) := zrr (by omega) (by omega)
  have q3 : zRr (67 * ((A.1.1 : Int) - 1)) := zrr (by omega) (by omega)
  have q4 : zRr (1 + 67 * ((A.1.1 : Int) - 1)) := zrr (by omega) (by omega)
  have key : ∀ (n k : Nat) (M1 : zM) (S1 : Nat → Int), k + n = 67 * (A.1.1 - 1 - i) → M1 (m + 1) = some (Sum.inr (0, 336, Sum.inl (S1))) → S1 0 = (A.1.1 : Int) - 1 → (∀ j, j ≠ 0 → S1 j = if 1 + 67 * i ≤ j ∧ j < 1 + 67 * i + k then S (j + 67) else S j) → zfr M M1 (m + 1) (m + 2) → zm lo d kX7_goes 0 0 Q (0, 0) 17 [some (Sum.inr (Sum.inl (some (m)))), some (Sum.inl ((i : Int))), some (Sum.inl (1 + 67 * (i : Int) + (k : Int)))] [] M1 := by
    intro n
    induction n with
    | zero =>
      intro k M1 S1 hk hS1 a0 a1 hf
      have r1 : zRr (1 + 67 * (i : Int) + (k : Int)) := zrr (by omega) (by omega)
      have n0 : M1 m = _ := (hf m (by omega)).trans ho
      refine zgo [17] ?_
      simp only [↓zX_succ, ↓zstp_nil, ↓zstp_cons, ↓reduceIte, zpu_some, zpu_none, zcs, zg, zst, Nat.reduceAdd, Nat.reduceSub, Nat.reduceMul, Nat.reduceEqDiff, Nat.reduceLeDiff, Nat.reduceLT, Int.reduceToNat, Int.reduceAdd, Int.reduceSub, Int.reduceMul, Int.reduceNeg, Int.reduceLE, Int.reduceLT, Int.reduceEq, Int.cast_ofNat_Int, Int.reduceNatCast', true_and, and_true, and_self, Nat.le_refl, Nat.add_zero, Nat.zero_add, Nat.zero_le, Nat.not_lt_zero, or_true, true_or, or_false, false_or, not_true_eq_false, not_false_eq_true, forall_const, true_implies, false_implies, implies_true, zup_same, zup_zup, Int.toNat_natCast, Nat.reduceDiv, List.length_cons, List.length_nil, Nat.succ_ne_zero, ne_eq, reduceCtorEq, zRl_m6, zRl_m5, zRl_m4, zRl_m3, zRl_m2, zRl_m1, zRl_0, zRl_1, zRl_2, zRl_3, zRl_4, zRl_5, zRl_6, zRl_7, zRl_8, zRl_12, zRl_31, zRl_32, zRl_33, zRl_59, zRl_60, zRl_64, zRl_67, zRl_97, zRl_122, zRl_124, zRl_126, zRl_128, zRl_336, zRl_672, zRl_1680, zRl_2016, zRl_7680, o_X7_goes, r_X7_goes, eX7_goes_0, q_aload_0, eX7_goes_1, q_getfield, zqg_s, zqv_s, zF_7_7, eX7_goes_4, q_iconst, eX7_goes_5, q_dup2, eX7_goes_6, q_iaload, zqal_s, eX7_goes_7, eX7_goes_8, q_isub, eX7_goes_9, q_iastore, zqas_s, eX7_goes_10, eX7_goes_11, q_bipush, eX7_goes_13, q_iload_1, eX7_goes_14, q_imul, eX7_goes_15, q_iadd, eX7_goes_16, q_istore_2n, q_istore_2i, q_istore_2a, eX7_goes_17, q_iload_2, eX7_goes_18, eX7_goes_19, eX7_goes_21, eX7_goes_22, eX7_goes_25, eX7_goes_26, eX7_goes_27, eX7_goes_28, eX7_goes_29, q_icmp_ge, eX7_goes_32, eX7_goes_33, eX7_goes_36, eX7_goes_37, eX7_goes_38, eX7_goes_41, eX7_goes_42, eX7_goes_44, eX7_goes_45, eX7_goes_46, eX7_goes_47, q_iinc_2n, q_iinc_2i, q_iinc_2a, eX7_goes_50, q_goto, eX7_goes_53, q_return, zqe_s, r1, n0, hS1, a0, q3, q4]
      refine ⟨fun _ => hQ M1 S1 hS1 ⟨?_, fun j hj => ?_⟩ hf, fun q => by omega⟩
      · rw [a0]; simp only [rmS]; omega
      · simp only [rmS] at hj ⊢
        simp only [Nat.zero_add]
        by_cases c : j < i
        · rw [if_pos c]
          obtain ⟨k1, k2, k3⟩ := hs.2 j (by omega)
          simp only [Nat.zero_add] at k1 k2 k3 ⊢
          have hb := hw.2 j (by omega)
          have hp := hb.2.1
          have h60 := hb.1.2.2.2.2.1
          refine ⟨?_, fun k hk => ?_, fun k hk => ?_⟩
          · rw [a1 _ (by omega), if_neg (by omega)]; exact k1
          · rw [a1 _ (by omega), if_neg (by omega)]; exact k2 k hk
          · rw [a1 _ (by omega), if_neg (by omega)]; exact k3 k hk
        · rw [if_neg c]
          obtain ⟨k1, k2, k3⟩ := hs.2 (j + 1) (by omega)
          simp only [Nat.zero_add] at k1 k2 k3 ⊢
          have hb := hw.2 (j + 1) (by omega)
          have hp := hb.2.1
          have h60 := hb.1.2.2.2.2.1
          refine ⟨?_, fun k hk => ?_, fun k hk => ?_⟩
          · rw [a1 _ (by omega), if_pos (by omega), show 1 + 67 * j + 67 = 1 + 67 * (j + 1) by omega]; exact k1
          · rw [a1 _ (by omega), if_pos (by omega), show 1 + 67 * j + 1 + k + 67 = 1 + 67 * (j + 1) + 1 + k by omega]; exact k2 k hk
          · rw [a1 _ (by omega), if_pos (by omega), show 1 + 67 * j + 7 + k + 67 = 1 + 67 * (j + 1) + 7 + k by omega]; exact k3 k hk
    | succ n ih =>
      intro k M1 S1 hk hS1 a0 a1 hf
      have r1 : zRr (1 + 67 * (i : Int) + (k : Int)) := zrr (by omega) (by omega)
      have r2 : zRr (1 + 67 * (i : Int) + (k : Int) + 67) := zrr (by omega) (by omega)
      have n0 : M1 m = _ := (hf m (by omega)).trans ho
      have e1 : (1 + 67 * (i : Int) + (k : Int)).toNat = 1 + 67 * i + k := by omega
      have e2 : (1 + 67 * (i : Int) + (k : Int) + 67).toNat = 1 + 67 * i + k + 67 := by omega
      have r3 : zRr (1 + 67 * (i : Int) + (k : Int) + 1) := zrr (by omega) (by omega)
      refine zgo [17] ?_
      simp only [↓zX_succ, ↓zstp_nil, ↓zstp_cons, ↓reduceIte, zpu_some, zpu_none, zcs, zg, zst, Nat.reduceAdd, Nat.reduceSub, Nat.reduceMul, Nat.reduceEqDiff, Nat.reduceLeDiff, Nat.reduceLT, Int.reduceToNat, Int.reduceAdd, Int.reduceSub, Int.reduceMul, Int.reduceNeg, Int.reduceLE, Int.reduceLT, Int.reduceEq, Int.cast_ofNat_Int, Int.reduceNatCast', true_and, and_true, and_self, Nat.le_refl, Nat.add_zero, Nat.zero_add, Nat.zero_le, Nat.not_lt_zero, or_true, true_or, or_false, false_or, not_true_eq_false, not_false_eq_true, forall_const, true_implies, false_implies, implies_true, zup_same, zup_zup, Int.toNat_natCast, Nat.reduceDiv, List.length_cons, List.length_nil, Nat.succ_ne_zero, ne_eq, reduceCtorEq, zRl_m6, zRl_m5, zRl_m4, zRl_m3, zRl_m2, zRl_m1, zRl_0, zRl_1, zRl_2, zRl_3, zRl_4, zRl_5, zRl_6, zRl_7, zRl_8, zRl_12, zRl_31, zRl_32, zRl_33, zRl_59, zRl_60, zRl_64, zRl_67, zRl_97, zRl_122, zRl_124, zRl_126, zRl_128, zRl_336, zRl_672, zRl_1680, zRl_2016, zRl_7680, o_X7_goes, r_X7_goes, eX7_goes_0, q_aload_0, eX7_goes_1, q_getfield, zqg_s, zqv_s, zF_7_7, eX7_goes_4, q_iconst, eX7_goes_5, q_dup2, eX7_goes_6, q_iaload, zqal_s, eX7_goes_7, eX7_goes_8, q_isub, eX7_goes_9, q_iastore, zqas_s, eX7_goes_10, eX7_goes_11, q_bipush, eX7_goes_13, q_iload_1, eX7_goes_14, q_imul, eX7_goes_15, q_iadd, eX7_goes_16, q_istore_2n, q_istore_2i, q_istore_2a, eX7_goes_17, q_iload_2, eX7_goes_18, eX7_goes_19, eX7_goes_21, eX7_goes_22, eX7_goes_25, eX7_goes_26, eX7_goes_27, eX7_goes_28, eX7_goes_29, q_icmp_ge, eX7_goes_32, eX7_goes_33, eX7_goes_36, eX7_goes_37, eX7_goes_38, eX7_goes_41, eX7_goes_42, eX7_goes_44, eX7_goes_45, eX7_goes_46, eX7_goes_47, q_iinc_2n, q_iinc_2i, q_iinc_2a, eX7_goes_50, q_goto, eX7_goes_53, q_return, zqe_s, r1, r2, r3, n0, hS1, a0, q3, q4, e1, e2]
      refine ⟨fun q => by omega, fun _ => ⟨by omega, by omega, by omega, by omega, ?_⟩⟩
      rw [show 1 + 67 * (i : Int) + (k : Int) + 1 = 1 + 67 * (i : Int) + ((k + 1 : Nat) : Int) by omega]
      refine ih (k + 1) _ _ (by omega) zup_same ?_ (fun j hj => ?_) (hf.up (by omega) (by omega))
      · rw [zu_ne (by omega)]; exact a0
      · by_cases c : j = 1 + 67 * i + k
        · subst c
          rw [zu_same, if_pos (by omega), a1 _ (by omega), if_neg (by omega)]
        · rw [zu_ne c, a1 j hj]
          by_cases c2 : 1 + 67 * i ≤ j ∧ j < 1 + 67 * i + k
          · rw [if_pos c2, if_pos (by omega)]
          · rw [if_neg c2, if_neg (by omega)]
  refine zct [some (Sum.inr (Sum.inl (some (m)))), some (Sum.inl ((i : Int))), none] rfl (Nat.le_of_ble_eq_true rfl) (by decide +kernel) rfl ?_
  refine zgo [17] ?_
  simp only [↓zX_succ, ↓zstp_nil, ↓zstp_cons, ↓reduceIte, zpu_some, zpu_none, zcs, zg, zst, Nat.reduceAdd, Nat.reduceSub, Nat.reduceMul, Nat.reduceEqDiff, Nat.reduceLeDiff, Nat.reduceLT, Int.reduceToNat, Int.reduceAdd, Int.reduceSub, Int.reduceMul, Int.reduceNeg, Int.reduceLE, Int.reduceLT, Int.reduceEq, Int.cast_ofNat_Int, Int.reduceNatCast', true_and, and_true, and_self, Nat.le_refl, Nat.add_zero, Nat.zero_add, Nat.zero_le, Nat.not_lt_zero, or_true, true_or, or_false, false_or, not_true_eq_false, not_false_eq_true, forall_const, true_implies, false_implies, implies_true, zup_same, zup_zup, Int.toNat_natCast, Nat.reduceDiv, List.length_cons, List.length_nil, Nat.succ_ne_zero, ne_eq, reduceCtorEq, zRl_m6, zRl_m5, zRl_m4, zRl_m3, zRl_m2, zRl_m1, zRl_0, zRl_1, zRl_2, zRl_3, zRl_4, zRl_5, zRl_6, zRl_7, zRl_8, zRl_12, zRl_31, zRl_32, zRl_33, zRl_59, zRl_60, zRl_64, zRl_67, zRl_97, zRl_122, zRl_124, zRl_126, zRl_128, zRl_336, zRl_672, zRl_1680, zRl_2016, zRl_7680, o_X7_goes, r_X7_goes, eX7_goes_0, q_aload_0, eX7_goes_1, q_getfield, zqg_s, zqv_s, zF_7_7, eX7_goes_4, q_iconst, eX7_goes_5, q_dup2, eX7_goes_6, q_iaload, zqal_s, eX7_goes_7, eX7_goes_8, q_isub, eX7_goes_9, q_iastore, zqas_s, eX7_goes_10, eX7_goes_11, q_bipush, eX7_goes_13, q_iload_1, eX7_goes_14, q_imul, eX7_goes_15, q_iadd, eX7_goes_16, q_istore_2n, q_istore_2i, q_istore_2a, eX7_goes_17, q_iload_2, eX7_goes_18, eX7_goes_19, eX7_goes_21, eX7_goes_22, eX7_goes_25, eX7_goes_26, eX7_goes_27, eX7_goes_28, eX7_goes_29, q_icmp_ge, eX7_goes_32, eX7_goes_33, eX7_goes_36, eX7_goes_37, eX7_goes_38, eX7_goes_41, eX7_goes_42, eX7_goes_44, eX7_goes_45, eX7_goes_46, eX7_goes_47, q_iinc_2n, q_iinc_2i, q_iinc_2a, eX7_goes_50, q_goto, eX7_goes_53, q_return, zqe_s, ho, hS, h0, q0, q1, q2]
  have k0 := key (67 * (A.1.1 - 1 - i)) 0 (zup M (m + 1) (Sum.inr (0, 336, Sum.inl (zu S 0 ((A.1.1 : Int) - 1))))) _ (by omega) zup_same zu_same (fun j hj => by rw [zu_ne hj, if_neg (by omega)]) (zfr_up (by omega) (by omega))
  rw [Int.natCast_zero, Int.add_zero] at k0
  exact k0
end MF
