section L2
variable {lo d e r q N : Nat} {S : Nat → Int} {t : Sc} {M : zM} {Q : Option zV → zM → Prop}
/-- the ends of the law's row moved up for a seam -/
def sUp (S : Nat → Int) (e P k : Nat) : Nat → Int := fun j => if e + 2 + k < j ∧ j ≤ e + 2 + P then S (j - 1) else S j
theorem l_seam {p y : Nat} (hM : M r = some (Sum.inr (0, N, Sum.inl (S)))) (hs : scR S e t) (hp : p < t.1) (hp5 : t.1 ≤ 5) (h12 : t.2.1 t.1 ≤ 12) (hy : y ≤ 12) (hN : e + 20 ≤ N) (hN2 : N < 1000000) (hQ : ∀ M' S', M' r = some (Sum.inr (0, N, Sum.inl (S'))) → zfr M M' r (r + 1) → scR S' e (scC t p y) → (∀ j, (j < e ∨ e + 20 ≤ j) → S' j = S j) → Q none M') : ∀ (m k : Nat) (u : Int) (M' : zM), u = (k : Int) → k = p + m → k ≤ t.1 → M' r = some (Sum.inr (0, N, Sum.inl (sUp S e t.1 k))) → zfr M M' r (r + 1) →
    zm lo d kL_seam 0 0 Q (0, 0) 5 [some (Sum.inl ((e : Int))), some (Sum.inl ((p : Int))), some (Sum.inl ((y : Int))), some (Sum.inr (Sum.inl (some (r)))), some (Sum.inl (u))] [] M' := by
  intro m
  induction m with
  | zero =>
    intro k u M' hu hk hkt hq hF
    subst hu
    have e1 : k = p := by omega
    subst e1
    have r1 : zRr (k : Int) := zrr (by omega) (by omega)
    have i1 : ((e : Int) + 1 + (k : Int)).toNat = e + 1 + k := by omega
    have i2 : ((e : Int) + 2 + (k : Int)).toNat = e + 2 + k := by omega
    have i3 : ((e : Int)).toNat = e := by omega
    have h1 : sUp S e t.1 k (e + 1 + k) = (t.2.1 k : Int) := by
      simp only [sUp]
      rw [if_neg (by omega)]
      exact hs.2.1 k (by omega)
    have h2 : zu (sUp S e t.1 k) (e + 2 + k) ((t.2.1 k : Int) + (y : Int)) e = (t.1 : Int) := by
      rw [zu_ne (by omega)]
      simp only [sUp]
      rw [if_neg (by omega)]
      exact hs.1
    refine zgo [5] ?_
    simp only [↓zX_succ, ↓zstp_nil, ↓zstp_cons, ↓reduceIte, zpu_some, zpu_none, zcs, zg, zst, Nat.reduceAdd, Nat.reduceSub, Nat.reduceMul, Nat.reduceEqDiff, Nat.reduceLeDiff, Nat.reduceLT, Int.reduceToNat, Int.reduceAdd, Int.reduceSub, Int.reduceMul, Int.reduceNeg, Int.reduceLE, Int.reduceLT, Int.reduceEq, Int.cast_ofNat_Int, Int.reduceNatCast', true_and, and_true, and_self, Nat.le_refl, Nat.add_zero, Nat.zero_add, Nat.zero_le, Nat.not_lt_zero, or_true, true_or, or_false, false_or, not_true_eq_false, not_false_eq_true, forall_const, true_implies, false_implies, implies_true, zup_same, zup_zup, Int.toNat_natCast, Nat.reduceDiv, List.length_cons, List.length_nil, Nat.succ_ne_zero, ne_eq, reduceCtorEq, zRl_m6, zRl_m5, zRl_m4, zRl_m3, zRl_m2, zRl_m1, zRl_0, zRl_1, zRl_2, zRl_3, zRl_4, zRl_5, zRl_6, zRl_7, zRl_8, zRl_9, zRl_10, zRl_11, zRl_12, zRl_13, zRl_14, zRl_15, zRl_16, zRl_17, zRl_18, zRl_19, zRl_20, zRl_21, zRl_22, zRl_23, zRl_31, zRl_32, zRl_33, zRl_49, zRl_59, zRl_60, zRl_64, zRl_97, zRl_122, zRl_124, zRl_126, zRl_128, zRl_717809397, zRl_1067285329, zRl_2147483647, o_L_seam, r_L_seam, eL_seam_0, q_aload_3, eL_seam_1, q_iload_0, eL_seam_2, q_iaload, zqal_s, eL_seam_3, q_istore_4n, q_istore_4i, q_istore_4a, eL_seam_5, q_iload_4, eL_seam_7, q_iload_1, eL_seam_8, q_icmp_le, eL_seam_11, eL_seam_12, eL_seam_13, q_iconst, eL_seam_14, q_iadd, eL_seam_15, eL_seam_17, eL_seam_18, eL_seam_19, eL_seam_20, eL_seam_21, eL_seam_22, eL_seam_24, eL_seam_25, eL_seam_26, q_iastore, zqas_s, eL_seam_27, q_iinc_4n, q_iinc_4i, q_iinc_4a, eL_seam_30, q_goto, eL_seam_33, eL_seam_34, eL_seam_35, eL_seam_36, eL_seam_37, eL_seam_38, eL_seam_39, eL_seam_40, eL_seam_41, eL_seam_42, eL_seam_43, eL_seam_44, eL_seam_45, eL_seam_46, q_iload_2, eL_seam_47, eL_seam_48, eL_seam_49, eL_seam_50, eL_seam_51, q_dup2, eL_seam_52, eL_seam_53, eL_seam_54, eL_seam_55, eL_seam_56, q_return, zqe_s, r1, hq, i1, i2, i3, h1, h2]
    refine ⟨fun _ => ⟨by omega, by omega, by omega, by omega, by omega, by omega, by omega, by omega, by omega, by omega, by omega, by omega, ?_⟩, fun g => by omega⟩
    refine hQ _ _ zup_same (hF.up (by omega) (by omega)) ⟨?_, fun j hj => ?_, fun j hj => ?_⟩ (fun j hj => ?_)
    · rw [zu_same]
      show _ = ((t.1 + 1 : Nat) : Int)
      omega
    · have hj : j ≤ t.1 + 1 := hj
      rw [zu_ne (by omega)]
      show _ = ((bCut t.2.1 k y j : Nat) : Int)
      simp only [bCut]
      by_cases c1 : j = k + 1
      · rw [if_neg (by omega), if_pos c1, show e + 1 + j = e + 2 + k by omega, zu_same]
        omega
      · rw [zu_ne (by omega)]
        simp only [sUp]
        by_cases c2 : j ≤ k
        · rw [if_pos c2, if_neg (by omega)]
          exact hs.2.1 j (by omega)
        · rw [if_neg c2, if_neg c1, if_pos (by omega), show e + 1 + j - 1 = e + 1 + (j - 1) by omega]
          exact hs.2.1 (j - 1) (by omega)
    · have hj : j < bCut t.2.1 k y (t.1 + 1) := hj
      simp only [bCut] at hj
      rw [if_neg (by omega)] at hj
      have hj2 : j < t.2.1 t.1 ∨ (k + 1 = t.1 + 1) := by
        by_cases c : t.1 + 1 = k + 1
        · exact Or.inr c.symm
        · rw [if_neg c] at hj
          exact Or.inl hj
      have hj3 : j < t.2.1 t.1 := by
        rcases hj2 with h | h
        · exact h
        · omega
      rw [zu_ne (by omega), zu_ne (by omega)]
      simp only [sUp]
      rw [if_neg (by omega)]
      exact hs.2.2 j hj3
    · rw [zu_ne (by omega), zu_ne (by omega)]
      simp only [sUp]
      rw [if_neg (by omega)]
  | succ m ih =>
    intro k u M' hu hk hkt hq hF
    subst hu
    have r1 : zRr (k : Int) := zrr (by omega) (by omega)
    have r2 : zRr (p : Int) := zrr (by omega) (by omega)
    have i1 : ((e : Int) + 1 + (k : Int)).toNat = e + 1 + k := by omega
    have i2 : ((e : Int) + 2 + (k : Int)).toNat = e + 2 + k := by omega
    refine zgo [5] ?_
    simp only [↓zX_succ, ↓zstp_nil, ↓zstp_cons, ↓reduceIte, zpu_some, zpu_none, zcs, zg, zst, Nat.reduceAdd, Nat.reduceSub, Nat.reduceMul, Nat.reduceEqDiff, Nat.reduceLeDiff, Nat.reduceLT, Int.reduceToNat, Int.reduceAdd, Int.reduceSub, Int.reduceMul, Int.reduceNeg, Int.reduceLE, Int.reduceLT, Int.reduceEq, Int.cast_ofNat_Int, Int.reduceNatCast', true_and, and_true, and_self, Nat.le_refl, Nat.add_zero, Nat.zero_add, Nat.zero_le, Nat.not_lt_zero, or_true, true_or, or_false, false_or, not_true_eq_false, not_false_eq_true, forall_const, true_implies, false_implies, implies_true, zup_same, zup_zup, Int.toNat_natCast, Nat.reduceDiv, List.length_cons, List.length_nil, Nat.succ_ne_zero, ne_eq, reduceCtorEq, zRl_m6, zRl_m5, zRl_m4, zRl_m3, zRl_m2, zRl_m1, zRl_0, zRl_1, zRl_2, zRl_3, zRl_4, zRl_5, zRl_6, zRl_7, zRl_8, zRl_9, zRl_10, zRl_11, zRl_12, zRl_13, zRl_14, zRl_15, zRl_16, zRl_17, zRl_18, zRl_19, zRl_20, zRl_21, zRl_22, zRl_23, zRl_31, zRl_32, zRl_33, zRl_49, zRl_59, zRl_60, zRl_64, zRl_97, zRl_122, zRl_124, zRl_126, zRl_128, zRl_717809397, zRl_1067285329, zRl_2147483647, o_L_seam, r_L_seam, eL_seam_0, q_aload_3, eL_seam_1, q_iload_0, eL_seam_2, q_iaload, zqal_s, eL_seam_3, q_istore_4n, q_istore_4i, q_istore_4a, eL_seam_5, q_iload_4, eL_seam_7, q_iload_1, eL_seam_8, q_icmp_le, eL_seam_11, eL_seam_12, eL_seam_13, q_iconst, eL_seam_14, q_iadd, eL_seam_15, eL_seam_17, eL_seam_18, eL_seam_19, eL_seam_20, eL_seam_21, eL_seam_22, eL_seam_24, eL_seam_25, eL_seam_26, q_iastore, zqas_s, eL_seam_27, q_iinc_4n, q_iinc_4i, q_iinc_4a, eL_seam_30, q_goto, eL_seam_33, eL_seam_34, eL_seam_35, eL_seam_36, eL_seam_37, eL_seam_38, eL_seam_39, eL_seam_40, eL_seam_41, eL_seam_42, eL_seam_43, eL_seam_44, eL_seam_45, eL_seam_46, q_iload_2, eL_seam_47, eL_seam_48, eL_seam_49, eL_seam_50, eL_seam_51, q_dup2, eL_seam_52, eL_seam_53, eL_seam_54, eL_seam_55, eL_seam_56, q_return, zqe_s, r1, r2, hq, i1, i2]
    refine ⟨fun g => by omega, fun _ => ⟨by omega, by omega, by omega, by omega, by omega, by omega, ?_⟩⟩
    refine ih (k - 1) _ _ (by omega) (by omega) (by omega) ?_ (hF.up (by omega) (by omega))
    rw [zup_same]
    congr 5
    funext j
    simp only [sUp, zu]
    by_cases c : j = e + 2 + k
    · subst c
      rw [if_pos rfl, if_neg (by omega), if_pos (by omega)]
      congr 1
      omega
    · rw [if_neg c]
      by_cases c2 : e + 2 + k < j ∧ j ≤ e + 2 + t.1
      · rw [if_pos c2, if_pos (by omega)]
      · rw [if_neg c2, if_neg (by omega)]
theorem c_seam {p y : Nat} (hM : M r = some (Sum.inr (0, N, Sum.inl (S)))) (hs : scR S e t) (hp : p < t.1) (hp5 : t.1 ≤ 5) (h12 : t.2.1 t.1 ≤ 12) (hy : y ≤ 12) (hN : e + 20 ≤ N) (hN2 : N < 1000000) (hQ : ∀ M' S', M' r = some (Sum.inr (0, N, Sum.inl (S'))) → zfr M M' r (r + 1) → scR S' e (scC t p y) → (∀ j, (j < e ∨ e + 20 ≤ j) → S' j = S j) → Q none M') : zCt lo d kL_seam 0 0 [(Sum.inl ((e : Int))), (Sum.inl ((p : Int))), (Sum.inl ((y : Int))), (Sum.inr (Sum.inl (some (r))))] M Q := by
  have i3 : ((e : Int)).toNat = e := by omega
  have h1 := hs.1
  refine zct [some (Sum.inl ((e : Int))), some (Sum.inl ((p : Int))), some (Sum.inl ((y : Int))), some (Sum.inr (Sum.inl (some (r)))), none] rfl (Nat.le_of_ble_eq_true rfl) (by decide +kernel) rfl ?_
  refine zgo [5] ?_
  simp only [↓zX_succ, ↓zstp_nil, ↓zstp_cons, ↓reduceIte, zpu_some, zpu_none, zcs, zg, zst, Nat.reduceAdd, Nat.reduceSub, Nat.reduceMul, Nat.reduceEqDiff, Nat.reduceLeDiff, Nat.reduceLT, Int.reduceToNat, Int.reduceAdd, Int.reduceSub, Int.reduceMul, Int.reduceNeg, Int.reduceLE, Int.reduceLT, Int.reduceEq, Int.cast_ofNat_Int, Int.reduceNatCast', true_and, and_true, and_self, Nat.le_refl, Nat.add_zero, Nat.zero_add, Nat.zero_le, Nat.not_lt_zero, or_true, true_or, or_false, false_or, not_true_eq_false, not_false_eq_true, forall_const, true_implies, false_implies, implies_true, zup_same, zup_zup, Int.toNat_natCast, Nat.reduceDiv, List.length_cons, List.length_nil, Nat.succ_ne_zero, ne_eq, reduceCtorEq, zRl_m6, zRl_m5, zRl_m4, zRl_m3, zRl_m2, zRl_m1, zRl_0, zRl_1, zRl_2, zRl_3, zRl_4, zRl_5, zRl_6, zRl_7, zRl_8, zRl_9, zRl_10, zRl_11, zRl_12, zRl_13, zRl_14, zRl_15, zRl_16, zRl_17, zRl_18, zRl_19, zRl_20, zRl_21, zRl_22, zRl_23, zRl_31, zRl_32, zRl_33, zRl_49, zRl_59, zRl_60, zRl_64, zRl_97, zRl_122, zRl_124, zRl_126, zRl_128, zRl_717809397, zRl_1067285329, zRl_2147483647, o_L_seam, r_L_seam, eL_seam_0, q_aload_3, eL_seam_1, q_iload_0, eL_seam_2, q_iaload, zqal_s, eL_seam_3, q_istore_4n, q_istore_4i, q_istore_4a, eL_seam_5, q_iload_4, eL_seam_7, q_iload_1, eL_seam_8, q_icmp_le, eL_seam_11, eL_seam_12, eL_seam_13, q_iconst, eL_seam_14, q_iadd, eL_seam_15, eL_seam_17, eL_seam_18, eL_seam_19, eL_seam_20, eL_seam_21, eL_seam_22, eL_seam_24, eL_seam_25, eL_seam_26, q_iastore, zqas_s, eL_seam_27, q_iinc_4n, q_iinc_4i, q_iinc_4a, eL_seam_30, q_goto, eL_seam_33, eL_seam_34, eL_seam_35, eL_seam_36, eL_seam_37, eL_seam_38, eL_seam_39, eL_seam_40, eL_seam_41, eL_seam_42, eL_seam_43, eL_seam_44, eL_seam_45, eL_seam_46, q_iload_2, eL_seam_47, eL_seam_48, eL_seam_49, eL_seam_50, eL_seam_51, q_dup2, eL_seam_52, eL_seam_53, eL_seam_54, eL_seam_55, eL_seam_56, q_return, zqe_s, hM, i3, h1]
  refine ⟨by omega, by omega, by omega, ?_⟩
  refine l_seam hM hs hp hp5 h12 hy hN hN2 hQ (t.1 - p) t.1 _ M rfl (by omega) (Nat.le_refl _) ?_ zfr_rf
  rw [hM]
  congr 5
  funext j
  simp only [sUp]
  rw [if_neg (by omega)]
/-- the ends of the law's row moved down for a seam that is undone -/
def sDn (S : Nat → Int) (e p k : Nat) : Nat → Int := fun j => if e + 2 + p ≤ j ∧ j < e + 1 + k then S (j + 1) else S j
theorem l_undone {p : Nat} (hs : scR S e t) (hp : p + 1 < t.1) (hp6 : t.1 ≤ 6) (h12 : t.2.1 t.1 ≤ 12) (hN : e + 20 ≤ N) (hN2 : N < 1000000) (hQ : ∀ M' S', M' r = some (Sum.inr (0, N, Sum.inl (S'))) → zfr M M' r (r + 1) → scR S' e (scU t p) → (∀ j, (j < e ∨ e + 20 ≤ j) → S' j = S j) → Q none M') : ∀ (m k : Nat) (u : Int) (M' : zM), u = (k : Int) → k + m = t.1 → p + 1 ≤ k → M' r = some (Sum.inr (0, N, Sum.inl (sDn S e p k))) → zfr M M' r (r + 1) →
    zm lo d kL_undone 0 0 Q (0, 0) 4 [some (Sum.inl ((e : Int))), some (Sum.inl ((p : Int))), some (Sum.inr (Sum.inl (some (r)))), some (Sum.inl (u))] [] M' := by
  intro m
  induction m with
  | zero =>
    intro k u M' hu hk hkp hq hF
    subst hu
    have e1 : k = t.1 := by omega
    subst e1
    have r1 : zRr (t.1 : Int) := zrr (by omega) (by omega)
    have i3 : ((e : Int)).toNat = e := by omega
    have h2 : sDn S e p t.1 e = (t.1 : Int) := by
      simp only [sDn]
      rw [if_neg (by omega)]
      exact hs.1
    refine zgo [4] ?_
    simp only [↓zX_succ, ↓zstp_nil, ↓zstp_cons, ↓reduceIte, zpu_some, zpu_none, zcs, zg, zst, Nat.reduceAdd, Nat.reduceSub, Nat.reduceMul, Nat.reduceEqDiff, Nat.reduceLeDiff, Nat.reduceLT, Int.reduceToNat, Int.reduceAdd, Int.reduceSub, Int.reduceMul, Int.reduceNeg, Int.reduceLE, Int.reduceLT, Int.reduceEq, Int.cast_ofNat_Int, Int.reduceNatCast', true_and, and_true, and_self, Nat.le_refl, Nat.add_zero, Nat.zero_add, Nat.zero_le, Nat.not_lt_zero, or_true, true_or, or_false, false_or, not_true_eq_false, not_false_eq_true, forall_const, true_implies, false_implies, implies_true, zup_same, zup_zup, Int.toNat_natCast, Nat.reduceDiv, List.length_cons, List.length_nil, Nat.succ_ne_zero, ne_eq, reduceCtorEq, zRl_m6, zRl_m5, zRl_m4, zRl_m3, zRl_m2, zRl_m1, zRl_0, zRl_1, zRl_2, zRl_3, zRl_4, zRl_5, zRl_6, zRl_7, zRl_8, zRl_9, zRl_10, zRl_11, zRl_12, zRl_13, zRl_14, zRl_15, zRl_16, zRl_17, zRl_18, zRl_19, zRl_20, zRl_21, zRl_22, zRl_23, zRl_31, zRl_32, zRl_33, zRl_49, zRl_59, zRl_60, zRl_64, zRl_97, zRl_122, zRl_124, zRl_126, zRl_128, zRl_717809397, zRl_1067285329, zRl_2147483647, o_L_undone, r_L_undone, eL_undone_0, q_iload_1, eL_undone_1, q_iconst, eL_undone_2, q_iadd, eL_undone_3, q_istore_3n, q_istore_3i, q_istore_3a, eL_undone_4, q_iload_3, eL_undone_5, q_aload_2, eL_undone_6, q_iload_0, eL_undone_7, q_iaload, zqal_s, eL_undone_8, q_icmp_ge, eL_undone_11, eL_undone_12, eL_undone_13, eL_undone_14, eL_undone_15, eL_undone_16, eL_undone_17, eL_undone_18, eL_undone_19, eL_undone_20, eL_undone_21, eL_undone_22, eL_undone_23, eL_undone_24, q_iastore, zqas_s, eL_undone_25, q_iinc_3n, q_iinc_3i, q_iinc_3a, eL_undone_28, q_goto, eL_undone_31, eL_undone_32, eL_undone_33, q_dup2, eL_undone_34, eL_undone_35, eL_undone_36, q_isub, eL_undone_37, eL_undone_38, q_return, zqe_s, r1, hq, i3, h2]
    refine ⟨by omega, by omega, by omega, fun _ => ⟨by omega, by omega, by omega, by omega, by omega, by omega, ?_⟩, fun g => by omega⟩
    refine hQ _ _ zup_same (hF.up (by omega) (by omega)) ⟨?_, fun j hj => ?_, fun j hj => ?_⟩ (fun j hj => ?_)
    · rw [zu_same]
      show _ = ((t.1 - 1 : Nat) : Int)
      omega
    · have hj : j ≤ t.1 - 1 := hj
      rw [zu_ne (by omega)]
      show _ = ((bUnd t.2.1 p j : Nat) : Int)
      simp only [bUnd, sDn]
      by_cases c2 : j ≤ p
      · rw [if_pos c2, if_neg (by omega)]
        exact hs.2.1 j (by omega)
      · rw [if_neg c2, if_pos (by omega), show e + 1 + j + 1 = e + 1 + (j + 1) by omega]
        exact hs.2.1 (j + 1) (by omega)
    · have hj : j < bUnd t.2.1 p (t.1 - 1) := hj
      simp only [bUnd] at hj
      rw [if_neg (by omega), show t.1 - 1 + 1 = t.1 by omega] at hj
      rw [zu_ne (by omega)]
      simp only [sDn]
      rw [if_neg (by omega)]
      exact hs.2.2 j hj
    · rw [zu_ne (by omega)]
      simp only [sDn]
      rw [if_neg (by omega)]
  | succ m ih =>
    intro k u M' hu hk hkp hq hF
    subst hu
    have r1 : zRr (k : Int) := zrr (by omega) (by omega)
    have r2 : zRr (t.1 : Int) := zrr (by omega) (by omega)
    have i1 : ((e : Int) + 1 + (k : Int)).toNat = e + 1 + k := by omega
    have i2 : ((e : Int) + 2 + (k : Int)).toNat = e + 2 + k := by omega
    have i3 : ((e : Int)).toNat = e := by omega
    have h2 : sDn S e p k e = (t.1 : Int) := by
      simp only [sDn]
      rw [if_neg (by omega)]
      exact hs.1
    refine zgo [4] ?_
    simp only [↓zX_succ, ↓zstp_nil, ↓zstp_cons, ↓reduceIte, zpu_some, zpu_none, zcs, zg, zst, Nat.reduceAdd, Nat.reduceSub, Nat.reduceMul, Nat.reduceEqDiff, Nat.reduceLeDiff, Nat.reduceLT, Int.reduceToNat, Int.reduceAdd, Int.reduceSub, Int.reduceMul, Int.reduceNeg, Int.reduceLE, Int.reduceLT, Int.reduceEq, Int.cast_ofNat_Int, Int.reduceNatCast', true_and, and_true, and_self, Nat.le_refl, Nat.add_zero, Nat.zero_add, Nat.zero_le, Nat.not_lt_zero, or_true, true_or, or_false, false_or, not_true_eq_false, not_false_eq_true, forall_const, true_implies, false_implies, implies_true, zup_same, zup_zup, Int.toNat_natCast, Nat.reduceDiv, List.length_cons, List.length_nil, Nat.succ_ne_zero, ne_eq, reduceCtorEq, zRl_m6, zRl_m5, zRl_m4, zRl_m3, zRl_m2, zRl_m1, zRl_0, zRl_1, zRl_2, zRl_3, zRl_4, zRl_5, zRl_6, zRl_7, zRl_8, zRl_9, zRl_10, zRl_11, zRl_12, zRl_13, zRl_14, zRl_15, zRl_16, zRl_17, zRl_18, zRl_19, zRl_20, zRl_21, zRl_22, zRl_23, zRl_31, zRl_32, zRl_33, zRl_49, zRl_59, zRl_60, zRl_64, zRl_97, zRl_122, zRl_124, zRl_126, zRl_128, zRl_717809397, zRl_1067285329, zRl_2147483647, o_L_undone, r_L_undone, eL_undone_0, q_iload_1, eL_undone_1, q_iconst, eL_undone_2, q_iadd, eL_undone_3, q_istore_3n, q_istore_3i, q_istore_3a, eL_undone_4, q_iload_3, eL_undone_5, q_aload_2, eL_undone_6, q_iload_0, eL_undone_7, q_iaload, zqal_s, eL_undone_8, q_icmp_ge, eL_undone_11, eL_undone_12, eL_undone_13, eL_undone_14, eL_undone_15, eL_undone_16, eL_undone_17, eL_undone_18, eL_undone_19, eL_undone_20, eL_undone_21, eL_undone_22, eL_undone_23, eL_undone_24, q_iastore, zqas_s, eL_undone_25, q_iinc_3n, q_iinc_3i, q_iinc_3a, eL_undone_28, q_goto, eL_undone_31, eL_undone_32, eL_undone_33, q_dup2, eL_undone_34, eL_undone_35, eL_undone_36, q_isub, eL_undone_37, eL_undone_38, q_return, zqe_s, r1, r2, hq, i1, i2, i3, h2]
    refine ⟨by omega, by omega, by omega, fun g => by omega, fun _ => ⟨by omega, by omega, by omega, by omega, by omega, by omega, ?_⟩⟩
    refine ih (k + 1) _ _ (by omega) (by omega) (by omega) ?_ (hF.up (by omega) (by omega))
    rw [zup_same]
    congr 5
    funext j
    simp only [sDn, zu]
    by_cases c : j = e + 1 + k
    · subst c
      rw [if_pos rfl, if_neg (by omega), if_pos (by omega)]
      congr 1
      omega
    · rw [if_neg c]
      by_cases c2 : e + 2 + p ≤ j ∧ j < e + 1 + k
      · rw [if_pos c2, if_pos (by omega)]
      · rw [if_neg c2, if_neg (by omega)]
theorem c_undone {p : Nat} (hM : M r = some (Sum.inr (0, N, Sum.inl (S)))) (hs : scR S e t) (hp : p + 1 < t.1) (hp6 : t.1 ≤ 6) (h12 : t.2.1 t.1 ≤ 12) (hN : e + 20 ≤ N) (hN2 : N < 1000000) (hQ : ∀ M' S', M' r = some (Sum.inr (0, N, Sum.inl (S'))) → zfr M M' r (r + 1) → scR S' e (scU t p) → (∀ j, (j < e ∨ e + 20 ≤ j) → S' j = S j) → Q none M') : zCt lo d kL_undone 0 0 [(Sum.inl ((e : Int))), (Sum.inl ((p : Int))), (Sum.inr (Sum.inl (some (r))))] M Q := by
  refine zct [some (Sum.inl ((e : Int))), some (Sum.inl ((p : Int))), some (Sum.inr (Sum.inl (some (r)))), none] rfl (Nat.le_of_ble_eq_true rfl) (by decide +kernel) rfl ?_
  refine zgo [4] ?_
  simp only [↓zX_succ, ↓zstp_nil, ↓zstp_cons, ↓reduceIte, zpu_some, zpu_none, zcs, zg, zst, Nat.reduceAdd, Nat.reduceSub, Nat.reduceMul, Nat.reduceEqDiff, Nat.reduceLeDiff, Nat.reduceLT, Int.reduceToNat, Int.reduceAdd, Int.reduceSub, Int.reduceMul, Int.reduceNeg, Int.reduceLE, Int.reduceLT, Int.reduceEq, Int.cast_ofNat_Int, Int.reduceNatCast', true_and, and_true, and_self, Nat.le_refl, Nat.add_zero, Nat.zero_add, Nat.zero_le, Nat.not_lt_zero, or_true, true_or, or_false, false_or, not_true_eq_false, not_false_eq_true, forall_const, true_implies, false_implies, implies_true, zup_same, zup_zup, Int.toNat_natCast, Nat.reduceDiv, List.length_cons, List.length_nil, Nat.succ_ne_zero, ne_eq, reduceCtorEq, zRl_m6, zRl_m5, zRl_m4, zRl_m3, zRl_m2, zRl_m1, zRl_0, zRl_1, zRl_2, zRl_3, zRl_4, zRl_5, zRl_6, zRl_7, zRl_8, zRl_9, zRl_10, zRl_11, zRl_12, zRl_13, zRl_14, zRl_15, zRl_16, zRl_17, zRl_18, zRl_19, zRl_20, zRl_21, zRl_22, zRl_23, zRl_31, zRl_32, zRl_33, zRl_49, zRl_59, zRl_60, zRl_64, zRl_97, zRl_122, zRl_124, zRl_126, zRl_128, zRl_717809397, zRl_1067285329, zRl_2147483647, o_L_undone, r_L_undone, eL_undone_0, q_iload_1, eL_undone_1, q_iconst, eL_undone_2, q_iadd, eL_undone_3, q_istore_3n, q_istore_3i, q_istore_3a, eL_undone_4, q_iload_3, eL_undone_5, q_aload_2, eL_undone_6, q_iload_0, eL_undone_7, q_iaload, zqal_s, eL_undone_8, q_icmp_ge, eL_undone_11, eL_undone_12, eL_undone_13, eL_undone_14, eL_undone_15, eL_undone_16, eL_undone_17, eL_undone_18, eL_undone_19, eL_undone_20, eL_undone_21, eL_undone_22, eL_undone_23, eL_undone_24, q_iastore, zqas_s, eL_undone_25, q_iinc_3n, q_iinc_3i, q_iinc_3a, eL_undone_28, q_goto, eL_undone_31, eL_undone_32, eL_undone_33, q_dup2, eL_undone_34, eL_undone_35, eL_undone_36, q_isub, eL_undone_37, eL_undone_38, q_return, zqe_s, hM]
  refine l_undone hs hp hp6 h12 hN hN2 hQ (t.1 - (p + 1)) (p + 1) _ M (by omega) (by omega) (Nat.le_refl _) ?_ zfr_rf
  rw [hM]
  congr 5
  funext j
  simp only [sDn]
  rw [if_neg (by omega)]
theorem c_digit {x : List Int} {i n : Nat} (hx : zL x) (hn : x.length = n) (hn10 : n ≤ 10) (hi : i < n) (hQ : Q (some (Sum.inl (x.getD i 0))) M) : zCt lo d kL_digit 0 0 [(Sum.inr (Sum.inr (Int64.ofInt (nm x)))), (Sum.inl ((i : Int))), (Sum.inl ((n : Int)))] M Q := by
  subst hn
  have e1 : (5 : Int) * ((x.length : Int) - 1 - (i : Int)) = 5 * ((x.length - 1 - i : Nat) : Int) := by omega
  have e2 := jS (a := nm x) (i := x.length - 1 - i) (nm_b hx hn10) (by omega)
  have e3 : zand (Int64.ofInt (nm x / 32 ^ (x.length - 1 - i))).toInt32.toInt 31 = x.getD i 0 := by
    rw [jA (Int.ediv_nonneg (nm_b hx hn10).1 (Int.le_of_lt (pw_pos _))), nm_dig hx i hi]
  refine zct [some (Sum.inr (Sum.inr (Int64.ofInt (nm x)))), none, some (Sum.inl ((i : Int))), some (Sum.inl ((x.length : Int)))] rfl (Nat.le_of_ble_eq_true rfl) (by decide +kernel) rfl ?_
  refine zgo [] ?_
  simp only [↓zX_succ, ↓zstp_nil, ↓zstp_cons, ↓reduceIte, zpu_some, zpu_none, zcs, zg, zst, Nat.reduceAdd, Nat.reduceSub, Nat.reduceMul, Nat.reduceEqDiff, Nat.reduceLeDiff, Nat.reduceLT, Int.reduceToNat, Int.reduceAdd, Int.reduceSub, Int.reduceMul, Int.reduceNeg, Int.reduceLE, Int.reduceLT, Int.reduceEq, Int.cast_ofNat_Int, Int.reduceNatCast', true_and, and_true, and_self, Nat.le_refl, Nat.add_zero, Nat.zero_add, Nat.zero_le, Nat.not_lt_zero, or_true, true_or, or_false, false_or, not_true_eq_false, not_false_eq_true, forall_const, true_implies, false_implies, implies_true, zup_same, zup_zup, Int.toNat_natCast, Nat.reduceDiv, List.length_cons, List.length_nil, Nat.succ_ne_zero, ne_eq, reduceCtorEq, zRl_m6, zRl_m5, zRl_m4, zRl_m3, zRl_m2, zRl_m1, zRl_0, zRl_1, zRl_2, zRl_3, zRl_4, zRl_5, zRl_6, zRl_7, zRl_8, zRl_9, zRl_10, zRl_11, zRl_12, zRl_13, zRl_14, zRl_15, zRl_16, zRl_17, zRl_18, zRl_19, zRl_20, zRl_21, zRl_22, zRl_23, zRl_31, zRl_32, zRl_33, zRl_49, zRl_59, zRl_60, zRl_64, zRl_97, zRl_122, zRl_124, zRl_126, zRl_128, zRl_717809397, zRl_1067285329, zRl_2147483647, o_L_digit, r_L_digit, eL_digit_0, q_lload_0, eL_digit_1, q_iconst, eL_digit_2, q_iload_3, eL_digit_3, eL_digit_4, q_isub, eL_digit_5, q_iload_2, eL_digit_6, eL_digit_7, q_imul, eL_digit_8, q_lshr, eL_digit_9, q_l2i, eL_digit_10, q_bipush, eL_digit_12, q_iand, eL_digit_13, q_ireturn, zqi_i, zqi_z, e1, e2, e3]
  exact hQ
-- readings that two rows share
/-- how many of the first m of B are z; of the first k of A, how many are in B -/
def cIn (B : List (List Int)) (z : List Int) : Nat → Nat
  | 0 => 0
  | m + 1 => cIn B z m + (if z = B.getD m [] then 1 else 0)
def cBo (A B : List (List Int)) : Nat → Nat
  | 0 => 0
  | k + 1 => cBo A B k + cIn B (A.getD k []) B.length
theorem cIn_le {B : List (List Int)} {z : List Int} : ∀ m, cIn B z m ≤ m
  | 0 => Nat.le_refl _
  | m + 1 => by
    have := cIn_le (B := B) (z := z) m
    simp only [cIn]
    split <;> omega
theorem cIn_0 {B : List (List Int)} {z : List Int} : ∀ m, (∀ j, j < m → z ≠ B.getD j []) → cIn B z m = 0
  | 0, _ => rfl
  | m + 1, h => by
    rw [cIn, cIn_0 m (fun j hj => h j (by omega)), if_neg (h m (by omega))]
theorem cIn_srt {B : List (List Int)} (hB : srt B) {z : List Int} : ∀ m, m ≤ B.length → cIn B z m = if ∃ j, j < m ∧ z = B.getD j [] then 1 else 0
  | 0, _ => by
    rw [if_neg (by rintro ⟨j, hj, -⟩; omega)]
    rfl
  | m + 1, hm => by
    by_cases c : z = B.getD m []
    · rw [cIn, if_pos c, cIn_0 m (fun j hj e => llt_ne (srt_gd hB hj (by omega)) (e.symm.trans c)), if_pos ⟨m, by omega, c⟩]
    · rw [cIn, if_neg c, cIn_srt hB m (by omega)]
      by_cases c2 : ∃ j, j < m ∧ z = B.getD j []
      · obtain ⟨j, hj, e⟩ := c2
        rw [if_pos ⟨j, hj, e⟩, if_pos ⟨j, by omega, e⟩]
      · rw [if_neg c2, if_neg]
        rintro ⟨j, hj, e⟩
        by_cases cj : j = m
        · exact c (cj ▸ e)
        · exact c2 ⟨j, by omega, e⟩
theorem cIn_mem {B : List (List Int)} (hB : srt B) {z : List Int} : cIn B z B.length = if z ∈ B then 1 else 0 := by
  rw [cIn_srt hB _ (Nat.le_refl _)]
  by_cases c : z ∈ B
  · rw [if_pos c, if_pos]
    obtain ⟨j, hj, e⟩ := gd_of c
    exact ⟨j, hj, e.symm⟩
  · rw [if_neg c, if_neg]
    rintro ⟨j, hj, e⟩
    exact c (e ▸ gd_mem hj)
theorem cBo_fil {A B : List (List Int)} (hB : srt B) : ∀ k, k ≤ A.length → cBo A B k = ((A.take k).filter (fun z => decide (z ∈ B))).length
  | 0, _ => by simp [cBo]
  | k + 1, hk => by
    rw [cBo, cBo_fil hB k (by omega), cIn_mem hB, List.take_add_one, List.filter_append, List.length_append, List.getElem?_eq_getElem (show k < A.length by omega), List.getD_eq_getElem?_getD, List.getElem?_eq_getElem (show k < A.length by omega), Option.getD_some]
    congr 1
    by_cases c : A[k] ∈ B
    · rw [if_pos c]
      simp [c]
    · rw [if_neg c]
      simp [c]
theorem cBo_all {A B : List (List Int)} (hB : srt B) : cBo A B A.length = (A.filter (fun z => decide (z ∈ B))).length := by
  rw [cBo_fil hB _ (Nat.le_refl _), List.take_length]
theorem cBo_le {A B : List (List Int)} : ∀ k, cBo A B k ≤ k * B.length
  | 0 => by simp [cBo]
  | k + 1 => by
    have h1 := cBo_le (A := A) (B := B) k
    have h2 := cIn_le (B := B) (z := A.getD k []) B.length
    rw [cBo, Nat.succ_mul]
    omega
end L2
