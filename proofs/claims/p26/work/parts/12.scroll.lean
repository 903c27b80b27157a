/-- a part turned round -/
def zrev (f : Nat → Int) (l h : Nat) : Nat → Int := fun j => if l ≤ j ∧ j < h then f (l + h - 1 - j) else f j
def ot (f : Nat → Int) : Nat → Nat → Nat → Int
  | 0, _, _ => 0
  | n + 1, lo, e => if lo + 1 < e then (if f lo = f (e - 1) then ot f n (lo + 1) (e - 1) else f lo - f (e - 1)) else 0
/-- letters, where they are looked at -/
def zB (f : Nat → Int) (l h : Nat) : Prop := ∀ j, l ≤ j → j < h → 0 ≤ f j ∧ f j ≤ 25
section SC3
variable {lo d a r N : Nat} {p x y z : Int} {E L f : Nat → Int} {M : zM} {Q : Option zV → zM → Prop}
theorem l_turnPart {l h : Nat} (hN : h ≤ N) (hN2 : N < 1000000) (hQ : ∀ M', M' r = some (Sum.inr (0, N, Sum.inl (zrev f l h))) → zfr M M' r (r + 1) → Q none M') : ∀ (n k : Nat) (g : Nat → Int) (M' : zM) (u v : Int) (w : Option zV), M' r = some (Sum.inr (0, N, Sum.inl (g))) → zfr M M' r (r + 1) → u = (l : Int) + k → v = (h : Int) - 1 - k → h ≤ l + 2 * k + n → (k = 0 ∨ l + 2 * k ≤ h + 1) → l ≤ 1000000 →
    (∀ j, g j = if (l ≤ j ∧ j < l + k ∧ j < h) ∨ (h ≤ j + k ∧ j < h ∧ l ≤ j) then f (l + h - 1 - j) else f j) → zm lo d kX6_turnPart 0 0 Q (0, 0) 18 [some (Sum.inr (Sum.inl (some (r)))), some (Sum.inl ((l : Int))), some (Sum.inl ((h : Int))), some (Sum.inl (u)), some (Sum.inl (v)), w] [] M' := by
  intro n
  induction n with
  | zero =>
    intro k g M' u v w hM hf hu hv hn hk hl hg
    have r1 : zRr u := zrr (by omega) (by omega)
    have r2 : zRr v := zrr (by omega) (by omega)
    refine zgo [18] ?_
    simp only [↓zX_succ, ↓zstp_nil, ↓zstp_cons, ↓reduceIte, zpu_some, zpu_none, zcs, zg, zst, Nat.reduceAdd, Nat.reduceSub, Nat.reduceMul, Nat.reduceEqDiff, Nat.reduceLeDiff, Nat.reduceLT, Int.reduceToNat, Int.reduceAdd, Int.reduceSub, Int.reduceMul, Int.reduceNeg, Int.reduceLE, Int.reduceLT, Int.reduceEq, Int.cast_ofNat_Int, Int.reduceNatCast', true_and, and_true, and_self, Nat.le_refl, Nat.add_zero, Nat.zero_add, Nat.zero_le, Nat.not_lt_zero, or_true, true_or, or_false, false_or, not_true_eq_false, not_false_eq_true, forall_const, true_implies, false_implies, implies_true, zup_same, zup_zup, Int.toNat_natCast, Nat.reduceDiv, List.length_cons, List.length_nil, Nat.succ_ne_zero, ne_eq, reduceCtorEq, zRl_m6, zRl_m5, zRl_m4, zRl_m3, zRl_m2, zRl_m1, zRl_0, zRl_1, zRl_2, zRl_3, zRl_4, zRl_5, zRl_6, zRl_7, zRl_8, zRl_9, zRl_10, zRl_11, zRl_12, zRl_13, zRl_14, zRl_15, zRl_16, zRl_17, zRl_18, zRl_19, zRl_20, zRl_21, zRl_22, zRl_23, zRl_31, zRl_32, zRl_33, zRl_49, zRl_59, zRl_60, zRl_64, zRl_97, zRl_122, zRl_124, zRl_126, zRl_128, zRl_717809397, zRl_1067285329, zRl_2147483647, o_X6_turnPart, r_X6_turnPart, eX6_turnPart_0, q_iload_1, eX6_turnPart_1, q_if_lt, eX6_turnPart_4, q_iload_2, eX6_turnPart_5, q_aload_0, eX6_turnPart_6, q_alen, zqln_s, eX6_turnPart_7, q_icmp_le, eX6_turnPart_10, q_return, zqe_s, eX6_turnPart_11, eX6_turnPart_12, q_istore_3n, q_istore_3i, q_istore_3a, eX6_turnPart_13, eX6_turnPart_14, q_iconst, eX6_turnPart_15, q_isub, eX6_turnPart_16, q_istore_4n, q_istore_4i, q_istore_4a, eX6_turnPart_18, q_iload_3, eX6_turnPart_19, q_iload_4, eX6_turnPart_21, q_icmp_ge, eX6_turnPart_24, eX6_turnPart_25, eX6_turnPart_26, q_iaload, zqal_s, eX6_turnPart_27, q_istore_5n, q_istore_5i, q_istore_5a, eX6_turnPart_29, eX6_turnPart_30, eX6_turnPart_31, eX6_turnPart_32, eX6_turnPart_34, eX6_turnPart_35, q_iastore, zqas_s, eX6_turnPart_36, eX6_turnPart_37, eX6_turnPart_39, q_iload_5, eX6_turnPart_41, eX6_turnPart_42, q_iinc_3n, q_iinc_3i, q_iinc_3a, eX6_turnPart_45, q_iinc_4n, q_iinc_4i, q_iinc_4a, eX6_turnPart_48, q_goto, eX6_turnPart_51, hM, r1, r2]
    refine ⟨fun _ => hQ M' ?_ hf, fun q => by omega⟩
    rw [hM]
    have e : g = zrev f l h := by
      funext j
      rw [hg, zrev]
      split <;> split <;> (try rfl) <;> (try omega)
    rw [e]
  | succ n ih =>
    intro k g M' u v w hM hf hu hv hn hk hl hg
    have r1 : zRr u := zrr (by omega) (by omega)
    have r2 : zRr v := zrr (by omega) (by omega)
    refine zgo [18] ?_
    simp only [↓zX_succ, ↓zstp_nil, ↓zstp_cons, ↓reduceIte, zpu_some, zpu_none, zcs, zg, zst, Nat.reduceAdd, Nat.reduceSub, Nat.reduceMul, Nat.reduceEqDiff, Nat.reduceLeDiff, Nat.reduceLT, Int.reduceToNat, Int.reduceAdd, Int.reduceSub, Int.reduceMul, Int.reduceNeg, Int.reduceLE, Int.reduceLT, Int.reduceEq, Int.cast_ofNat_Int, Int.reduceNatCast', true_and, and_true, and_self, Nat.le_refl, Nat.add_zero, Nat.zero_add, Nat.zero_le, Nat.not_lt_zero, or_true, true_or, or_false, false_or, not_true_eq_false, not_false_eq_true, forall_const, true_implies, false_implies, implies_true, zup_same, zup_zup, Int.toNat_natCast, Nat.reduceDiv, List.length_cons, List.length_nil, Nat.succ_ne_zero, ne_eq, reduceCtorEq, zRl_m6, zRl_m5, zRl_m4, zRl_m3, zRl_m2, zRl_m1, zRl_0, zRl_1, zRl_2, zRl_3, zRl_4, zRl_5, zRl_6, zRl_7, zRl_8, zRl_9, zRl_10, zRl_11, zRl_12, zRl_13, zRl_14, zRl_15, zRl_16, zRl_17, zRl_18, zRl_19, zRl_20, zRl_21, zRl_22, zRl_23, zRl_31, zRl_32, zRl_33, zRl_49, zRl_59, zRl_60, zRl_64, zRl_97, zRl_122, zRl_124, zRl_126, zRl_128, zRl_717809397, zRl_1067285329, zRl_2147483647, o_X6_turnPart, r_X6_turnPart, eX6_turnPart_0, q_iload_1, eX6_turnPart_1, q_if_lt, eX6_turnPart_4, q_iload_2, eX6_turnPart_5, q_aload_0, eX6_turnPart_6, q_alen, zqln_s, eX6_turnPart_7, q_icmp_le, eX6_turnPart_10, q_return, zqe_s, eX6_turnPart_11, eX6_turnPart_12, q_istore_3n, q_istore_3i, q_istore_3a, eX6_turnPart_13, eX6_turnPart_14, q_iconst, eX6_turnPart_15, q_isub, eX6_turnPart_16, q_istore_4n, q_istore_4i, q_istore_4a, eX6_turnPart_18, q_iload_3, eX6_turnPart_19, q_iload_4, eX6_turnPart_21, q_icmp_ge, eX6_turnPart_24, eX6_turnPart_25, eX6_turnPart_26, q_iaload, zqal_s, eX6_turnPart_27, q_istore_5n, q_istore_5i, q_istore_5a, eX6_turnPart_29, eX6_turnPart_30, eX6_turnPart_31, eX6_turnPart_32, eX6_turnPart_34, eX6_turnPart_35, q_iastore, zqas_s, eX6_turnPart_36, eX6_turnPart_37, eX6_turnPart_39, q_iload_5, eX6_turnPart_41, eX6_turnPart_42, q_iinc_3n, q_iinc_3i, q_iinc_3a, eX6_turnPart_45, q_iinc_4n, q_iinc_4i, q_iinc_4a, eX6_turnPart_48, q_goto, eX6_turnPart_51, hM, r1, r2]
    refine ⟨fun q => hQ M' ?_ hf, fun q => ?_⟩
    · rw [hM]
      have e : g = zrev f l h := by
        funext j
        rw [hg, zrev]
        split <;> split <;> (try rfl) <;> (try omega)
        all_goals (try (congr 1; omega))
      rw [e]
    · refine ⟨by omega, by omega, by omega, by omega, by omega, by omega, by omega, by omega, by omega, by omega, by omega, by omega, ?_⟩
      refine ih (k + 1) _ _ _ _ _ zup_same (hf.up (by omega) (by omega)) (by omega) (by omega) (by omega) (by omega) hl (fun j => ?_)
      by_cases h1 : j = v.toNat
      · subst h1
        rw [zu_same, hg, if_neg (by omega), if_pos (by omega)]
        congr 1
        omega
      · rw [zu_ne h1]
        by_cases h2 : j = u.toNat
        · subst h2
          rw [zu_same, hg, if_neg (by omega), if_pos (by omega)]
          congr 1
          omega
        · rw [zu_ne h2, hg]
          split <;> split <;> (try rfl) <;> (try omega)
theorem c_turnPart {l h : Nat} (hM : M r = some (Sum.inr (0, N, Sum.inl (f)))) (hl : l ≤ h) (hN : h ≤ N) (hN2 : N < 1000000) (hQ : ∀ M', M' r = some (Sum.inr (0, N, Sum.inl (zrev f l h))) → zfr M M' r (r + 1) → Q none M') : zCt lo d kX6_turnPart 0 0 [(Sum.inr (Sum.inl (some (r)))), (Sum.inl ((l : Int))), (Sum.inl ((h : Int)))] M Q := by
  have r1 : zRr (l : Int) := zrr (by omega) (by omega)
  have r2 : zRr (h : Int) := zrr (by omega) (by omega)
  have r3 : zRr (N : Int) := zrr (by omega) (by omega)
  refine zct [some (Sum.inr (Sum.inl (some (r)))), some (Sum.inl ((l : Int))), some (Sum.inl ((h : Int))), none, none, none] rfl (Nat.le_of_ble_eq_true rfl) (by decide +kernel) rfl ?_
  refine zgo [18] ?_
  simp only [↓zX_succ, ↓zstp_nil, ↓zstp_cons, ↓reduceIte, zpu_some, zpu_none, zcs, zg, zst, Nat.reduceAdd, Nat.reduceSub, Nat.reduceMul, Nat.reduceEqDiff, Nat.reduceLeDiff, Nat.reduceLT, Int.reduceToNat, Int.reduceAdd, Int.reduceSub, Int.reduceMul, Int.reduceNeg, Int.reduceLE, Int.reduceLT, Int.reduceEq, Int.cast_ofNat_Int, Int.reduceNatCast', true_and, and_true, and_self, Nat.le_refl, Nat.add_zero, Nat.zero_add, Nat.zero_le, Nat.not_lt_zero, or_true, true_or, or_false, false_or, not_true_eq_false, not_false_eq_true, forall_const, true_implies, false_implies, implies_true, zup_same, zup_zup, Int.toNat_natCast, Nat.reduceDiv, List.length_cons, List.length_nil, Nat.succ_ne_zero, ne_eq, reduceCtorEq, zRl_m6, zRl_m5, zRl_m4, zRl_m3, zRl_m2, zRl_m1, zRl_0, zRl_1, zRl_2, zRl_3, zRl_4, zRl_5, zRl_6, zRl_7, zRl_8, zRl_9, zRl_10, zRl_11, zRl_12, zRl_13, zRl_14, zRl_15, zRl_16, zRl_17, zRl_18, zRl_19, zRl_20, zRl_21, zRl_22, zRl_23, zRl_31, zRl_32, zRl_33, zRl_49, zRl_59, zRl_60, zRl_64, zRl_97, zRl_122, zRl_124, zRl_126, zRl_128, zRl_717809397, zRl_1067285329, zRl_2147483647, o_X6_turnPart, r_X6_turnPart, eX6_turnPart_0, q_iload_1, eX6_turnPart_1, q_if_lt, eX6_turnPart_4, q_iload_2, eX6_turnPart_5, q_aload_0, eX6_turnPart_6, q_alen, zqln_s, eX6_turnPart_7, q_icmp_le, eX6_turnPart_10, q_return, zqe_s, eX6_turnPart_11, eX6_turnPart_12, q_istore_3n, q_istore_3i, q_istore_3a, eX6_turnPart_13, eX6_turnPart_14, q_iconst, eX6_turnPart_15, q_isub, eX6_turnPart_16, q_istore_4n, q_istore_4i, q_istore_4a, eX6_turnPart_18, q_iload_3, eX6_turnPart_19, q_iload_4, eX6_turnPart_21, q_icmp_ge, eX6_turnPart_24, eX6_turnPart_25, eX6_turnPart_26, q_iaload, zqal_s, eX6_turnPart_27, q_istore_5n, q_istore_5i, q_istore_5a, eX6_turnPart_29, eX6_turnPart_30, eX6_turnPart_31, eX6_turnPart_32, eX6_turnPart_34, eX6_turnPart_35, q_iastore, zqas_s, eX6_turnPart_36, eX6_turnPart_37, eX6_turnPart_39, q_iload_5, eX6_turnPart_41, eX6_turnPart_42, q_iinc_3n, q_iinc_3i, q_iinc_3a, eX6_turnPart_45, q_iinc_4n, q_iinc_4i, q_iinc_4a, eX6_turnPart_48, q_goto, eX6_turnPart_51, hM, r1, r2, r3]
  refine ⟨fun q => by omega, fun _ => ⟨fun _ => ?_, fun q => by omega⟩⟩
  exact l_turnPart hN hN2 hQ (h - l) 0 f M _ _ _ hM zfr_rf (by omega) (by omega) (by omega) (Or.inl rfl) (by omega) (fun j => by rw [if_neg (by omega)])
theorem l_orderTurned {l h : Nat} (hM : M r = some (Sum.inr (0, N, Sum.inl (f)))) (hN : h ≤ N) (hN2 : N < 1000000) (hb : zB f l h) : ∀ (n k : Nat) (u v : Int) (Q : Option zV → zM → Prop), u = (l : Int) + k → v = (h : Int) - 1 - k → h ≤ l + 2 * k + n → l ≤ 1000000 → k ≤ 1000000 → Q (some (Sum.inl (ot f n (l + k) (h - k)))) M → zm lo d kX6_orderTurned 0 0 Q (0, 0) 19 [some (Sum.inr (Sum.inl (some (r)))), some (Sum.inl ((l : Int))), some (Sum.inl ((h : Int))), some (Sum.inl (u)), some (Sum.inl (v))] [] M := by
  intro n
  induction n with
  | zero =>
    intro k u v Q hu hv hn hl hk1 hQ
    have r1 : zRr u := zrr (by omega) (by omega)
    have r2 : zRr v := zrr (by omega) (by omega)
    refine zgo [19] ?_
    simp only [↓zX_succ, ↓zstp_nil, ↓zstp_cons, ↓reduceIte, zpu_some, zpu_none, zcs, zg, zst, Nat.reduceAdd, Nat.reduceSub, Nat.reduceMul, Nat.reduceEqDiff, Nat.reduceLeDiff, Nat.reduceLT, Int.reduceToNat, Int.reduceAdd, Int.reduceSub, Int.reduceMul, Int.reduceNeg, Int.reduceLE, Int.reduceLT, Int.reduceEq, Int.cast_ofNat_Int, Int.reduceNatCast', true_and, and_true, and_self, Nat.le_refl, Nat.add_zero, Nat.zero_add, Nat.zero_le, Nat.not_lt_zero, or_true, true_or, or_false, false_or, not_true_eq_false, not_false_eq_true, forall_const, true_implies, false_implies, implies_true, zup_same, zup_zup, Int.toNat_natCast, Nat.reduceDiv, List.length_cons, List.length_nil, Nat.succ_ne_zero, ne_eq, reduceCtorEq, zRl_m6, zRl_m5, zRl_m4, zRl_m3, zRl_m2, zRl_m1, zRl_0, zRl_1, zRl_2, zRl_3, zRl_4, zRl_5, zRl_6, zRl_7, zRl_8, zRl_9, zRl_10, zRl_11, zRl_12, zRl_13, zRl_14, zRl_15, zRl_16, zRl_17, zRl_18, zRl_19, zRl_20, zRl_21, zRl_22, zRl_23, zRl_31, zRl_32, zRl_33, zRl_49, zRl_59, zRl_60, zRl_64, zRl_97, zRl_122, zRl_124, zRl_126, zRl_128, zRl_717809397, zRl_1067285329, zRl_2147483647, o_X6_orderTurned, r_X6_orderTurned, eX6_orderTurned_0, q_iload_1, eX6_orderTurned_1, q_if_lt, eX6_orderTurned_4, q_iload_2, eX6_orderTurned_5, q_aload_0, eX6_orderTurned_6, q_alen, zqln_s, eX6_orderTurned_7, q_icmp_le, eX6_orderTurned_10, q_iconst, eX6_orderTurned_11, q_ireturn, zqi_i, zqi_z, eX6_orderTurned_12, eX6_orderTurned_13, q_istore_3n, q_istore_3i, q_istore_3a, eX6_orderTurned_14, eX6_orderTurned_15, eX6_orderTurned_16, q_isub, eX6_orderTurned_17, q_istore_4n, q_istore_4i, q_istore_4a, eX6_orderTurned_19, q_iload_3, eX6_orderTurned_20, q_iload_4, eX6_orderTurned_22, q_icmp_ge, eX6_orderTurned_25, eX6_orderTurned_26, eX6_orderTurned_27, q_iaload, zqal_s, eX6_orderTurned_28, eX6_orderTurned_29, eX6_orderTurned_31, eX6_orderTurned_32, q_icmp_eq, eX6_orderTurned_35, eX6_orderTurned_36, eX6_orderTurned_37, eX6_orderTurned_38, eX6_orderTurned_39, eX6_orderTurned_41, eX6_orderTurned_42, eX6_orderTurned_43, eX6_orderTurned_44, q_iinc_3n, q_iinc_3i, q_iinc_3a, eX6_orderTurned_47, q_iinc_4n, q_iinc_4i, q_iinc_4a, eX6_orderTurned_50, q_goto, eX6_orderTurned_53, eX6_orderTurned_54, hM, r1, r2]
    exact ⟨fun _ => hQ, fun q => by omega⟩
  | succ n ih =>
    intro k u v Q hu hv hn hl hk1 hQ
    have r1 : zRr u := zrr (by omega) (by omega)
    have r2 : zRr v := zrr (by omega) (by omega)
    rw [ot] at hQ
    by_cases hc : v ≤ u
    · refine zgo [19] ?_
      simp only [↓zX_succ, ↓zstp_nil, ↓zstp_cons, ↓reduceIte, zpu_some, zpu_none, zcs, zg, zst, Nat.reduceAdd, Nat.reduceSub, Nat.reduceMul, Nat.reduceEqDiff, Nat.reduceLeDiff, Nat.reduceLT, Int.reduceToNat, Int.reduceAdd, Int.reduceSub, Int.reduceMul, Int.reduceNeg, Int.reduceLE, Int.reduceLT, Int.reduceEq, Int.cast_ofNat_Int, Int.reduceNatCast', true_and, and_true, and_self, Nat.le_refl, Nat.add_zero, Nat.zero_add, Nat.zero_le, Nat.not_lt_zero, or_true, true_or, or_false, false_or, not_true_eq_false, not_false_eq_true, forall_const, true_implies, false_implies, implies_true, zup_same, zup_zup, Int.toNat_natCast, Nat.reduceDiv, List.length_cons, List.length_nil, Nat.succ_ne_zero, ne_eq, reduceCtorEq, zRl_m6, zRl_m5, zRl_m4, zRl_m3, zRl_m2, zRl_m1, zRl_0, zRl_1, zRl_2, zRl_3, zRl_4, zRl_5, zRl_6, zRl_7, zRl_8, zRl_9, zRl_10, zRl_11, zRl_12, zRl_13, zRl_14, zRl_15, zRl_16, zRl_17, zRl_18, zRl_19, zRl_20, zRl_21, zRl_22, zRl_23, zRl_31, zRl_32, zRl_33, zRl_49, zRl_59, zRl_60, zRl_64, zRl_97, zRl_122, zRl_124, zRl_126, zRl_128, zRl_717809397, zRl_1067285329, zRl_2147483647, o_X6_orderTurned, r_X6_orderTurned, eX6_orderTurned_0, q_iload_1, eX6_orderTurned_1, q_if_lt, eX6_orderTurned_4, q_iload_2, eX6_orderTurned_5, q_aload_0, eX6_orderTurned_6, q_alen, zqln_s, eX6_orderTurned_7, q_icmp_le, eX6_orderTurned_10, q_iconst, eX6_orderTurned_11, q_ireturn, zqi_i, zqi_z, eX6_orderTurned_12, eX6_orderTurned_13, q_istore_3n, q_istore_3i, q_istore_3a, eX6_orderTurned_14, eX6_orderTurned_15, eX6_orderTurned_16, q_isub, eX6_orderTurned_17, q_istore_4n, q_istore_4i, q_istore_4a, eX6_orderTurned_19, q_iload_3, eX6_orderTurned_20, q_iload_4, eX6_orderTurned_22, q_icmp_ge, eX6_orderTurned_25, eX6_orderTurned_26, eX6_orderTurned_27, q_iaload, zqal_s, eX6_orderTurned_28, eX6_orderTurned_29, eX6_orderTurned_31, eX6_orderTurned_32, q_icmp_eq, eX6_orderTurned_35, eX6_orderTurned_36, eX6_orderTurned_37, eX6_orderTurned_38, eX6_orderTurned_39, eX6_orderTurned_41, eX6_orderTurned_42, eX6_orderTurned_43, eX6_orderTurned_44, q_iinc_3n, q_iinc_3i, q_iinc_3a, eX6_orderTurned_47, q_iinc_4n, q_iinc_4i, q_iinc_4a, eX6_orderTurned_50, q_goto, eX6_orderTurned_53, eX6_orderTurned_54, hM, r1, r2]
      rw [if_neg (by omega)] at hQ
      exact ⟨fun _ => hQ, fun q => by omega⟩
    · rw [if_pos (by omega)] at hQ
      have e1 : u.toNat = l + k := by omega
      have e2 : v.toNat = h - k - 1 := by omega
      have b1 := hb (l + k) (by omega) (by omega)
      have b2 := hb (h - k - 1) (by omega) (by omega)
      have r3 : zRr (f (l + k)) := zrr (by omega) (by omega)
      have r4 : zRr (f (h - k - 1)) := zrr (by omega) (by omega)
      refine zgo [19] ?_
      simp only [↓zX_succ, ↓zstp_nil, ↓zstp_cons, ↓reduceIte, zpu_some, zpu_none, zcs, zg, zst, Nat.reduceAdd, Nat.reduceSub, Nat.reduceMul, Nat.reduceEqDiff, Nat.reduceLeDiff, Nat.reduceLT, Int.reduceToNat, Int.reduceAdd, Int.reduceSub, Int.reduceMul, Int.reduceNeg, Int.reduceLE, Int.reduceLT, Int.reduceEq, Int.cast_ofNat_Int, Int.reduceNatCast', true_and, and_true, and_self, Nat.le_refl, Nat.add_zero, Nat.zero_add, Nat.zero_le, Nat.not_lt_zero, or_true, true_or, or_false, false_or, not_true_eq_false, not_false_eq_true, forall_const, true_implies, false_implies, implies_true, zup_same, zup_zup, Int.toNat_natCast, Nat.reduceDiv, List.length_cons, List.length_nil, Nat.succ_ne_zero, ne_eq, reduceCtorEq, zRl_m6, zRl_m5, zRl_m4, zRl_m3, zRl_m2, zRl_m1, zRl_0, zRl_1, zRl_2, zRl_3, zRl_4, zRl_5, zRl_6, zRl_7, zRl_8, zRl_9, zRl_10, zRl_11, zRl_12, zRl_13, zRl_14, zRl_15, zRl_16, zRl_17, zRl_18, zRl_19, zRl_20, zRl_21, zRl_22, zRl_23, zRl_31, zRl_32, zRl_33, zRl_49, zRl_59, zRl_60, zRl_64, zRl_97, zRl_122, zRl_124, zRl_126, zRl_128, zRl_717809397, zRl_1067285329, zRl_2147483647, o_X6_orderTurned, r_X6_orderTurned, eX6_orderTurned_0, q_iload_1, eX6_orderTurned_1, q_if_lt, eX6_orderTurned_4, q_iload_2, eX6_orderTurned_5, q_aload_0, eX6_orderTurned_6, q_alen, zqln_s, eX6_orderTurned_7, q_icmp_le, eX6_orderTurned_10, q_iconst, eX6_orderTurned_11, q_ireturn, zqi_i, zqi_z, eX6_orderTurned_12, eX6_orderTurned_13, q_istore_3n, q_istore_3i, q_istore_3a, eX6_orderTurned_14, eX6_orderTurned_15, eX6_orderTurned_16, q_isub, eX6_orderTurned_17, q_istore_4n, q_istore_4i, q_istore_4a, eX6_orderTurned_19, q_iload_3, eX6_orderTurned_20, q_iload_4, eX6_orderTurned_22, q_icmp_ge, eX6_orderTurned_25, eX6_orderTurned_26, eX6_orderTurned_27, q_iaload, zqal_s, eX6_orderTurned_28, eX6_orderTurned_29, eX6_orderTurned_31, eX6_orderTurned_32, q_icmp_eq, eX6_orderTurned_35, eX6_orderTurned_36, eX6_orderTurned_37, eX6_orderTurned_38, eX6_orderTurned_39, eX6_orderTurned_41, eX6_orderTurned_42, eX6_orderTurned_43, eX6_orderTurned_44, q_iinc_3n, q_iinc_3i, q_iinc_3a, eX6_orderTurned_47, q_iinc_4n, q_iinc_4i, q_iinc_4a, eX6_orderTurned_50, q_goto, eX6_orderTurned_53, eX6_orderTurned_54, hM, r1, r2, e1, e2, r3, r4]
      refine ⟨fun q => by omega, fun _ => ⟨by omega, by omega, by omega, by omega, by omega, by omega, fun he => ?_, fun he => ?_⟩⟩
      · rw [if_pos he] at hQ
        exact ih (k + 1) _ _ Q (by omega) (by omega) (by omega) hl (by omega) (by rw [show h - (k + 1) = h - k - 1 by omega]; exact hQ)
      · rw [if_neg he] at hQ
        exact ⟨by omega, by omega, by omega, by omega, by omega, by omega, hQ⟩
/-- the order of a part and of itself turned round -/
def otp (f : Nat → Int) (l h : Nat) : Int := ot f (h - l) l h
theorem c_orderTurned {l h : Nat} (hM : M r = some (Sum.inr (0, N, Sum.inl (f)))) (hl : l ≤ h) (hN : h ≤ N) (hN2 : N < 1000000) (hb : zB f l h) (hQ : Q (some (Sum.inl (otp f l h))) M) : zCt lo d kX6_orderTurned 0 0 [(Sum.inr (Sum.inl (some (r)))), (Sum.inl ((l : Int))), (Sum.inl ((h : Int)))] M Q := by
  have r1 : zRr (l : Int) := zrr (by omega) (by omega)
  have r2 : zRr (h : Int) := zrr (by omega) (by omega)
  have r3 : zRr (N : Int) := zrr (by omega) (by omega)
  refine zct [some (Sum.inr (Sum.inl (some (r)))), some (Sum.inl ((l : Int))), some (Sum.inl ((h : Int))), none, none] rfl (Nat.le_of_ble_eq_true rfl) (by decide +kernel) rfl ?_
  refine zgo [19] ?_
  simp only [↓zX_succ, ↓zstp_nil, ↓zstp_cons, ↓reduceIte, zpu_some, zpu_none, zcs, zg, zst, Nat.reduceAdd, Nat.reduceSub, Nat.reduceMul, Nat.reduceEqDiff, Nat.reduceLeDiff, Nat.reduceLT, Int.reduceToNat, Int.reduceAdd, Int.reduceSub, Int.reduceMul, Int.reduceNeg, Int.reduceLE, Int.reduceLT, Int.reduceEq, Int.cast_ofNat_Int, Int.reduceNatCast', true_and, and_true, and_self, Nat.le_refl, Nat.add_zero, Nat.zero_add, Nat.zero_le, Nat.not_lt_zero, or_true, true_or, or_false, false_or, not_true_eq_false, not_false_eq_true, forall_const, true_implies, false_implies, implies_true, zup_same, zup_zup, Int.toNat_natCast, Nat.reduceDiv, List.length_cons, List.length_nil, Nat.succ_ne_zero, ne_eq, reduceCtorEq, zRl_m6, zRl_m5, zRl_m4, zRl_m3, zRl_m2, zRl_m1, zRl_0, zRl_1, zRl_2, zRl_3, zRl_4, zRl_5, zRl_6, zRl_7, zRl_8, zRl_9, zRl_10, zRl_11, zRl_12, zRl_13, zRl_14, zRl_15, zRl_16, zRl_17, zRl_18, zRl_19, zRl_20, zRl_21, zRl_22, zRl_23, zRl_31, zRl_32, zRl_33, zRl_49, zRl_59, zRl_60, zRl_64, zRl_97, zRl_122, zRl_124, zRl_126, zRl_128, zRl_717809397, zRl_1067285329, zRl_2147483647, o_X6_orderTurned, r_X6_orderTurned, eX6_orderTurned_0, q_iload_1, eX6_orderTurned_1, q_if_lt, eX6_orderTurned_4, q_iload_2, eX6_orderTurned_5, q_aload_0, eX6_orderTurned_6, q_alen, zqln_s, eX6_orderTurned_7, q_icmp_le, eX6_orderTurned_10, q_iconst, eX6_orderTurned_11, q_ireturn, zqi_i, zqi_z, eX6_orderTurned_12, eX6_orderTurned_13, q_istore_3n, q_istore_3i, q_istore_3a, eX6_orderTurned_14, eX6_orderTurned_15, eX6_orderTurned_16, q_isub, eX6_orderTurned_17, q_istore_4n, q_istore_4i, q_istore_4a, eX6_orderTurned_19, q_iload_3, eX6_orderTurned_20, q_iload_4, eX6_orderTurned_22, q_icmp_ge, eX6_orderTurned_25, eX6_orderTurned_26, eX6_orderTurned_27, q_iaload, zqal_s, eX6_orderTurned_28, eX6_orderTurned_29, eX6_orderTurned_31, eX6_orderTurned_32, q_icmp_eq, eX6_orderTurned_35, eX6_orderTurned_36, eX6_orderTurned_37, eX6_orderTurned_38, eX6_orderTurned_39, eX6_orderTurned_41, eX6_orderTurned_42, eX6_orderTurned_43, eX6_orderTurned_44, q_iinc_3n, q_iinc_3i, q_iinc_3a, eX6_orderTurned_47, q_iinc_4n, q_iinc_4i, q_iinc_4a, eX6_orderTurned_50, q_goto, eX6_orderTurned_53, eX6_orderTurned_54, hM, r1, r2, r3]
  refine ⟨fun q => by omega, fun _ => ⟨fun _ => ?_, fun q => by omega⟩⟩
  exact l_orderTurned hM hN hN2 hb (h - l) 0 _ _ Q (by omega) (by omega) (by omega) (by omega) (by omega) hQ
theorem ot_rr {f : Nat → Int} {l h : Nat} (hb : zB f l h) : ∀ (n lo e : Nat), l ≤ lo → e ≤ h → -25 ≤ ot f n lo e ∧ ot f n lo e ≤ 25
  | 0, _, _, _, _ => by simp [ot]
  | n + 1, lo, e, h1, h2 => by
    rw [ot]
    split
    · split
      · exact ot_rr hb n (lo + 1) (e - 1) (by omega) (by omega)
      · have b1 := hb lo (by omega) (by omega)
        have b2 := hb (e - 1) (by omega) (by omega)
        omega
    · omega
theorem otp_rr {f : Nat → Int} {l h : Nat} (hb : zB f l h) : zRr (otp f l h) := by
  have := ot_rr hb (h - l) l h (by omega) (by omega)
  exact zrr (by unfold otp; omega) (by unfold otp; omega)
end SC3
