-- THE LAW'S OWN METHODS: a scroll at e in a row of ints
def scR (S : Nat → Int) (e : Nat) (t : Sc) : Prop := S e = (t.1 : Int) ∧ (∀ k, k ≤ t.1 → S (e + 1 + k) = (t.2.1 k : Int)) ∧ ∀ j, j < t.2.1 t.1 → S (e + 8 + j) = t.2.2 j
theorem zm_norm {lo d mc ms : Nat} {k : zY} {Q : Option zV → zM → Prop} {u : Nat × Nat} {pc : Nat} {ls : List (Option zV)} {st : List zV} {M : zM} {z z' : Int} (h : Int32.ofInt z' = Int32.ofInt z) (K : zm lo d k mc ms Q u pc ls (.inl z' :: st) M) : zm lo d k mc ms Q u pc ls (.inl z :: st) M := by
  intro p l e s m args below meth c D cA hc H locs lsA hH hS hL
  have h2 := K p l e s m args below meth c D cA hc H locs lsA hH hS hL
  rw [List.map_cons, show tv (.inl z') = tv (.inl z) from congrArg Value.int h] at h2
  exact h2
section L1
variable {lo d e r q N : Nat} {S : Nat → Int} {t : Sc} {M : zM} {Q : Option zV → zM → Prop}
theorem c_cell {b L : Nat} {k : Nat} {f : Nat → Int} (hb : M b = some (Sum.inr (5, L, Sum.inl (f)))) (hf : ∀ j, zRr (f j)) (hL : L < 1000000) (hk : k < 1000000) (hQ : ∀ z, zRr z → Q (some (Sum.inl (z))) M) : zCt lo d kL_cell 0 0 [(Sum.inr (Sum.inl (some (b)))), (Sum.inl ((k : Int)))] M Q := by
  refine zct [some (Sum.inr (Sum.inl (some (b)))), some (Sum.inl ((k : Int)))] rfl (Nat.le_of_ble_eq_true rfl) (by decide +kernel) rfl ?_
  refine zr_iload_n (n := 1) eL_cell_0 rfl ?_
  refine zr_aload_n (n := 0) eL_cell_1 rfl ?_
  refine zr_alen5 eL_cell_2 hb ?_
  refine zr_icmp eL_cell_3 (by decide) (zrr (by omega) (by omega)) (zrr (by omega) (by omega)) (fun _ => ?_) (fun g => ?_)
  · refine zgo [21] ?_
    simp only [↓zX_succ, ↓zstp_nil, ↓zstp_cons, ↓reduceIte, zpu_some, zpu_none, zcs, zg, zst, Nat.reduceAdd, Nat.reduceSub, Nat.reduceMul, Nat.reduceEqDiff, Nat.reduceLeDiff, Nat.reduceLT, Int.reduceToNat, Int.reduceAdd, Int.reduceSub, Int.reduceMul, Int.reduceNeg, Int.reduceLE, Int.reduceLT, Int.reduceEq, Int.cast_ofNat_Int, Int.reduceNatCast', true_and, and_true, and_self, Nat.le_refl, Nat.add_zero, Nat.zero_add, Nat.zero_le, Nat.not_lt_zero, or_true, true_or, or_false, false_or, not_true_eq_false, not_false_eq_true, forall_const, true_implies, false_implies, implies_true, zup_same, zup_zup, Int.toNat_natCast, Nat.reduceDiv, List.length_cons, List.length_nil, Nat.succ_ne_zero, ne_eq, reduceCtorEq, zRl_m6, zRl_m5, zRl_m4, zRl_m3, zRl_m2, zRl_m1, zRl_0, zRl_1, zRl_2, zRl_3, zRl_4, zRl_5, zRl_6, zRl_7, zRl_8, zRl_9, zRl_10, zRl_11, zRl_12, zRl_13, zRl_14, zRl_15, zRl_16, zRl_17, zRl_18, zRl_19, zRl_20, zRl_21, zRl_22, zRl_23, zRl_31, zRl_32, zRl_33, zRl_49, zRl_59, zRl_60, zRl_64, zRl_97, zRl_122, zRl_124, zRl_126, zRl_128, zRl_717809397, zRl_1067285329, zRl_2147483647, o_L_cell, r_L_cell, eL_cell_0, q_iload_1, eL_cell_1, q_aload_0, eL_cell_2, q_alen, zqln_s, eL_cell_3, q_icmp_ge, eL_cell_6, eL_cell_7, eL_cell_8, q_iaload, zqal_s, eL_cell_9, q_goto, eL_cell_12, q_ldc, zqt_s, zT_8_7, eL_cell_14, eL_cell_15, q_iconst, eL_cell_16, q_iadd, eL_cell_17, q_imul, eL_cell_18, zT_8_8, eL_cell_20, eL_cell_21, q_ireturn, zqi_i, zqi_z]
    refine zm_norm (z' := (Int32.ofInt (1067285329 * ((k : Int) + 1) + 717809397)).toInt) (Int32.ofInt_toInt _) ?_
    refine zgo [] ?_
    simp only [↓zX_succ, ↓zstp_nil, ↓zstp_cons, ↓reduceIte, zpu_some, zpu_none, zcs, zg, zst, Nat.reduceAdd, Nat.reduceSub, Nat.reduceMul, Nat.reduceEqDiff, Nat.reduceLeDiff, Nat.reduceLT, Int.reduceToNat, Int.reduceAdd, Int.reduceSub, Int.reduceMul, Int.reduceNeg, Int.reduceLE, Int.reduceLT, Int.reduceEq, Int.cast_ofNat_Int, Int.reduceNatCast', true_and, and_true, and_self, Nat.le_refl, Nat.add_zero, Nat.zero_add, Nat.zero_le, Nat.not_lt_zero, or_true, true_or, or_false, false_or, not_true_eq_false, not_false_eq_true, forall_const, true_implies, false_implies, implies_true, zup_same, zup_zup, Int.toNat_natCast, Nat.reduceDiv, List.length_cons, List.length_nil, Nat.succ_ne_zero, ne_eq, reduceCtorEq, zRl_m6, zRl_m5, zRl_m4, zRl_m3, zRl_m2, zRl_m1, zRl_0, zRl_1, zRl_2, zRl_3, zRl_4, zRl_5, zRl_6, zRl_7, zRl_8, zRl_9, zRl_10, zRl_11, zRl_12, zRl_13, zRl_14, zRl_15, zRl_16, zRl_17, zRl_18, zRl_19, zRl_20, zRl_21, zRl_22, zRl_23, zRl_31, zRl_32, zRl_33, zRl_49, zRl_59, zRl_60, zRl_64, zRl_97, zRl_122, zRl_124, zRl_126, zRl_128, zRl_717809397, zRl_1067285329, zRl_2147483647, o_L_cell, r_L_cell, eL_cell_0, q_iload_1, eL_cell_1, q_aload_0, eL_cell_2, q_alen, zqln_s, eL_cell_3, q_icmp_ge, eL_cell_6, eL_cell_7, eL_cell_8, q_iaload, zqal_s, eL_cell_9, q_goto, eL_cell_12, q_ldc, zqt_s, zT_8_7, eL_cell_14, eL_cell_15, q_iconst, eL_cell_16, q_iadd, eL_cell_17, q_imul, eL_cell_18, zT_8_8, eL_cell_20, eL_cell_21, q_ireturn, zqi_i, zqi_z]
    exact hQ _ ⟨Int32.le_toInt _, Int32.toInt_lt _⟩
  · have g : ¬ (L : Int) ≤ (k : Int) := g
    refine zr_aload_n (n := 0) eL_cell_6 rfl ?_
    refine zr_iload_n (n := 1) eL_cell_7 rfl ?_
    refine zr_iald5 eL_cell_8 hb (by omega) (by omega) (by omega) ?_
    refine zgo [] ?_
    simp only [↓zX_succ, ↓zstp_nil, ↓zstp_cons, ↓reduceIte, zpu_some, zpu_none, zcs, zg, zst, Nat.reduceAdd, Nat.reduceSub, Nat.reduceMul, Nat.reduceEqDiff, Nat.reduceLeDiff, Nat.reduceLT, Int.reduceToNat, Int.reduceAdd, Int.reduceSub, Int.reduceMul, Int.reduceNeg, Int.reduceLE, Int.reduceLT, Int.reduceEq, Int.cast_ofNat_Int, Int.reduceNatCast', true_and, and_true, and_self, Nat.le_refl, Nat.add_zero, Nat.zero_add, Nat.zero_le, Nat.not_lt_zero, or_true, true_or, or_false, false_or, not_true_eq_false, not_false_eq_true, forall_const, true_implies, false_implies, implies_true, zup_same, zup_zup, Int.toNat_natCast, Nat.reduceDiv, List.length_cons, List.length_nil, Nat.succ_ne_zero, ne_eq, reduceCtorEq, zRl_m6, zRl_m5, zRl_m4, zRl_m3, zRl_m2, zRl_m1, zRl_0, zRl_1, zRl_2, zRl_3, zRl_4, zRl_5, zRl_6, zRl_7, zRl_8, zRl_9, zRl_10, zRl_11, zRl_12, zRl_13, zRl_14, zRl_15, zRl_16, zRl_17, zRl_18, zRl_19, zRl_20, zRl_21, zRl_22, zRl_23, zRl_31, zRl_32, zRl_33, zRl_49, zRl_59, zRl_60, zRl_64, zRl_97, zRl_122, zRl_124, zRl_126, zRl_128, zRl_717809397, zRl_1067285329, zRl_2147483647, o_L_cell, r_L_cell, eL_cell_0, q_iload_1, eL_cell_1, q_aload_0, eL_cell_2, q_alen, zqln_s, eL_cell_3, q_icmp_ge, eL_cell_6, eL_cell_7, eL_cell_8, q_iaload, zqal_s, eL_cell_9, q_goto, eL_cell_12, q_ldc, zqt_s, zT_8_7, eL_cell_14, eL_cell_15, q_iconst, eL_cell_16, q_iadd, eL_cell_17, q_imul, eL_cell_18, zT_8_8, eL_cell_20, eL_cell_21, q_ireturn, zqi_i, zqi_z]
    exact hQ _ (hf _)
theorem c_low {v n : Int} (h0 : 0 < n) (h1 : n < 2147483648) (hQ : Q (some (Sum.inl (lw v n))) M) : zCt lo d kL_low 0 0 [(Sum.inl (v)), (Sum.inl (n))] M Q := by
  refine zct [some (Sum.inl (v)), some (Sum.inl (n))] rfl (Nat.le_of_ble_eq_true rfl) (by decide +kernel) rfl ?_
  refine zgo [] ?_
  simp only [↓zX_succ, ↓zstp_nil, ↓zstp_cons, ↓reduceIte, zpu_some, zpu_none, zcs, zg, zst, Nat.reduceAdd, Nat.reduceSub, Nat.reduceMul, Nat.reduceEqDiff, Nat.reduceLeDiff, Nat.reduceLT, Int.reduceToNat, Int.reduceAdd, Int.reduceSub, Int.reduceMul, Int.reduceNeg, Int.reduceLE, Int.reduceLT, Int.reduceEq, Int.cast_ofNat_Int, Int.reduceNatCast', true_and, and_true, and_self, Nat.le_refl, Nat.add_zero, Nat.zero_add, Nat.zero_le, Nat.not_lt_zero, or_true, true_or, or_false, false_or, not_true_eq_false, not_false_eq_true, forall_const, true_implies, false_implies, implies_true, zup_same, zup_zup, Int.toNat_natCast, Nat.reduceDiv, List.length_cons, List.length_nil, Nat.succ_ne_zero, ne_eq, reduceCtorEq, zRl_m6, zRl_m5, zRl_m4, zRl_m3, zRl_m2, zRl_m1, zRl_0, zRl_1, zRl_2, zRl_3, zRl_4, zRl_5, zRl_6, zRl_7, zRl_8, zRl_9, zRl_10, zRl_11, zRl_12, zRl_13, zRl_14, zRl_15, zRl_16, zRl_17, zRl_18, zRl_19, zRl_20, zRl_21, zRl_22, zRl_23, zRl_31, zRl_32, zRl_33, zRl_49, zRl_59, zRl_60, zRl_64, zRl_97, zRl_122, zRl_124, zRl_126, zRl_128, zRl_717809397, zRl_1067285329, zRl_2147483647, o_L_low, r_L_low, eL_low_0, q_iload_0, eL_low_1, q_ldc, zqt_s, zT_8_9, eL_low_3, q_iand, eL_low_4, q_iload_1, eL_low_5, q_irem, eL_low_6, q_ireturn, zqi_i, zqi_z]
  exact ⟨h0, h1, hQ⟩
theorem c_size {p : Nat} (hM : M r = some (Sum.inr (0, N, Sum.inl (S)))) (hN : e + 2 + p < N) (hN2 : N < 1000000) (hQ : Q (some (Sum.inl (S (e + 2 + p) - S (e + 1 + p)))) M) : zCt lo d kL_size 0 0 [(Sum.inl ((e : Int))), (Sum.inl ((p : Int))), (Sum.inr (Sum.inl (some (r))))] M Q := by
  have i1 : ((e : Int) + 2 + (p : Int)).toNat = e + 2 + p := by omega
  have i2 : ((e : Int) + 1 + (p : Int)).toNat = e + 1 + p := by omega
  refine zct [some (Sum.inl ((e : Int))), some (Sum.inl ((p : Int))), some (Sum.inr (Sum.inl (some (r))))] rfl (Nat.le_of_ble_eq_true rfl) (by decide +kernel) rfl ?_
  refine zgo [] ?_
  simp only [↓zX_succ, ↓zstp_nil, ↓zstp_cons, ↓reduceIte, zpu_some, zpu_none, zcs, zg, zst, Nat.reduceAdd, Nat.reduceSub, Nat.reduceMul, Nat.reduceEqDiff, Nat.reduceLeDiff, Nat.reduceLT, Int.reduceToNat, Int.reduceAdd, Int.reduceSub, Int.reduceMul, Int.reduceNeg, Int.reduceLE, Int.reduceLT, Int.reduceEq, Int.cast_ofNat_Int, Int.reduceNatCast', true_and, and_true, and_self, Nat.le_refl, Nat.add_zero, Nat.zero_add, Nat.zero_le, Nat.not_lt_zero, or_true, true_or, or_false, false_or, not_true_eq_false, not_false_eq_true, forall_const, true_implies, false_implies, implies_true, zup_same, zup_zup, Int.toNat_natCast, Nat.reduceDiv, List.length_cons, List.length_nil, Nat.succ_ne_zero, ne_eq, reduceCtorEq, zRl_m6, zRl_m5, zRl_m4, zRl_m3, zRl_m2, zRl_m1, zRl_0, zRl_1, zRl_2, zRl_3, zRl_4, zRl_5, zRl_6, zRl_7, zRl_8, zRl_9, zRl_10, zRl_11, zRl_12, zRl_13, zRl_14, zRl_15, zRl_16, zRl_17, zRl_18, zRl_19, zRl_20, zRl_21, zRl_22, zRl_23, zRl_31, zRl_32, zRl_33, zRl_49, zRl_59, zRl_60, zRl_64, zRl_97, zRl_122, zRl_124, zRl_126, zRl_128, zRl_717809397, zRl_1067285329, zRl_2147483647, o_L_size, r_L_size, eL_size_0, q_aload_2, eL_size_1, q_iload_0, eL_size_2, q_iconst, eL_size_3, q_iadd, eL_size_4, q_iload_1, eL_size_5, eL_size_6, q_iaload, zqal_s, eL_size_7, eL_size_8, eL_size_9, eL_size_10, eL_size_11, eL_size_12, eL_size_13, eL_size_14, q_isub, eL_size_15, q_ireturn, zqi_i, zqi_z, hM, i1, i2]
  exact ⟨by omega, by omega, by omega, by omega, by omega, by omega, hQ⟩
theorem c_lengthL (hM : M r = some (Sum.inr (0, N, Sum.inl (S)))) (hs : scR S e t) (ht : t.1 ≤ 6) (hN : e + 20 ≤ N) (hN2 : N < 1000000) (hQ : Q (some (Sum.inl ((t.2.1 t.1 : Int)))) M) : zCt lo d kL_length 0 0 [(Sum.inl ((e : Int))), (Sum.inr (Sum.inl (some (r))))] M Q := by
  have i1 : ((e : Int)).toNat = e := by omega
  have i2 : ((e : Int) + 1 + (t.1 : Int)).toNat = e + 1 + t.1 := by omega
  have h1 := hs.1
  have h2 := hs.2.1 t.1 (Nat.le_refl _)
  refine zct [some (Sum.inl ((e : Int))), some (Sum.inr (Sum.inl (some (r))))] rfl (Nat.le_of_ble_eq_true rfl) (by decide +kernel) rfl ?_
  refine zgo [] ?_
  simp only [↓zX_succ, ↓zstp_nil, ↓zstp_cons, ↓reduceIte, zpu_some, zpu_none, zcs, zg, zst, Nat.reduceAdd, Nat.reduceSub, Nat.reduceMul, Nat.reduceEqDiff, Nat.reduceLeDiff, Nat.reduceLT, Int.reduceToNat, Int.reduceAdd, Int.reduceSub, Int.reduceMul, Int.reduceNeg, Int.reduceLE, Int.reduceLT, Int.reduceEq, Int.cast_ofNat_Int, Int.reduceNatCast', true_and, and_true, and_self, Nat.le_refl, Nat.add_zero, Nat.zero_add, Nat.zero_le, Nat.not_lt_zero, or_true, true_or, or_false, false_or, not_true_eq_false, not_false_eq_true, forall_const, true_implies, false_implies, implies_true, zup_same, zup_zup, Int.toNat_natCast, Nat.reduceDiv, List.length_cons, List.length_nil, Nat.succ_ne_zero, ne_eq, reduceCtorEq, zRl_m6, zRl_m5, zRl_m4, zRl_m3, zRl_m2, zRl_m1, zRl_0, zRl_1, zRl_2, zRl_3, zRl_4, zRl_5, zRl_6, zRl_7, zRl_8, zRl_9, zRl_10, zRl_11, zRl_12, zRl_13, zRl_14, zRl_15, zRl_16, zRl_17, zRl_18, zRl_19, zRl_20, zRl_21, zRl_22, zRl_23, zRl_31, zRl_32, zRl_33, zRl_49, zRl_59, zRl_60, zRl_64, zRl_97, zRl_122, zRl_124, zRl_126, zRl_128, zRl_717809397, zRl_1067285329, zRl_2147483647, o_L_length, r_L_length, eL_length_0, q_aload_1, eL_length_1, q_iload_0, eL_length_2, q_iconst, eL_length_3, q_iadd, eL_length_4, eL_length_5, eL_length_6, q_iaload, zqal_s, eL_length_7, eL_length_8, eL_length_9, q_ireturn, zqi_i, zqi_z, hM, i1, h1, i2, h2]
  exact ⟨by omega, by omega, by omega, by omega, by omega, by omega, hQ⟩
/-- a patch's letters, the way that they are told -/
def pw_ (t : Sc) (p : Nat) (w : Bool) : Nat → Int := fun j => t.2.2 (if w = true then t.2.1 (p + 1) - 1 - j else t.2.1 p + j)
theorem pw_pat {p : Nat} {w : Bool} (h : t.2.1 p ≤ t.2.1 (p + 1)) : tkl (pw_ t p w) (t.2.1 (p + 1) - t.2.1 p) = if w = true then (pat t p).reverse else pat t p := by
  cases w
  · rw [if_neg (by decide)]
    exact tkl_eq.mpr (fun j _ => by simp only [pw_]; rw [if_neg (by decide)])
  · rw [if_pos rfl, pat, slc_rev]
    exact tkl_eq.mpr (fun j hj => by
      simp only [pw_]
      rw [if_pos trivial]
      exact congrArg t.2.2 (by omega))
theorem l_with {p : Nat} {w : Bool} {v : Int} {x0 : Int64} (hM : M r = some (Sum.inr (0, N, Sum.inl (S)))) (hs : scR S e t) (hw : wS t.1 t.2.1 t.2.2) (hp : p < t.1) (h60 : t.2.1 t.1 ≤ 12) (hN : e + 20 ≤ N) (hN2 : N < 1000000) (hQ : Q (some (Sum.inr (Sum.inr (Int64.ofInt (ext v (tkl (pw_ t p w) (t.2.1 (p + 1) - t.2.1 p))))))) M) : ∀ (m k : Nat) (y : Int), y = (k : Int) → k + m = t.2.1 (p + 1) - t.2.1 p →
    zm lo (d + 1) kL_with 0 0 Q (0, 0) 15 [some (Sum.inr (Sum.inr (x0))), none, some (Sum.inl ((e : Int))), some (Sum.inl ((p : Int))), some (Sum.inl (zb w)), some (Sum.inr (Sum.inl (some (r)))), some (Sum.inr (Sum.inr (Int64.ofInt (ext v (tkl (pw_ t p w) k))))), none, some (Sum.inl ((t.2.1 (p + 1) : Int) - (t.2.1 p : Int))), some (Sum.inl (y))] [] M := by
  have b1 := hw.2.2.2.1 p hp
  have b2 := hw.le (show p + 1 ≤ t.1 by omega) (Nat.le_refl _)
  have hp6 := hw.2.1
  intro m
  induction m with
  | zero =>
    intro k y hy hk
    subst hy
    have r1 : zRr (k : Int) := zrr (by omega) (by omega)
    have r2 : zRr ((t.2.1 (p + 1) : Int) - (t.2.1 p : Int)) := zrr (by omega) (by omega)
    refine zgo [15] ?_
    simp only [↓zX_succ, ↓zstp_nil, ↓zstp_cons, ↓reduceIte, zpu_some, zpu_none, zcs, zg, zst, Nat.reduceAdd, Nat.reduceSub, Nat.reduceMul, Nat.reduceEqDiff, Nat.reduceLeDiff, Nat.reduceLT, Int.reduceToNat, Int.reduceAdd, Int.reduceSub, Int.reduceMul, Int.reduceNeg, Int.reduceLE, Int.reduceLT, Int.reduceEq, Int.cast_ofNat_Int, Int.reduceNatCast', true_and, and_true, and_self, Nat.le_refl, Nat.add_zero, Nat.zero_add, Nat.zero_le, Nat.not_lt_zero, or_true, true_or, or_false, false_or, not_true_eq_false, not_false_eq_true, forall_const, true_implies, false_implies, implies_true, zup_same, zup_zup, Int.toNat_natCast, Nat.reduceDiv, List.length_cons, List.length_nil, Nat.succ_ne_zero, ne_eq, reduceCtorEq, zRl_m6, zRl_m5, zRl_m4, zRl_m3, zRl_m2, zRl_m1, zRl_0, zRl_1, zRl_2, zRl_3, zRl_4, zRl_5, zRl_6, zRl_7, zRl_8, zRl_9, zRl_10, zRl_11, zRl_12, zRl_13, zRl_14, zRl_15, zRl_16, zRl_17, zRl_18, zRl_19, zRl_20, zRl_21, zRl_22, zRl_23, zRl_31, zRl_32, zRl_33, zRl_49, zRl_59, zRl_60, zRl_64, zRl_97, zRl_122, zRl_124, zRl_126, zRl_128, zRl_717809397, zRl_1067285329, zRl_2147483647, o_L_with, r_L_with, eL_with_0, q_lload_0, eL_with_1, q_lstore_6n, q_lstore_6i, q_lstore_6a, eL_with_3, q_iload_2, eL_with_4, q_iload_3, eL_with_5, q_aload_5, eL_with_7, q_invs, zqst_s, zqst_c, zqcp_s, zqc_s, zC_8_10, o_L_size, zqcs_3, eL_with_10, q_istore_8n, q_istore_8i, q_istore_8a, eL_with_12, q_iconst, eL_with_13, q_istore_9n, q_istore_9i, q_istore_9a, eL_with_15, q_iload_9, eL_with_17, q_iload_8, eL_with_19, q_icmp_ge, eL_with_22, q_ldc2, zql_s, zL_8_16, eL_with_25, q_lload_6, eL_with_27, q_lmul, eL_with_28, eL_with_30, eL_with_31, q_bipush, eL_with_33, q_iadd, eL_with_34, eL_with_36, eL_with_37, eL_with_38, eL_with_39, eL_with_40, eL_with_41, q_iaload, zqal_s, eL_with_42, eL_with_43, q_iload_4, eL_with_45, q_if_eq, eL_with_48, eL_with_50, eL_with_51, q_isub, eL_with_52, eL_with_54, eL_with_55, q_goto, eL_with_58, eL_with_60, eL_with_61, eL_with_62, q_i2l, eL_with_63, q_ladd, eL_with_64, eL_with_66, q_iinc_9n, q_iinc_9i, q_iinc_9a, eL_with_69, eL_with_72, eL_with_74, q_lreturn, zqj_s, r1, r2]
    refine ⟨fun _ => ?_, fun g => by omega⟩
    rw [show k = t.2.1 (p + 1) - t.2.1 p by omega]
    exact hQ
  | succ m ih =>
    intro k y hy hk
    subst hy
    have r1 : zRr (k : Int) := zrr (by omega) (by omega)
    have r2 : zRr ((t.2.1 (p + 1) : Int) - (t.2.1 p : Int)) := zrr (by omega) (by omega)
    have i1 : ((e : Int) + 1 + (p : Int)).toNat = e + 1 + p := by omega
    have h2 := hs.2.1 p (by omega)
    cases w with
    | false =>
      have i2 : ((e : Int) + 8 + (t.2.1 p : Int) + (k : Int)).toNat = e + 8 + (t.2.1 p + k) := by omega
      have h3 := hs.2.2 (t.2.1 p + k) (by omega)
      have hb := hw.bl (k := t.1) (j := t.2.1 p + k) (Nat.le_refl _) (by omega)
      have e1 : 32 * Int64.ofInt (ext v (tkl (pw_ t p false) k)) + (Int32.ofInt (t.2.2 (t.2.1 p + k))).toInt64 = Int64.ofInt (ext v (tkl (pw_ t p false) (k + 1))) := by
        rw [jL (zrr (by omega) (by omega)), tkl_succ, ext_snoc]
        rfl
      refine zgo [15] ?_
      simp only [↓zX_succ, ↓zstp_nil, ↓zstp_cons, ↓reduceIte, zpu_some, zpu_none, zcs, zg, zst, Nat.reduceAdd, Nat.reduceSub, Nat.reduceMul, Nat.reduceEqDiff, Nat.reduceLeDiff, Nat.reduceLT, Int.reduceToNat, Int.reduceAdd, Int.reduceSub, Int.reduceMul, Int.reduceNeg, Int.reduceLE, Int.reduceLT, Int.reduceEq, Int.cast_ofNat_Int, Int.reduceNatCast', true_and, and_true, and_self, Nat.le_refl, Nat.add_zero, Nat.zero_add, Nat.zero_le, Nat.not_lt_zero, or_true, true_or, or_false, false_or, not_true_eq_false, not_false_eq_true, forall_const, true_implies, false_implies, implies_true, zup_same, zup_zup, Int.toNat_natCast, Nat.reduceDiv, List.length_cons, List.length_nil, Nat.succ_ne_zero, ne_eq, reduceCtorEq, zRl_m6, zRl_m5, zRl_m4, zRl_m3, zRl_m2, zRl_m1, zRl_0, zRl_1, zRl_2, zRl_3, zRl_4, zRl_5, zRl_6, zRl_7, zRl_8, zRl_9, zRl_10, zRl_11, zRl_12, zRl_13, zRl_14, zRl_15, zRl_16, zRl_17, zRl_18, zRl_19, zRl_20, zRl_21, zRl_22, zRl_23, zRl_31, zRl_32, zRl_33, zRl_49, zRl_59, zRl_60, zRl_64, zRl_97, zRl_122, zRl_124, zRl_126, zRl_128, zRl_717809397, zRl_1067285329, zRl_2147483647, o_L_with, r_L_with, eL_with_0, q_lload_0, eL_with_1, q_lstore_6n, q_lstore_6i, q_lstore_6a, eL_with_3, q_iload_2, eL_with_4, q_iload_3, eL_with_5, q_aload_5, eL_with_7, q_invs, zqst_s, zqst_c, zqcp_s, zqc_s, zC_8_10, o_L_size, zqcs_3, eL_with_10, q_istore_8n, q_istore_8i, q_istore_8a, eL_with_12, q_iconst, eL_with_13, q_istore_9n, q_istore_9i, q_istore_9a, eL_with_15, q_iload_9, eL_with_17, q_iload_8, eL_with_19, q_icmp_ge, eL_with_22, q_ldc2, zql_s, zL_8_16, eL_with_25, q_lload_6, eL_with_27, q_lmul, eL_with_28, eL_with_30, eL_with_31, q_bipush, eL_with_33, q_iadd, eL_with_34, eL_with_36, eL_with_37, eL_with_38, eL_with_39, eL_with_40, eL_with_41, q_iaload, zqal_s, eL_with_42, eL_with_43, q_iload_4, eL_with_45, q_if_eq, eL_with_48, eL_with_50, eL_with_51, q_isub, eL_with_52, eL_with_54, eL_with_55, q_goto, eL_with_58, eL_with_60, eL_with_61, eL_with_62, q_i2l, eL_with_63, q_ladd, eL_with_64, eL_with_66, q_iinc_9n, q_iinc_9i, q_iinc_9a, eL_with_69, eL_with_72, eL_with_74, q_lreturn, zqj_s, r1, r2, hM, zb_f, i1, h2, i2, h3, e1]
      refine ⟨fun g => by omega, fun _ => ⟨by omega, by omega, by omega, by omega, by omega, by omega, ?_⟩⟩
      exact ih (k + 1) _ (by omega) (by omega)
    | true =>
      have i2 : ((e : Int) + 8 + (t.2.1 p : Int) + ((t.2.1 (p + 1) : Int) - (t.2.1 p : Int) - 1 - (k : Int))).toNat = e + 8 + (t.2.1 (p + 1) - 1 - k) := by omega
      have h3 := hs.2.2 (t.2.1 (p + 1) - 1 - k) (by omega)
      have hb := hw.bl (k := t.1) (j := t.2.1 (p + 1) - 1 - k) (Nat.le_refl _) (by omega)
      have e1 : 32 * Int64.ofInt (ext v (tkl (pw_ t p true) k)) + (Int32.ofInt (t.2.2 (t.2.1 (p + 1) - 1 - k))).toInt64 = Int64.ofInt (ext v (tkl (pw_ t p true) (k + 1))) := by
        rw [jL (zrr (by omega) (by omega)), tkl_succ, ext_snoc]
        rfl
      refine zgo [15] ?_
      simp only [↓zX_succ, ↓zstp_nil, ↓zstp_cons, ↓reduceIte, zpu_some, zpu_none, zcs, zg, zst, Nat.reduceAdd, Nat.reduceSub, Nat.reduceMul, Nat.reduceEqDiff, Nat.reduceLeDiff, Nat.reduceLT, Int.reduceToNat, Int.reduceAdd, Int.reduceSub, Int.reduceMul, Int.reduceNeg, Int.reduceLE, Int.reduceLT, Int.reduceEq, Int.cast_ofNat_Int, Int.reduceNatCast', true_and, and_true, and_self, Nat.le_refl, Nat.add_zero, Nat.zero_add, Nat.zero_le, Nat.not_lt_zero, or_true, true_or, or_false, false_or, not_true_eq_false, not_false_eq_true, forall_const, true_implies, false_implies, implies_true, zup_same, zup_zup, Int.toNat_natCast, Nat.reduceDiv, List.length_cons, List.length_nil, Nat.succ_ne_zero, ne_eq, reduceCtorEq, zRl_m6, zRl_m5, zRl_m4, zRl_m3, zRl_m2, zRl_m1, zRl_0, zRl_1, zRl_2, zRl_3, zRl_4, zRl_5, zRl_6, zRl_7, zRl_8, zRl_9, zRl_10, zRl_11, zRl_12, zRl_13, zRl_14, zRl_15, zRl_16, zRl_17, zRl_18, zRl_19, zRl_20, zRl_21, zRl_22, zRl_23, zRl_31, zRl_32, zRl_33, zRl_49, zRl_59, zRl_60, zRl_64, zRl_97, zRl_122, zRl_124, zRl_126, zRl_128, zRl_717809397, zRl_1067285329, zRl_2147483647, o_L_with, r_L_with, eL_with_0, q_lload_0, eL_with_1, q_lstore_6n, q_lstore_6i, q_lstore_6a, eL_with_3, q_iload_2, eL_with_4, q_iload_3, eL_with_5, q_aload_5, eL_with_7, q_invs, zqst_s, zqst_c, zqcp_s, zqc_s, zC_8_10, o_L_size, zqcs_3, eL_with_10, q_istore_8n, q_istore_8i, q_istore_8a, eL_with_12, q_iconst, eL_with_13, q_istore_9n, q_istore_9i, q_istore_9a, eL_with_15, q_iload_9, eL_with_17, q_iload_8, eL_with_19, q_icmp_ge, eL_with_22, q_ldc2, zql_s, zL_8_16, eL_with_25, q_lload_6, eL_with_27, q_lmul, eL_with_28, eL_with_30, eL_with_31, q_bipush, eL_with_33, q_iadd, eL_with_34, eL_with_36, eL_with_37, eL_with_38, eL_with_39, eL_with_40, eL_with_41, q_iaload, zqal_s, eL_with_42, eL_with_43, q_iload_4, eL_with_45, q_if_eq, eL_with_48, eL_with_50, eL_with_51, q_isub, eL_with_52, eL_with_54, eL_with_55, q_goto, eL_with_58, eL_with_60, eL_with_61, eL_with_62, q_i2l, eL_with_63, q_ladd, eL_with_64, eL_with_66, q_iinc_9n, q_iinc_9i, q_iinc_9a, eL_with_69, eL_with_72, eL_with_74, q_lreturn, zqj_s, r1, r2, hM, zb_t, i1, h2, i2, h3, e1]
      refine ⟨fun g => by omega, fun _ => ⟨by omega, by omega, by omega, by omega, by omega, by omega, ?_⟩⟩
      exact ih (k + 1) _ (by omega) (by omega)
theorem c_with {p : Nat} {w : Bool} {v : Int} (hM : M r = some (Sum.inr (0, N, Sum.inl (S)))) (hs : scR S e t) (hw : wS t.1 t.2.1 t.2.2) (hp : p < t.1) (h60 : t.2.1 t.1 ≤ 12) (hN : e + 20 ≤ N) (hN2 : N < 1000000) (hQ : Q (some (Sum.inr (Sum.inr (Int64.ofInt (ext v (if w = true then (pat t p).reverse else pat t p)))))) M) : zCt lo (d + 1) kL_with 0 0 [(Sum.inr (Sum.inr (Int64.ofInt v))), (Sum.inl ((e : Int))), (Sum.inl ((p : Int))), (Sum.inl (zb w)), (Sum.inr (Sum.inl (some (r))))] M Q := by
  have b1 := hw.2.2.2.1 p hp
  have hp6 := hw.2.1
  rw [← pw_pat (by omega)] at hQ
  have h1 := hs.2.1 p (by omega)
  have h2 := hs.2.1 (p + 1) (by omega)
  refine zct [some (Sum.inr (Sum.inr (Int64.ofInt v))), none, some (Sum.inl ((e : Int))), some (Sum.inl ((p : Int))), some (Sum.inl (zb w)), some (Sum.inr (Sum.inl (some (r)))), none, none, none, none] rfl (Nat.le_of_ble_eq_true rfl) (by decide +kernel) rfl ?_
  refine zgo [15] ?_
  simp only [↓zX_succ, ↓zstp_nil, ↓zstp_cons, ↓reduceIte, zpu_some, zpu_none, zcs, zg, zst, Nat.reduceAdd, Nat.reduceSub, Nat.reduceMul, Nat.reduceEqDiff, Nat.reduceLeDiff, Nat.reduceLT, Int.reduceToNat, Int.reduceAdd, Int.reduceSub, Int.reduceMul, Int.reduceNeg, Int.reduceLE, Int.reduceLT, Int.reduceEq, Int.cast_ofNat_Int, Int.reduceNatCast', true_and, and_true, and_self, Nat.le_refl, Nat.add_zero, Nat.zero_add, Nat.zero_le, Nat.not_lt_zero, or_true, true_or, or_false, false_or, not_true_eq_false, not_false_eq_true, forall_const, true_implies, false_implies, implies_true, zup_same, zup_zup, Int.toNat_natCast, Nat.reduceDiv, List.length_cons, List.length_nil, Nat.succ_ne_zero, ne_eq, reduceCtorEq, zRl_m6, zRl_m5, zRl_m4, zRl_m3, zRl_m2, zRl_m1, zRl_0, zRl_1, zRl_2, zRl_3, zRl_4, zRl_5, zRl_6, zRl_7, zRl_8, zRl_9, zRl_10, zRl_11, zRl_12, zRl_13, zRl_14, zRl_15, zRl_16, zRl_17, zRl_18, zRl_19, zRl_20, zRl_21, zRl_22, zRl_23, zRl_31, zRl_32, zRl_33, zRl_49, zRl_59, zRl_60, zRl_64, zRl_97, zRl_122, zRl_124, zRl_126, zRl_128, zRl_717809397, zRl_1067285329, zRl_2147483647, o_L_with, r_L_with, eL_with_0, q_lload_0, eL_with_1, q_lstore_6n, q_lstore_6i, q_lstore_6a, eL_with_3, q_iload_2, eL_with_4, q_iload_3, eL_with_5, q_aload_5, eL_with_7, q_invs, zqst_s, zqst_c, zqcp_s, zqc_s, zC_8_10, o_L_size, zqcs_3, eL_with_10, q_istore_8n, q_istore_8i, q_istore_8a, eL_with_12, q_iconst, eL_with_13, q_istore_9n, q_istore_9i, q_istore_9a, eL_with_15, q_iload_9, eL_with_17, q_iload_8, eL_with_19, q_icmp_ge, eL_with_22, q_ldc2, zql_s, zL_8_16, eL_with_25, q_lload_6, eL_with_27, q_lmul, eL_with_28, eL_with_30, eL_with_31, q_bipush, eL_with_33, q_iadd, eL_with_34, eL_with_36, eL_with_37, eL_with_38, eL_with_39, eL_with_40, eL_with_41, q_iaload, zqal_s, eL_with_42, eL_with_43, q_iload_4, eL_with_45, q_if_eq, eL_with_48, eL_with_50, eL_with_51, q_isub, eL_with_52, eL_with_54, eL_with_55, q_goto, eL_with_58, eL_with_60, eL_with_61, eL_with_62, q_i2l, eL_with_63, q_ladd, eL_with_64, eL_with_66, q_iinc_9n, q_iinc_9i, q_iinc_9a, eL_with_69, eL_with_72, eL_with_74, q_lreturn, zqj_s, hM]
  refine c_size hM (by omega) hN2 ?_
  rw [h1, show e + 2 + p = e + 1 + (p + 1) by omega, h2]
  refine zgo [15] ?_
  simp only [↓zX_succ, ↓zstp_nil, ↓zstp_cons, ↓reduceIte, zpu_some, zpu_none, zcs, zg, zst, Nat.reduceAdd, Nat.reduceSub, Nat.reduceMul, Nat.reduceEqDiff, Nat.reduceLeDiff, Nat.reduceLT, Int.reduceToNat, Int.reduceAdd, Int.reduceSub, Int.reduceMul, Int.reduceNeg, Int.reduceLE, Int.reduceLT, Int.reduceEq, Int.cast_ofNat_Int, Int.reduceNatCast', true_and, and_true, and_self, Nat.le_refl, Nat.add_zero, Nat.zero_add, Nat.zero_le, Nat.not_lt_zero, or_true, true_or, or_false, false_or, not_true_eq_false, not_false_eq_true, forall_const, true_implies, false_implies, implies_true, zup_same, zup_zup, Int.toNat_natCast, Nat.reduceDiv, List.length_cons, List.length_nil, Nat.succ_ne_zero, ne_eq, reduceCtorEq, zRl_m6, zRl_m5, zRl_m4, zRl_m3, zRl_m2, zRl_m1, zRl_0, zRl_1, zRl_2, zRl_3, zRl_4, zRl_5, zRl_6, zRl_7, zRl_8, zRl_9, zRl_10, zRl_11, zRl_12, zRl_13, zRl_14, zRl_15, zRl_16, zRl_17, zRl_18, zRl_19, zRl_20, zRl_21, zRl_22, zRl_23, zRl_31, zRl_32, zRl_33, zRl_49, zRl_59, zRl_60, zRl_64, zRl_97, zRl_122, zRl_124, zRl_126, zRl_128, zRl_717809397, zRl_1067285329, zRl_2147483647, o_L_with, r_L_with, eL_with_0, q_lload_0, eL_with_1, q_lstore_6n, q_lstore_6i, q_lstore_6a, eL_with_3, q_iload_2, eL_with_4, q_iload_3, eL_with_5, q_aload_5, eL_with_7, q_invs, zqst_s, zqst_c, zqcp_s, zqc_s, zC_8_10, o_L_size, zqcs_3, eL_with_10, q_istore_8n, q_istore_8i, q_istore_8a, eL_with_12, q_iconst, eL_with_13, q_istore_9n, q_istore_9i, q_istore_9a, eL_with_15, q_iload_9, eL_with_17, q_iload_8, eL_with_19, q_icmp_ge, eL_with_22, q_ldc2, zql_s, zL_8_16, eL_with_25, q_lload_6, eL_with_27, q_lmul, eL_with_28, eL_with_30, eL_with_31, q_bipush, eL_with_33, q_iadd, eL_with_34, eL_with_36, eL_with_37, eL_with_38, eL_with_39, eL_with_40, eL_with_41, q_iaload, zqal_s, eL_with_42, eL_with_43, q_iload_4, eL_with_45, q_if_eq, eL_with_48, eL_with_50, eL_with_51, q_isub, eL_with_52, eL_with_54, eL_with_55, q_goto, eL_with_58, eL_with_60, eL_with_61, eL_with_62, q_i2l, eL_with_63, q_ladd, eL_with_64, eL_with_66, q_iinc_9n, q_iinc_9i, q_iinc_9a, eL_with_69, eL_with_72, eL_with_74, q_lreturn, zqj_s]
  exact l_with hM hs hw hp h60 hN hN2 hQ (t.2.1 (p + 1) - t.2.1 p) 0 _ rfl (by omega)
-- copies
theorem l_copy {f n N' : Nat} {T : Nat → Int} (hrq : r ≠ q) (hr : M r = some (Sum.inr (0, N, Sum.inl (S)))) (hf : f + 20 ≤ N) (hn : n + 20 ≤ N') (hN : N < 1000000) (hN' : N' < 1000000) (hQ : ∀ M', M' q = some (Sum.inr (0, N', Sum.inl (zcp S T f n 20))) → zfr M M' q (q + 1) → Q none M') : ∀ (m k : Nat) (y : Int) (M' : zM), y = (k : Int) → k + m = 20 → M' q = some (Sum.inr (0, N', Sum.inl (zcp S T f n k))) → zfr M M' q (q + 1) →
    zm lo d kL_copy 0 0 Q (0, 0) 3 [some (Sum.inl ((f : Int))), some (Sum.inr (Sum.inl (some (r)))), some (Sum.inl ((n : Int))), some (Sum.inr (Sum.inl (some (q)))), some (Sum.inl (y))] [] M' := by
  intro m
  induction m with
  | zero =>
    intro k y M' hy hk hq hF
    subst hy
    have r1 : zRr (k : Int) := zrr (by omega) (by omega)
    have e1 : k = 20 := by omega
    subst e1
    refine zgo [3] ?_
    simp only [↓zX_succ, ↓zstp_nil, ↓zstp_cons, ↓reduceIte, zpu_some, zpu_none, zcs, zg, zst, Nat.reduceAdd, Nat.reduceSub, Nat.reduceMul, Nat.reduceEqDiff, Nat.reduceLeDiff, Nat.reduceLT, Int.reduceToNat, Int.reduceAdd, Int.reduceSub, Int.reduceMul, Int.reduceNeg, Int.reduceLE, Int.reduceLT, Int.reduceEq, Int.cast_ofNat_Int, Int.reduceNatCast', true_and, and_true, and_self, Nat.le_refl, Nat.add_zero, Nat.zero_add, Nat.zero_le, Nat.not_lt_zero, or_true, true_or, or_false, false_or, not_true_eq_false, not_false_eq_true, forall_const, true_implies, false_implies, implies_true, zup_same, zup_zup, Int.toNat_natCast, Nat.reduceDiv, List.length_cons, List.length_nil, Nat.succ_ne_zero, ne_eq, reduceCtorEq, zRl_m6, zRl_m5, zRl_m4, zRl_m3, zRl_m2, zRl_m1, zRl_0, zRl_1, zRl_2, zRl_3, zRl_4, zRl_5, zRl_6, zRl_7, zRl_8, zRl_9, zRl_10, zRl_11, zRl_12, zRl_13, zRl_14, zRl_15, zRl_16, zRl_17, zRl_18, zRl_19, zRl_20, zRl_21, zRl_22, zRl_23, zRl_31, zRl_32, zRl_33, zRl_49, zRl_59, zRl_60, zRl_64, zRl_97, zRl_122, zRl_124, zRl_126, zRl_128, zRl_717809397, zRl_1067285329, zRl_2147483647, o_L_copy, r_L_copy, eL_copy_0, q_iconst, eL_copy_1, q_istore_4n, q_istore_4i, q_istore_4a, eL_copy_3, q_iload_4, eL_copy_5, q_bipush, eL_copy_7, q_icmp_ge, eL_copy_10, q_aload_3, eL_copy_11, q_iload_2, eL_copy_12, eL_copy_14, q_iadd, eL_copy_15, q_aload_1, eL_copy_16, q_iload_0, eL_copy_17, eL_copy_19, eL_copy_20, q_iaload, zqal_s, eL_copy_21, q_iastore, zqas_s, eL_copy_22, q_iinc_4n, q_iinc_4i, q_iinc_4a, eL_copy_25, q_goto, eL_copy_28, q_return, zqe_s, r1]
    exact hQ M' hq hF
  | succ m ih =>
    intro k y M' hy hk hq hF
    subst hy
    have r1 : zRr (k : Int) := zrr (by omega) (by omega)
    have hr' := (hF r (by omega)).trans hr
    have i1 : ((f : Int) + (k : Int)).toNat = f + k := by omega
    have i2 : ((n : Int) + (k : Int)).toNat = n + k := by omega
    refine zgo [3] ?_
    simp only [↓zX_succ, ↓zstp_nil, ↓zstp_cons, ↓reduceIte, zpu_some, zpu_none, zcs, zg, zst, Nat.reduceAdd, Nat.reduceSub, Nat.reduceMul, Nat.reduceEqDiff, Nat.reduceLeDiff, Nat.reduceLT, Int.reduceToNat, Int.reduceAdd, Int.reduceSub, Int.reduceMul, Int.reduceNeg, Int.reduceLE, Int.reduceLT, Int.reduceEq, Int.cast_ofNat_Int, Int.reduceNatCast', true_and, and_true, and_self, Nat.le_refl, Nat.add_zero, Nat.zero_add, Nat.zero_le, Nat.not_lt_zero, or_true, true_or, or_false, false_or, not_true_eq_false, not_false_eq_true, forall_const, true_implies, false_implies, implies_true, zup_same, zup_zup, Int.toNat_natCast, Nat.reduceDiv, List.length_cons, List.length_nil, Nat.succ_ne_zero, ne_eq, reduceCtorEq, zRl_m6, zRl_m5, zRl_m4, zRl_m3, zRl_m2, zRl_m1, zRl_0, zRl_1, zRl_2, zRl_3, zRl_4, zRl_5, zRl_6, zRl_7, zRl_8, zRl_9, zRl_10, zRl_11, zRl_12, zRl_13, zRl_14, zRl_15, zRl_16, zRl_17, zRl_18, zRl_19, zRl_20, zRl_21, zRl_22, zRl_23, zRl_31, zRl_32, zRl_33, zRl_49, zRl_59, zRl_60, zRl_64, zRl_97, zRl_122, zRl_124, zRl_126, zRl_128, zRl_717809397, zRl_1067285329, zRl_2147483647, o_L_copy, r_L_copy, eL_copy_0, q_iconst, eL_copy_1, q_istore_4n, q_istore_4i, q_istore_4a, eL_copy_3, q_iload_4, eL_copy_5, q_bipush, eL_copy_7, q_icmp_ge, eL_copy_10, q_aload_3, eL_copy_11, q_iload_2, eL_copy_12, eL_copy_14, q_iadd, eL_copy_15, q_aload_1, eL_copy_16, q_iload_0, eL_copy_17, eL_copy_19, eL_copy_20, q_iaload, zqal_s, eL_copy_21, q_iastore, zqas_s, eL_copy_22, q_iinc_4n, q_iinc_4i, q_iinc_4a, eL_copy_25, q_goto, eL_copy_28, q_return, zqe_s, r1, hr', hq, i1, i2]
    refine ⟨fun g => by omega, fun _ => ⟨by omega, by omega, by omega, by omega, by omega, by omega, ?_⟩⟩
    refine ih (k + 1) _ _ (by omega) (by omega) ?_ (hF.up (by omega) (by omega))
    rw [zup_same]
    congr 5
    funext j
    simp only [zcp, zu]
    by_cases c : j = n + k
    · subst c
      rw [if_pos rfl, if_pos (by omega)]
      congr 1
      omega
    · rw [if_neg c]
      by_cases c2 : n ≤ j ∧ j < n + k
      · rw [if_pos c2, if_pos (by omega)]
      · rw [if_neg c2, if_neg (by omega)]
theorem c_copy {f n N' : Nat} {T : Nat → Int} (hrq : r ≠ q) (hr : M r = some (Sum.inr (0, N, Sum.inl (S)))) (hq : M q = some (Sum.inr (0, N', Sum.inl (T)))) (hf : f + 20 ≤ N) (hn : n + 20 ≤ N') (hN : N < 1000000) (hN' : N' < 1000000) (hQ : ∀ M', M' q = some (Sum.inr (0, N', Sum.inl (zcp S T f n 20))) → zfr M M' q (q + 1) → Q none M') : zCt lo d kL_copy 0 0 [(Sum.inl ((f : Int))), (Sum.inr (Sum.inl (some (r)))), (Sum.inl ((n : Int))), (Sum.inr (Sum.inl (some (q))))] M Q := by
  refine zct [some (Sum.inl ((f : Int))), some (Sum.inr (Sum.inl (some (r)))), some (Sum.inl ((n : Int))), some (Sum.inr (Sum.inl (some (q)))), none] rfl (Nat.le_of_ble_eq_true rfl) (by decide +kernel) rfl ?_
  refine zgo [3] ?_
  simp only [↓zX_succ, ↓zstp_nil, ↓zstp_cons, ↓reduceIte, zpu_some, zpu_none, zcs, zg, zst, Nat.reduceAdd, Nat.reduceSub, Nat.reduceMul, Nat.reduceEqDiff, Nat.reduceLeDiff, Nat.reduceLT, Int.reduceToNat, Int.reduceAdd, Int.reduceSub, Int.reduceMul, Int.reduceNeg, Int.reduceLE, Int.reduceLT, Int.reduceEq, Int.cast_ofNat_Int, Int.reduceNatCast', true_and, and_true, and_self, Nat.le_refl, Nat.add_zero, Nat.zero_add, Nat.zero_le, Nat.not_lt_zero, or_true, true_or, or_false, false_or, not_true_eq_false, not_false_eq_true, forall_const, true_implies, false_implies, implies_true, zup_same, zup_zup, Int.toNat_natCast, Nat.reduceDiv, List.length_cons, List.length_nil, Nat.succ_ne_zero, ne_eq, reduceCtorEq, zRl_m6, zRl_m5, zRl_m4, zRl_m3, zRl_m2, zRl_m1, zRl_0, zRl_1, zRl_2, zRl_3, zRl_4, zRl_5, zRl_6, zRl_7, zRl_8, zRl_9, zRl_10, zRl_11, zRl_12, zRl_13, zRl_14, zRl_15, zRl_16, zRl_17, zRl_18, zRl_19, zRl_20, zRl_21, zRl_22, zRl_23, zRl_31, zRl_32, zRl_33, zRl_49, zRl_59, zRl_60, zRl_64, zRl_97, zRl_122, zRl_124, zRl_126, zRl_128, zRl_717809397, zRl_1067285329, zRl_2147483647, o_L_copy, r_L_copy, eL_copy_0, q_iconst, eL_copy_1, q_istore_4n, q_istore_4i, q_istore_4a, eL_copy_3, q_iload_4, eL_copy_5, q_bipush, eL_copy_7, q_icmp_ge, eL_copy_10, q_aload_3, eL_copy_11, q_iload_2, eL_copy_12, eL_copy_14, q_iadd, eL_copy_15, q_aload_1, eL_copy_16, q_iload_0, eL_copy_17, eL_copy_19, eL_copy_20, q_iaload, zqal_s, eL_copy_21, q_iastore, zqas_s, eL_copy_22, q_iinc_4n, q_iinc_4i, q_iinc_4a, eL_copy_25, q_goto, eL_copy_28, q_return, zqe_s]
  refine l_copy hrq hr hf hn hN hN' hQ 20 0 _ M rfl (by omega) ?_ zfr_rf
  rw [hq]
  congr 5
  funext j
  simp only [zcp]
  rw [if_neg (by omega)]
theorem l_copyS {f n : Nat} (hfn : n + 20 ≤ f) (hf : f + 20 ≤ N) (hN : N < 1000000) (hQ : ∀ M', M' r = some (Sum.inr (0, N, Sum.inl (zcp S S f n 20))) → zfr M M' r (r + 1) → Q none M') : ∀ (m k : Nat) (y : Int) (M' : zM), y = (k : Int) → k + m = 20 → M' r = some (Sum.inr (0, N, Sum.inl (zcp S S f n k))) → zfr M M' r (r + 1) →
    zm lo d kL_copy 0 0 Q (0, 0) 3 [some (Sum.inl ((f : Int))), some (Sum.inr (Sum.inl (some (r)))), some (Sum.inl ((n : Int))), some (Sum.inr (Sum.inl (some (r)))), some (Sum.inl (y))] [] M' := by
  intro m
  induction m with
  | zero =>
    intro k y M' hy hk hq hF
    subst hy
    have r1 : zRr (k : Int) := zrr (by omega) (by omega)
    have e1 : k = 20 := by omega
    subst e1
    refine zgo [3] ?_
    simp only [↓zX_succ, ↓zstp_nil, ↓zstp_cons, ↓reduceIte, zpu_some, zpu_none, zcs, zg, zst, Nat.reduceAdd, Nat.reduceSub, Nat.reduceMul, Nat.reduceEqDiff, Nat.reduceLeDiff, Nat.reduceLT, Int.reduceToNat, Int.reduceAdd, Int.reduceSub, Int.reduceMul, Int.reduceNeg, Int.reduceLE, Int.reduceLT, Int.reduceEq, Int.cast_ofNat_Int, Int.reduceNatCast', true_and, and_true, and_self, Nat.le_refl, Nat.add_zero, Nat.zero_add, Nat.zero_le, Nat.not_lt_zero, or_true, true_or, or_false, false_or, not_true_eq_false, not_false_eq_true, forall_const, true_implies, false_implies, implies_true, zup_same, zup_zup, Int.toNat_natCast, Nat.reduceDiv, List.length_cons, List.length_nil, Nat.succ_ne_zero, ne_eq, reduceCtorEq, zRl_m6, zRl_m5, zRl_m4, zRl_m3, zRl_m2, zRl_m1, zRl_0, zRl_1, zRl_2, zRl_3, zRl_4, zRl_5, zRl_6, zRl_7, zRl_8, zRl_9, zRl_10, zRl_11, zRl_12, zRl_13, zRl_14, zRl_15, zRl_16, zRl_17, zRl_18, zRl_19, zRl_20, zRl_21, zRl_22, zRl_23, zRl_31, zRl_32, zRl_33, zRl_49, zRl_59, zRl_60, zRl_64, zRl_97, zRl_122, zRl_124, zRl_126, zRl_128, zRl_717809397, zRl_1067285329, zRl_2147483647, o_L_copy, r_L_copy, eL_copy_0, q_iconst, eL_copy_1, q_istore_4n, q_istore_4i, q_istore_4a, eL_copy_3, q_iload_4, eL_copy_5, q_bipush, eL_copy_7, q_icmp_ge, eL_copy_10, q_aload_3, eL_copy_11, q_iload_2, eL_copy_12, eL_copy_14, q_iadd, eL_copy_15, q_aload_1, eL_copy_16, q_iload_0, eL_copy_17, eL_copy_19, eL_copy_20, q_iaload, zqal_s, eL_copy_21, q_iastore, zqas_s, eL_copy_22, q_iinc_4n, q_iinc_4i, q_iinc_4a, eL_copy_25, q_goto, eL_copy_28, q_return, zqe_s, r1]
    exact hQ M' hq hF
  | succ m ih =>
    intro k y M' hy hk hq hF
    subst hy
    have r1 : zRr (k : Int) := zrr (by omega) (by omega)
    have i1 : ((f : Int) + (k : Int)).toNat = f + k := by omega
    have i2 : ((n : Int) + (k : Int)).toNat = n + k := by omega
    refine zgo [3] ?_
    simp only [↓zX_succ, ↓zstp_nil, ↓zstp_cons, ↓reduceIte, zpu_some, zpu_none, zcs, zg, zst, Nat.reduceAdd, Nat.reduceSub, Nat.reduceMul, Nat.reduceEqDiff, Nat.reduceLeDiff, Nat.reduceLT, Int.reduceToNat, Int.reduceAdd, Int.reduceSub, Int.reduceMul, Int.reduceNeg, Int.reduceLE, Int.reduceLT, Int.reduceEq, Int.cast_ofNat_Int, Int.reduceNatCast', true_and, and_true, and_self, Nat.le_refl, Nat.add_zero, Nat.zero_add, Nat.zero_le, Nat.not_lt_zero, or_true, true_or, or_false, false_or, not_true_eq_false, not_false_eq_true, forall_const, true_implies, false_implies, implies_true, zup_same, zup_zup, Int.toNat_natCast, Nat.reduceDiv, List.length_cons, List.length_nil, Nat.succ_ne_zero, ne_eq, reduceCtorEq, zRl_m6, zRl_m5, zRl_m4, zRl_m3, zRl_m2, zRl_m1, zRl_0, zRl_1, zRl_2, zRl_3, zRl_4, zRl_5, zRl_6, zRl_7, zRl_8, zRl_9, zRl_10, zRl_11, zRl_12, zRl_13, zRl_14, zRl_15, zRl_16, zRl_17, zRl_18, zRl_19, zRl_20, zRl_21, zRl_22, zRl_23, zRl_31, zRl_32, zRl_33, zRl_49, zRl_59, zRl_60, zRl_64, zRl_97, zRl_122, zRl_124, zRl_126, zRl_128, zRl_717809397, zRl_1067285329, zRl_2147483647, o_L_copy, r_L_copy, eL_copy_0, q_iconst, eL_copy_1, q_istore_4n, q_istore_4i, q_istore_4a, eL_copy_3, q_iload_4, eL_copy_5, q_bipush, eL_copy_7, q_icmp_ge, eL_copy_10, q_aload_3, eL_copy_11, q_iload_2, eL_copy_12, eL_copy_14, q_iadd, eL_copy_15, q_aload_1, eL_copy_16, q_iload_0, eL_copy_17, eL_copy_19, eL_copy_20, q_iaload, zqal_s, eL_copy_21, q_iastore, zqas_s, eL_copy_22, q_iinc_4n, q_iinc_4i, q_iinc_4a, eL_copy_25, q_goto, eL_copy_28, q_return, zqe_s, r1, hq, i1, i2]
    refine ⟨fun g => by omega, fun _ => ⟨by omega, by omega, by omega, by omega, by omega, by omega, ?_⟩⟩
    refine ih (k + 1) _ _ (by omega) (by omega) ?_ (hF.up (by omega) (by omega))
    rw [zup_same]
    congr 5
    funext j
    simp only [zcp, zu]
    rw [if_neg (show ¬ (n ≤ f + k ∧ f + k < n + k) by omega)]
    by_cases c : j = n + k
    · subst c
      rw [if_pos rfl, if_pos (by omega)]
      congr 1
      omega
    · rw [if_neg c]
      by_cases c2 : n ≤ j ∧ j < n + k
      · rw [if_pos c2, if_pos (by omega)]
      · rw [if_neg c2, if_neg (by omega)]
theorem c_copyS {f n : Nat} (hr : M r = some (Sum.inr (0, N, Sum.inl (S)))) (hfn : n + 20 ≤ f) (hf : f + 20 ≤ N) (hN : N < 1000000) (hQ : ∀ M', M' r = some (Sum.inr (0, N, Sum.inl (zcp S S f n 20))) → zfr M M' r (r + 1) → Q none M') : zCt lo d kL_copy 0 0 [(Sum.inl ((f : Int))), (Sum.inr (Sum.inl (some (r)))), (Sum.inl ((n : Int))), (Sum.inr (Sum.inl (some (r))))] M Q := by
  refine zct [some (Sum.inl ((f : Int))), some (Sum.inr (Sum.inl (some (r)))), some (Sum.inl ((n : Int))), some (Sum.inr (Sum.inl (some (r)))), none] rfl (Nat.le_of_ble_eq_true rfl) (by decide +kernel) rfl ?_
  refine zgo [3] ?_
  simp only [↓zX_succ, ↓zstp_nil, ↓zstp_cons, ↓reduceIte, zpu_some, zpu_none, zcs, zg, zst, Nat.reduceAdd, Nat.reduceSub, Nat.reduceMul, Nat.reduceEqDiff, Nat.reduceLeDiff, Nat.reduceLT, Int.reduceToNat, Int.reduceAdd, Int.reduceSub, Int.reduceMul, Int.reduceNeg, Int.reduceLE, Int.reduceLT, Int.reduceEq, Int.cast_ofNat_Int, Int.reduceNatCast', true_and, and_true, and_self, Nat.le_refl, Nat.add_zero, Nat.zero_add, Nat.zero_le, Nat.not_lt_zero, or_true, true_or, or_false, false_or, not_true_eq_false, not_false_eq_true, forall_const, true_implies, false_implies, implies_true, zup_same, zup_zup, Int.toNat_natCast, Nat.reduceDiv, List.length_cons, List.length_nil, Nat.succ_ne_zero, ne_eq, reduceCtorEq, zRl_m6, zRl_m5, zRl_m4, zRl_m3, zRl_m2, zRl_m1, zRl_0, zRl_1, zRl_2, zRl_3, zRl_4, zRl_5, zRl_6, zRl_7, zRl_8, zRl_9, zRl_10, zRl_11, zRl_12, zRl_13, zRl_14, zRl_15, zRl_16, zRl_17, zRl_18, zRl_19, zRl_20, zRl_21, zRl_22, zRl_23, zRl_31, zRl_32, zRl_33, zRl_49, zRl_59, zRl_60, zRl_64, zRl_97, zRl_122, zRl_124, zRl_126, zRl_128, zRl_717809397, zRl_1067285329, zRl_2147483647, o_L_copy, r_L_copy, eL_copy_0, q_iconst, eL_copy_1, q_istore_4n, q_istore_4i, q_istore_4a, eL_copy_3, q_iload_4, eL_copy_5, q_bipush, eL_copy_7, q_icmp_ge, eL_copy_10, q_aload_3, eL_copy_11, q_iload_2, eL_copy_12, eL_copy_14, q_iadd, eL_copy_15, q_aload_1, eL_copy_16, q_iload_0, eL_copy_17, eL_copy_19, eL_copy_20, q_iaload, zqal_s, eL_copy_21, q_iastore, zqas_s, eL_copy_22, q_iinc_4n, q_iinc_4i, q_iinc_4a, eL_copy_25, q_goto, eL_copy_28, q_return, zqe_s]
  refine l_copyS hfn hf hN hQ 20 0 _ M rfl (by omega) ?_ zfr_rf
  rw [hr]
  congr 5
  funext j
  simp only [zcp]
  rw [if_neg (by omega)]
theorem scR_copy {f n : Nat} {T : Nat → Int} (hs : scR S f t) (ht : t.1 ≤ 6) (h12 : t.2.1 t.1 ≤ 12) : scR (zcp S T f n 20) n t := by
  refine ⟨?_, fun k hk => ?_, fun j hj => ?_⟩
  · simp only [zcp]
    rw [if_pos (by omega), Nat.sub_self]
    exact hs.1
  · simp only [zcp]
    rw [if_pos (by omega), show f + (n + 1 + k - n) = f + 1 + k by omega]
    exact hs.2.1 k hk
  · simp only [zcp]
    rw [if_pos (by omega), show f + (n + 8 + j - n) = f + 8 + j by omega]
    exact hs.2.2 j hj
theorem scR_cg {S' : Nat → Int} (hs : scR S e t) (ht : t.1 ≤ 6) (h12 : t.2.1 t.1 ≤ 12) (h : ∀ j, e ≤ j → j < e + 20 → S' j = S j) : scR S' e t := by
  refine ⟨?_, fun k hk => ?_, fun j hj => ?_⟩
  · rw [h _ (by omega) (by omega)]; exact hs.1
  · rw [h _ (by omega) (by omega)]; exact hs.2.1 k hk
  · rw [h _ (by omega) (by omega)]; exact hs.2.2 j hj
end L1
