abbrev Sh : Type := Nat × (Nat → Sc)
/-- a history at H: its row at H + 1, its six shelves behind, in some order -/
def hiG (M : zM) (H m : Nat) (st : Nat → Sh) : Prop := m ≤ 6 ∧ M H = some (Sum.inl (1, [(Sum.inr (Sum.inl (some (H + 1)))), (Sum.inl ((m : Int)))])) ∧ ∃ (g : Nat → Option Nat) (π : Nat → Nat), M (H + 1) = some (Sum.inr (3, 6, Sum.inr (g))) ∧ (∀ i, i < 6 → g i = some (H + 2 + 17 * π i) ∧ π i < 6) ∧ (∀ i j, i < 6 → j < 6 → π i = π j → i = j) ∧ (∀ k, k < 6 → shAny M (H + 2 + 17 * k)) ∧ ∀ i, i < m → shG M (H + 2 + 17 * π i) (st i).1 (st i).2
theorem hiG.keep {M M' : zM} {H m l r : Nat} {st : Nat → Sh} (hs : hiG M H m st) (hf : zfr M M' l r) (hd : H + 104 ≤ l ∨ r ≤ H) : hiG M' H m st := by
  obtain ⟨hn, h1, g, π, h2, h3, h4, h5, h6⟩ := hs
  refine ⟨hn, (hf _ (by omega)).trans h1, g, π, (hf _ (by omega)).trans h2, h3, h4, fun k hk => (h5 k hk).keep hf (by omega), fun i hi => (h6 i hi).keep hf ?_⟩
  have := (h3 i (by omega)).2
  omega
theorem hiG.cg {M : zM} {H m : Nat} {st st' : Nat → Sh} (hs : hiG M H m st) (e : ∀ i, i < m → st i = st' i) : hiG M H m st' := by
  obtain ⟨hn, h1, g, π, h2, h3, h4, h5, h6⟩ := hs
  exact ⟨hn, h1, g, π, h2, h3, h4, h5, fun i hi => by rw [← e i hi]; exact h6 i hi⟩
def hrN (m : Nat) : Nat := if m < 6 then m + 1 else 6
def hrS (m : Nat) (st : Nat → Sh) (x : Sh) : Nat → Sh := if m < 6 then zu st m x else zu (fun i => st (i + 1)) 5 x
section HI
variable {lo d h n H m : Nat} {s : Nat → Sc} {st : Nat → Sh} {M : zM} {Q : Option zV → zM → Prop}
theorem c_dropOldest (hs : hiG M H m st) (hm : m = 6) (hQ : ∀ M', hiG M' H 5 (fun i => st (i + 1)) → zfr M M' H (H + 104) → Q none M') : zCt lo d kX1_dropOldest 0 0 [(Sum.inr (Sum.inl (some (H))))] M Q := by
  subst hm
  obtain ⟨hn, h1, g, π, h2, h3, h4, h5, h6⟩ := id hs
  have g0 := (h3 0 (by omega)).1
  have key : ∀ (t i : Nat) (M' : zM) (g' : Nat → Option Nat), i + 1 + t = 6 → M' H = some (Sum.inl (1, [(Sum.inr (Sum.inl (some (H + 1)))), (Sum.inl (6))])) → M' (H + 1) = some (Sum.inr (3, 6, Sum.inr (g'))) → (∀ q, q ≠ H + 1 → M' q = M q) → (∀ j, j < 6 → g' j = if j < i then g (j + 1) else g j) → zm lo d kX1_dropOldest 0 0 Q (0, 0) 9 [some (Sum.inr (Sum.inl (some (H)))), some (Sum.inr (Sum.inl (some (H + 2 + 17 * π 0)))), some (Sum.inl ((i : Int)))] [] M' := by
    intro t
    induction t with
    | zero =>
      intro i M' g' hi m1 m2 m3 m4
      have r1 : zRr ((i : Int) + 1) := zrr (by omega) (by omega)
      obtain ⟨nn, ss, s1⟩ := h5 (π 0) (h3 0 (by omega)).2
      have s2 : M' (H + 2 + 17 * π 0) = _ := (m3 _ (by omega)).trans s1.2.1
      have n1 : ∀ c, zup M' (H + 1) c H = M' H := fun c => zup_ne (by omega)
      refine zgo [9] ?_
      simp only [↓zX_succ, ↓zstp_nil, ↓zstp_cons, ↓reduceIte, zpu_some, zpu_none, zcs, zg, zst, Nat.reduceAdd, Nat.reduceSub, Nat.reduceMul, Nat.reduceEqDiff, Nat.reduceLeDiff, Nat.reduceLT, Int.reduceToNat, Int.reduceAdd, Int.reduceSub, Int.reduceMul, Int.reduceNeg, Int.reduceLE, Int.reduceLT, Int.reduceEq, Int.cast_ofNat_Int, Int.reduceNatCast', true_and, and_true, and_self, Nat.le_refl, Nat.add_zero, Nat.zero_add, Nat.zero_le, Nat.not_lt_zero, or_true, true_or, or_false, false_or, not_true_eq_false, not_false_eq_true, forall_const, true_implies, false_implies, implies_true, zup_same, zup_zup, Int.toNat_natCast, Nat.reduceDiv, List.length_cons, List.length_nil, Nat.succ_ne_zero, ne_eq, reduceCtorEq, zRl_m6, zRl_m5, zRl_m4, zRl_m3, zRl_m2, zRl_m1, zRl_0, zRl_1, zRl_2, zRl_3, zRl_4, zRl_5, zRl_6, zRl_7, zRl_8, zRl_9, zRl_10, zRl_11, zRl_12, zRl_13, zRl_14, zRl_15, zRl_16, zRl_17, zRl_18, zRl_19, zRl_20, zRl_21, zRl_22, zRl_23, zRl_31, zRl_32, zRl_33, zRl_49, zRl_59, zRl_60, zRl_64, zRl_97, zRl_122, zRl_124, zRl_126, zRl_128, zRl_717809397, zRl_1067285329, zRl_2147483647, o_X1_dropOldest, r_X1_dropOldest, eX1_dropOldest_0, q_aload_0, eX1_dropOldest_1, q_getfield, zqg_s, zqv_s, zF_1_11, eX1_dropOldest_4, q_iconst, eX1_dropOldest_5, q_aaload, zqql_s, eX1_dropOldest_6, q_astore_1n, q_astore_1i, q_astore_1a, eX1_dropOldest_7, eX1_dropOldest_8, q_istore_2n, q_istore_2i, q_istore_2a, eX1_dropOldest_9, q_iload_2, eX1_dropOldest_10, eX1_dropOldest_11, q_iadd, eX1_dropOldest_12, q_bipush, eX1_dropOldest_14, q_icmp_ge, eX1_dropOldest_17, eX1_dropOldest_18, eX1_dropOldest_21, eX1_dropOldest_22, eX1_dropOldest_23, eX1_dropOldest_26, eX1_dropOldest_27, eX1_dropOldest_28, eX1_dropOldest_29, eX1_dropOldest_30, q_aastore, zqqs_s, eX1_dropOldest_31, q_iinc_2n, q_iinc_2i, q_iinc_2a, eX1_dropOldest_34, q_goto, eX1_dropOldest_37, eX1_dropOldest_38, eX1_dropOldest_41, eX1_dropOldest_42, q_aload_1, eX1_dropOldest_43, eX1_dropOldest_44, eX1_dropOldest_45, eX1_dropOldest_46, q_putfield, q_putfieldR, zqp_s, zqr_s, zqw_s, zF_1_18, eX1_dropOldest_49, q_return, zqe_s, m1, m2, r1, s2, n1]
      refine ⟨fun _ => ?_, fun q => by omega⟩
      refine hQ _ ⟨by omega, zup_same, _, fun j => if j < 5 then π (j + 1) else π 0, by rw [zup_ne (by omega)]; exact zup_same, fun j hj => ?_, fun j1 j2 hj1 hj2 he => ?_, fun j hj => ?_, fun j hj => ?_⟩ (fun q hq => ?_)
      · dsimp only
        by_cases c : j = 5
        · subst c
          rw [zu_same, if_neg (by omega)]
          exact ⟨rfl, (h3 0 (by omega)).2⟩
        · rw [zu_ne c, m4 j hj, if_pos (by omega), if_pos (by omega)]
          exact h3 _ (by omega)
      · dsimp only at he
        by_cases c1 : j1 < 5
        · by_cases c2 : j2 < 5
          · rw [if_pos c1, if_pos c2] at he
            have := h4 _ _ (by omega) (by omega) he
            omega
          · rw [if_pos c1, if_neg c2] at he
            have := h4 _ _ (by omega) (by omega) he
            omega
        · by_cases c2 : j2 < 5
          · rw [if_neg c1, if_pos c2] at he
            have := h4 _ _ (by omega) (by omega) he
            omega
          · omega
      · refine (h5 j hj).keep (l := H) (r := H + 2) (fun q hq => ?_) (by omega)
        rw [zup_ne (by omega), zup_ne (by omega), m3 _ (by omega)]
      · dsimp only
        rw [if_pos hj]
        refine (h6 (j + 1) (by omega)).keep (l := H) (r := H + 2) (fun q hq => ?_) (by omega)
        rw [zup_ne (by omega), zup_ne (by omega), m3 _ (by omega)]
      · rw [zup_ne (by omega), zup_ne (by omega), m3 _ (by omega)]
    | succ t ih =>
      intro i M' g' hi m1 m2 m3 m4
      have r1 : zRr ((i : Int) + 1) := zrr (by omega) (by omega)
      have e1 : ((i : Int) + 1).toNat = i + 1 := by omega
      have gi : g' (i + 1) = some (H + 2 + 17 * π (i + 1)) := by
        rw [m4 (i + 1) (by omega), if_neg (by omega)]
        exact (h3 (i + 1) (by omega)).1
      obtain ⟨nn, ss, s1⟩ := h5 (π (i + 1)) (h3 (i + 1) (by omega)).2
      have s2 : M' (H + 2 + 17 * π (i + 1)) = _ := (m3 _ (by omega)).trans s1.2.1
      refine zgo [9] ?_
      simp only [↓zX_succ, ↓zstp_nil, ↓zstp_cons, ↓reduceIte, zpu_some, zpu_none, zcs, zg, zst, Nat.reduceAdd, Nat.reduceSub, Nat.reduceMul, Nat.reduceEqDiff, Nat.reduceLeDiff, Nat.reduceLT, Int.reduceToNat, Int.reduceAdd, Int.reduceSub, Int.reduceMul, Int.reduceNeg, Int.reduceLE, Int.reduceLT, Int.reduceEq, Int.cast_ofNat_Int, Int.reduceNatCast', true_and, and_true, and_self, Nat.le_refl, Nat.add_zero, Nat.zero_add, Nat.zero_le, Nat.not_lt_zero, or_true, true_or, or_false, false_or, not_true_eq_false, not_false_eq_true, forall_const, true_implies, false_implies, implies_true, zup_same, zup_zup, Int.toNat_natCast, Nat.reduceDiv, List.length_cons, List.length_nil, Nat.succ_ne_zero, ne_eq, reduceCtorEq, zRl_m6, zRl_m5, zRl_m4, zRl_m3, zRl_m2, zRl_m1, zRl_0, zRl_1, zRl_2, zRl_3, zRl_4, zRl_5, zRl_6, zRl_7, zRl_8, zRl_9, zRl_10, zRl_11, zRl_12, zRl_13, zRl_14, zRl_15, zRl_16, zRl_17, zRl_18, zRl_19, zRl_20, zRl_21, zRl_22, zRl_23, zRl_31, zRl_32, zRl_33, zRl_49, zRl_59, zRl_60, zRl_64, zRl_97, zRl_122, zRl_124, zRl_126, zRl_128, zRl_717809397, zRl_1067285329, zRl_2147483647, o_X1_dropOldest, r_X1_dropOldest, eX1_dropOldest_0, q_aload_0, eX1_dropOldest_1, q_getfield, zqg_s, zqv_s, zF_1_11, eX1_dropOldest_4, q_iconst, eX1_dropOldest_5, q_aaload, zqql_s, eX1_dropOldest_6, q_astore_1n, q_astore_1i, q_astore_1a, eX1_dropOldest_7, eX1_dropOldest_8, q_istore_2n, q_istore_2i, q_istore_2a, eX1_dropOldest_9, q_iload_2, eX1_dropOldest_10, eX1_dropOldest_11, q_iadd, eX1_dropOldest_12, q_bipush, eX1_dropOldest_14, q_icmp_ge, eX1_dropOldest_17, eX1_dropOldest_18, eX1_dropOldest_21, eX1_dropOldest_22, eX1_dropOldest_23, eX1_dropOldest_26, eX1_dropOldest_27, eX1_dropOldest_28, eX1_dropOldest_29, eX1_dropOldest_30, q_aastore, zqqs_s, eX1_dropOldest_31, q_iinc_2n, q_iinc_2i, q_iinc_2a, eX1_dropOldest_34, q_goto, eX1_dropOldest_37, eX1_dropOldest_38, eX1_dropOldest_41, eX1_dropOldest_42, q_aload_1, eX1_dropOldest_43, eX1_dropOldest_44, eX1_dropOldest_45, eX1_dropOldest_46, q_putfield, q_putfieldR, zqp_s, zqr_s, zqw_s, zF_1_18, eX1_dropOldest_49, q_return, zqe_s, m1, m2, r1, e1, gi, s2]
      refine ⟨fun q => by omega, fun _ => ⟨by omega, by omega, by omega, by omega, ?_⟩⟩
      rw [show (i : Int) + 1 = ((i + 1 : Nat) : Int) by omega]
      refine ih (i + 1) _ _ (by omega) (by rw [zup_ne (by omega)]; exact m1) zup_same (fun q hq => by rw [zup_ne hq]; exact m3 q hq) (fun j hj => ?_)
      by_cases c : j = i
      · subst c
        rw [zu_same, if_pos (by omega)]
        exact (h3 (j + 1) (by omega)).1.symm
      · rw [zu_ne c, m4 j hj]
        by_cases c2 : j < i
        · rw [if_pos c2, if_pos (by omega)]
        · rw [if_neg c2, if_neg (by omega)]
  have h1' : M H = some (Sum.inl (1, [(Sum.inr (Sum.inl (some (H + 1)))), (Sum.inl (6))])) := h1
  refine zct [some (Sum.inr (Sum.inl (some (H)))), none, none] rfl (Nat.le_of_ble_eq_true rfl) (by decide +kernel) rfl ?_
  refine zgo [9] ?_
  simp only [↓zX_succ, ↓zstp_nil, ↓zstp_cons, ↓reduceIte, zpu_some, zpu_none, zcs, zg, zst, Nat.reduceAdd, Nat.reduceSub, Nat.reduceMul, Nat.reduceEqDiff, Nat.reduceLeDiff, Nat.reduceLT, Int.reduceToNat, Int.reduceAdd, Int.reduceSub, Int.reduceMul, Int.reduceNeg, Int.reduceLE, Int.reduceLT, Int.reduceEq, Int.cast_ofNat_Int, Int.reduceNatCast', true_and, and_true, and_self, Nat.le_refl, Nat.add_zero, Nat.zero_add, Nat.zero_le, Nat.not_lt_zero, or_true, true_or, or_false, false_or, not_true_eq_false, not_false_eq_true, forall_const, true_implies, false_implies, implies_true, zup_same, zup_zup, Int.toNat_natCast, Nat.reduceDiv, List.length_cons, List.length_nil, Nat.succ_ne_zero, ne_eq, reduceCtorEq, zRl_m6, zRl_m5, zRl_m4, zRl_m3, zRl_m2, zRl_m1, zRl_0, zRl_1, zRl_2, zRl_3, zRl_4, zRl_5, zRl_6, zRl_7, zRl_8, zRl_9, zRl_10, zRl_11, zRl_12, zRl_13, zRl_14, zRl_15, zRl_16, zRl_17, zRl_18, zRl_19, zRl_20, zRl_21, zRl_22, zRl_23, zRl_31, zRl_32, zRl_33, zRl_49, zRl_59, zRl_60, zRl_64, zRl_97, zRl_122, zRl_124, zRl_126, zRl_128, zRl_717809397, zRl_1067285329, zRl_2147483647, o_X1_dropOldest, r_X1_dropOldest, eX1_dropOldest_0, q_aload_0, eX1_dropOldest_1, q_getfield, zqg_s, zqv_s, zF_1_11, eX1_dropOldest_4, q_iconst, eX1_dropOldest_5, q_aaload, zqql_s, eX1_dropOldest_6, q_astore_1n, q_astore_1i, q_astore_1a, eX1_dropOldest_7, eX1_dropOldest_8, q_istore_2n, q_istore_2i, q_istore_2a, eX1_dropOldest_9, q_iload_2, eX1_dropOldest_10, eX1_dropOldest_11, q_iadd, eX1_dropOldest_12, q_bipush, eX1_dropOldest_14, q_icmp_ge, eX1_dropOldest_17, eX1_dropOldest_18, eX1_dropOldest_21, eX1_dropOldest_22, eX1_dropOldest_23, eX1_dropOldest_26, eX1_dropOldest_27, eX1_dropOldest_28, eX1_dropOldest_29, eX1_dropOldest_30, q_aastore, zqqs_s, eX1_dropOldest_31, q_iinc_2n, q_iinc_2i, q_iinc_2a, eX1_dropOldest_34, q_goto, eX1_dropOldest_37, eX1_dropOldest_38, eX1_dropOldest_41, eX1_dropOldest_42, q_aload_1, eX1_dropOldest_43, eX1_dropOldest_44, eX1_dropOldest_45, eX1_dropOldest_46, q_putfield, q_putfieldR, zqp_s, zqr_s, zqw_s, zF_1_18, eX1_dropOldest_49, q_return, zqe_s, h1', h2, g0]
  exact key 5 0 M g (by omega) h1' h2 (fun _ _ => rfl) (fun j hj => by rw [if_neg (by omega)])
theorem l_record (hs : hiG M H m st) (hm : m < 6) (ho : shG M h n s) (hw : ∀ i, i < n → wB (s i)) (hd : H + 104 ≤ h ∨ h + 17 ≤ H) (hQ : ∀ M', hiG M' H (m + 1) (zu st m (n, s)) → zfr M M' H (H + 104) → Q none M') : zm lo (d + 3) kX1_record 0 0 Q (0, 0) 13 [some (Sum.inr (Sum.inl (some (H)))), some (Sum.inr (Sum.inl (some (h)))), none] [] M := by
  obtain ⟨hn, h1, g, π, h2, h3, h4, h5, h6⟩ := id hs
  have r1 : zRr (m : Int) := zrr (by omega) (by omega)
  have gm := (h3 m (by omega)).1
  have hpm := (h3 m (by omega)).2
  obtain ⟨n0, s0, k0⟩ := h5 (π m) hpm
  have k1 := k0.2.1
  refine zgo [] ?_
  simp only [↓zX_succ, ↓zstp_nil, ↓zstp_cons, ↓reduceIte, zpu_some, zpu_none, zcs, zg, zst, Nat.reduceAdd, Nat.reduceSub, Nat.reduceMul, Nat.reduceEqDiff, Nat.reduceLeDiff, Nat.reduceLT, Int.reduceToNat, Int.reduceAdd, Int.reduceSub, Int.reduceMul, Int.reduceNeg, Int.reduceLE, Int.reduceLT, Int.reduceEq, Int.cast_ofNat_Int, Int.reduceNatCast', true_and, and_true, and_self, Nat.le_refl, Nat.add_zero, Nat.zero_add, Nat.zero_le, Nat.not_lt_zero, or_true, true_or, or_false, false_or, not_true_eq_false, not_false_eq_true, forall_const, true_implies, false_implies, implies_true, zup_same, zup_zup, Int.toNat_natCast, Nat.reduceDiv, List.length_cons, List.length_nil, Nat.succ_ne_zero, ne_eq, reduceCtorEq, zRl_m6, zRl_m5, zRl_m4, zRl_m3, zRl_m2, zRl_m1, zRl_0, zRl_1, zRl_2, zRl_3, zRl_4, zRl_5, zRl_6, zRl_7, zRl_8, zRl_9, zRl_10, zRl_11, zRl_12, zRl_13, zRl_14, zRl_15, zRl_16, zRl_17, zRl_18, zRl_19, zRl_20, zRl_21, zRl_22, zRl_23, zRl_31, zRl_32, zRl_33, zRl_49, zRl_59, zRl_60, zRl_64, zRl_97, zRl_122, zRl_124, zRl_126, zRl_128, zRl_717809397, zRl_1067285329, zRl_2147483647, o_X1_record, r_X1_record, eX1_record_0, q_aload_0, eX1_record_1, q_getfield, zqg_s, zqv_s, zF_1_18, eX1_record_4, q_bipush, eX1_record_6, q_icmp_lt, eX1_record_9, eX1_record_10, q_invv, zqo_s, zqc_s, zC_1_22, o_X1_dropOldest, zqcv_0, eX1_record_13, eX1_record_14, eX1_record_17, q_if_lt, eX1_record_20, eX1_record_21, eX1_record_24, eX1_record_26, eX1_record_29, q_return, zqe_s, eX1_record_30, eX1_record_31, zF_1_11, eX1_record_34, eX1_record_35, eX1_record_38, q_aaload, zqql_s, eX1_record_39, q_astore_2n, q_astore_2i, q_astore_2a, eX1_record_40, q_aload_2, eX1_record_41, q_ifnull_n, q_ifnull_s, eX1_record_44, eX1_record_45, q_aload_1, eX1_record_46, zC_1_25, o_X5_copyFrom, zqcv_1, eX1_record_49, eX1_record_50, q_dup_i, q_dup_a, eX1_record_51, eX1_record_54, q_iconst, eX1_record_55, q_iadd, eX1_record_56, q_putfield, q_putfieldR, zqp_s, zqr_s, zqw_s, eX1_record_59, h1, h2, r1, gm, k1]
  refine ⟨fun q => by omega, fun _ => ⟨fun _ => ⟨by omega, by omega, ?_⟩, fun q => by omega⟩⟩
  refine c_shCopy (h5 (π m) hpm) ho hw (by omega) (fun M1 q1 q2 => ?_)
  have h1b : M1 H = _ := (q2 H (by omega)).trans h1
  refine zgo [] ?_
  simp only [↓zX_succ, ↓zstp_nil, ↓zstp_cons, ↓reduceIte, zpu_some, zpu_none, zcs, zg, zst, Nat.reduceAdd, Nat.reduceSub, Nat.reduceMul, Nat.reduceEqDiff, Nat.reduceLeDiff, Nat.reduceLT, Int.reduceToNat, Int.reduceAdd, Int.reduceSub, Int.reduceMul, Int.reduceNeg, Int.reduceLE, Int.reduceLT, Int.reduceEq, Int.cast_ofNat_Int, Int.reduceNatCast', true_and, and_true, and_self, Nat.le_refl, Nat.add_zero, Nat.zero_add, Nat.zero_le, Nat.not_lt_zero, or_true, true_or, or_false, false_or, not_true_eq_false, not_false_eq_true, forall_const, true_implies, false_implies, implies_true, zup_same, zup_zup, Int.toNat_natCast, Nat.reduceDiv, List.length_cons, List.length_nil, Nat.succ_ne_zero, ne_eq, reduceCtorEq, zRl_m6, zRl_m5, zRl_m4, zRl_m3, zRl_m2, zRl_m1, zRl_0, zRl_1, zRl_2, zRl_3, zRl_4, zRl_5, zRl_6, zRl_7, zRl_8, zRl_9, zRl_10, zRl_11, zRl_12, zRl_13, zRl_14, zRl_15, zRl_16, zRl_17, zRl_18, zRl_19, zRl_20, zRl_21, zRl_22, zRl_23, zRl_31, zRl_32, zRl_33, zRl_49, zRl_59, zRl_60, zRl_64, zRl_97, zRl_122, zRl_124, zRl_126, zRl_128, zRl_717809397, zRl_1067285329, zRl_2147483647, o_X1_record, r_X1_record, eX1_record_0, q_aload_0, eX1_record_1, q_getfield, zqg_s, zqv_s, zF_1_18, eX1_record_4, q_bipush, eX1_record_6, q_icmp_lt, eX1_record_9, eX1_record_10, q_invv, zqo_s, zqc_s, zC_1_22, o_X1_dropOldest, zqcv_0, eX1_record_13, eX1_record_14, eX1_record_17, q_if_lt, eX1_record_20, eX1_record_21, eX1_record_24, eX1_record_26, eX1_record_29, q_return, zqe_s, eX1_record_30, eX1_record_31, zF_1_11, eX1_record_34, eX1_record_35, eX1_record_38, q_aaload, zqql_s, eX1_record_39, q_astore_2n, q_astore_2i, q_astore_2a, eX1_record_40, q_aload_2, eX1_record_41, q_ifnull_n, q_ifnull_s, eX1_record_44, eX1_record_45, q_aload_1, eX1_record_46, zC_1_25, o_X5_copyFrom, zqcv_1, eX1_record_49, eX1_record_50, q_dup_i, q_dup_a, eX1_record_51, eX1_record_54, q_iconst, eX1_record_55, q_iadd, eX1_record_56, q_putfield, q_putfieldR, zqp_s, zqr_s, zqw_s, eX1_record_59, h1b]
  refine hQ _ ⟨by omega, ?_, g, π, ?_, h3, h4, fun k hk => ?_, fun i hi => ?_⟩ ((q2.mono (by omega) (by omega)).up (by omega) (by omega))
  · rw [zup_same]; simp
  · rw [zup_ne (by omega), q2 _ (by omega)]; exact h2
  · by_cases c : k = π m
    · subst c
      exact ⟨n, s, q1.keep (zfr_up (l := H) (h := H + 1) (by omega) (by omega)) (by omega)⟩
    · exact ((h5 k hk).keep q2 (by omega)).keep (zfr_up (l := H) (h := H + 1) (by omega) (by omega)) (by omega)
  · by_cases c : i = m
    · subst c
      rw [zu_same]
      exact q1.keep (zfr_up (l := H) (h := H + 1) (by omega) (by omega)) (by omega)
    · rw [zu_ne c]
      have : π i ≠ π m := fun q => c (h4 i m (by omega) (by omega) q)
      exact ((h6 i (by omega)).keep q2 (by omega)).keep (zfr_up (l := H) (h := H + 1) (by omega) (by omega)) (by omega)
theorem c_record (hs : hiG M H m st) (ho : shG M h n s) (hw : ∀ i, i < n → wB (s i)) (hd : H + 104 ≤ h ∨ h + 17 ≤ H) (hQ : ∀ M', hiG M' H (hrN m) (hrS m st (n, s)) → zfr M M' H (H + 104) → Q none M') : zCt lo (d + 3) kX1_record 0 0 [(Sum.inr (Sum.inl (some (H)))), (Sum.inr (Sum.inl (some (h))))] M Q := by
  have h1 := hs.2.1
  have hn := hs.1
  have r1 : zRr (m : Int) := zrr (by omega) (by omega)
  refine zct [some (Sum.inr (Sum.inl (some (H)))), some (Sum.inr (Sum.inl (some (h)))), none] rfl (Nat.le_of_ble_eq_true rfl) (by decide +kernel) rfl ?_
  by_cases c : m < 6
  · rw [hrN, hrS, if_pos c, if_pos c] at hQ
    refine zgo [13] ?_
    simp only [↓zX_succ, ↓zstp_nil, ↓zstp_cons, ↓reduceIte, zpu_some, zpu_none, zcs, zg, zst, Nat.reduceAdd, Nat.reduceSub, Nat.reduceMul, Nat.reduceEqDiff, Nat.reduceLeDiff, Nat.reduceLT, Int.reduceToNat, Int.reduceAdd, Int.reduceSub, Int.reduceMul, Int.reduceNeg, Int.reduceLE, Int.reduceLT, Int.reduceEq, Int.cast_ofNat_Int, Int.reduceNatCast', true_and, and_true, and_self, Nat.le_refl, Nat.add_zero, Nat.zero_add, Nat.zero_le, Nat.not_lt_zero, or_true, true_or, or_false, false_or, not_true_eq_false, not_false_eq_true, forall_const, true_implies, false_implies, implies_true, zup_same, zup_zup, Int.toNat_natCast, Nat.reduceDiv, List.length_cons, List.length_nil, Nat.succ_ne_zero, ne_eq, reduceCtorEq, zRl_m6, zRl_m5, zRl_m4, zRl_m3, zRl_m2, zRl_m1, zRl_0, zRl_1, zRl_2, zRl_3, zRl_4, zRl_5, zRl_6, zRl_7, zRl_8, zRl_9, zRl_10, zRl_11, zRl_12, zRl_13, zRl_14, zRl_15, zRl_16, zRl_17, zRl_18, zRl_19, zRl_20, zRl_21, zRl_22, zRl_23, zRl_31, zRl_32, zRl_33, zRl_49, zRl_59, zRl_60, zRl_64, zRl_97, zRl_122, zRl_124, zRl_126, zRl_128, zRl_717809397, zRl_1067285329, zRl_2147483647, o_X1_record, r_X1_record, eX1_record_0, q_aload_0, eX1_record_1, q_getfield, zqg_s, zqv_s, zF_1_18, eX1_record_4, q_bipush, eX1_record_6, q_icmp_lt, eX1_record_9, eX1_record_10, q_invv, zqo_s, zqc_s, zC_1_22, o_X1_dropOldest, zqcv_0, eX1_record_13, eX1_record_14, eX1_record_17, q_if_lt, eX1_record_20, eX1_record_21, eX1_record_24, eX1_record_26, eX1_record_29, q_return, zqe_s, eX1_record_30, eX1_record_31, zF_1_11, eX1_record_34, eX1_record_35, eX1_record_38, q_aaload, zqql_s, eX1_record_39, q_astore_2n, q_astore_2i, q_astore_2a, eX1_record_40, q_aload_2, eX1_record_41, q_ifnull_n, q_ifnull_s, eX1_record_44, eX1_record_45, q_aload_1, eX1_record_46, zC_1_25, o_X5_copyFrom, zqcv_1, eX1_record_49, eX1_record_50, q_dup_i, q_dup_a, eX1_record_51, eX1_record_54, q_iconst, eX1_record_55, q_iadd, eX1_record_56, q_putfield, q_putfieldR, zqp_s, zqr_s, zqw_s, eX1_record_59, h1, r1]
    exact ⟨fun _ => l_record hs c ho hw hd hQ, fun q => by omega⟩
  · rw [hrN, hrS, if_neg c, if_neg c] at hQ
    refine zgo [13] ?_
    simp only [↓zX_succ, ↓zstp_nil, ↓zstp_cons, ↓reduceIte, zpu_some, zpu_none, zcs, zg, zst, Nat.reduceAdd, Nat.reduceSub, Nat.reduceMul, Nat.reduceEqDiff, Nat.reduceLeDiff, Nat.reduceLT, Int.reduceToNat, Int.reduceAdd, Int.reduceSub, Int.reduceMul, Int.reduceNeg, Int.reduceLE, Int.reduceLT, Int.reduceEq, Int.cast_ofNat_Int, Int.reduceNatCast', true_and, and_true, and_self, Nat.le_refl, Nat.add_zero, Nat.zero_add, Nat.zero_le, Nat.not_lt_zero, or_true, true_or, or_false, false_or, not_true_eq_false, not_false_eq_true, forall_const, true_implies, false_implies, implies_true, zup_same, zup_zup, Int.toNat_natCast, Nat.reduceDiv, List.length_cons, List.length_nil, Nat.succ_ne_zero, ne_eq, reduceCtorEq, zRl_m6, zRl_m5, zRl_m4, zRl_m3, zRl_m2, zRl_m1, zRl_0, zRl_1, zRl_2, zRl_3, zRl_4, zRl_5, zRl_6, zRl_7, zRl_8, zRl_9, zRl_10, zRl_11, zRl_12, zRl_13, zRl_14, zRl_15, zRl_16, zRl_17, zRl_18, zRl_19, zRl_20, zRl_21, zRl_22, zRl_23, zRl_31, zRl_32, zRl_33, zRl_49, zRl_59, zRl_60, zRl_64, zRl_97, zRl_122, zRl_124, zRl_126, zRl_128, zRl_717809397, zRl_1067285329, zRl_2147483647, o_X1_record, r_X1_record, eX1_record_0, q_aload_0, eX1_record_1, q_getfield, zqg_s, zqv_s, zF_1_18, eX1_record_4, q_bipush, eX1_record_6, q_icmp_lt, eX1_record_9, eX1_record_10, q_invv, zqo_s, zqc_s, zC_1_22, o_X1_dropOldest, zqcv_0, eX1_record_13, eX1_record_14, eX1_record_17, q_if_lt, eX1_record_20, eX1_record_21, eX1_record_24, eX1_record_26, eX1_record_29, q_return, zqe_s, eX1_record_30, eX1_record_31, zF_1_11, eX1_record_34, eX1_record_35, eX1_record_38, q_aaload, zqql_s, eX1_record_39, q_astore_2n, q_astore_2i, q_astore_2a, eX1_record_40, q_aload_2, eX1_record_41, q_ifnull_n, q_ifnull_s, eX1_record_44, eX1_record_45, q_aload_1, eX1_record_46, zC_1_25, o_X5_copyFrom, zqcv_1, eX1_record_49, eX1_record_50, q_dup_i, q_dup_a, eX1_record_51, eX1_record_54, q_iconst, eX1_record_55, q_iadd, eX1_record_56, q_putfield, q_putfieldR, zqp_s, zqr_s, zqw_s, eX1_record_59, h1, r1]
    refine ⟨fun q => by omega, fun _ => ?_⟩
    refine c_dropOldest hs (by omega) (fun M1 q1 q2 => ?_)
    rw [zpu_none]
    exact l_record q1 (by omega) (ho.keep q2 (by omega)) hw hd (fun M2 t1 t2 => hQ M2 t1 (q2.tr t2))
end HI
