/-- a long's number, and its characters -/
def u64 (c : Int64) : Nat := c.toUInt64.toNat
def cdN (n i : Nat) : Nat := n / 2 ^ (8 * i) % 256
theorem and_255 (u : UInt64) : (u.toInt64 &&& 255).toInt32.toInt = ((u.toNat % 256 : Nat) : Int) := by
  rw [Int64.toInt_toInt32]
  have h2 : (u.toInt64 &&& 255).toBitVec.toNat = u.toNat % 256 := by
    rw [Int64.toBitVec_and, BitVec.toNat_and]
    exact Nat.and_two_pow_sub_one_eq_mod u.toNat 8
  have h3 := Nat.mod_lt u.toNat (show 0 < 256 by decide)
  have h1 : (u.toInt64 &&& 255).toInt = ((u.toNat % 256 : Nat) : Int) := by
    rw [← Int64.toInt_toBitVec, BitVec.toInt_eq_toNat_of_lt (by omega), h2]
  rw [h1]
  generalize u.toNat % 256 = y at *
  rw [Int.bmod_def]
  omega
theorem shift_amt : ∀ i : Nat, i < 8 → ((Int32.ofInt (8 * (i : Int))).toInt64.toUInt64 &&& Int64.toUInt64 63).toNat % 64 = 8 * i := by decide +kernel
theorem shr_8 (c : Int64) (i : Nat) (hi : i < 8) : (c.toUInt64 >>> ((Int32.ofInt (8 * (i : Int))).toInt64.toUInt64 &&& Int64.toUInt64 63)).toNat = u64 c / 2 ^ (8 * i) := by
  rw [UInt64.toNat_shiftRight, shift_amt i hi, Nat.shiftRight_eq_div_pow]
  rfl
section PU
variable {lo d x : Nat} {A : aS} {M : zM}
theorem c_codeIn {c : Int64} {i : Nat} {Q : Option zV → zM → Prop} (hi : i < 8) (hQ : Q (some (Sum.inl ((cdN (u64 c) i : Int)))) M) : zCt lo d kX6_codeIn 0 0 [(Sum.inr (Sum.inr (c))), (Sum.inl ((i : Int)))] M Q := by
  have r1 : zRr (8 * (i : Int)) := zrr (by omega) (by omega)
  refine zct [some (Sum.inr (Sum.inr (c))), none, some (Sum.inl ((i : Int)))] rfl (Nat.le_of_ble_eq_true rfl) (by decide +kernel) rfl ?_
  refine zgo [] ?_
  simp only [↓zX_succ, ↓zstp_nil, ↓zstp_cons, ↓reduceIte, zpu_some, zpu_none, zcs, zg, zst, Nat.reduceAdd, Nat.reduceSub, Nat.reduceMul, Nat.reduceEqDiff, Nat.reduceLeDiff, Nat.reduceLT, Int.reduceToNat, Int.reduceAdd, Int.reduceSub, Int.reduceMul, Int.reduceNeg, Int.reduceLE, Int.reduceLT, Int.reduceEq, Int.cast_ofNat_Int, Int.reduceNatCast', true_and, and_true, and_self, Nat.le_refl, Nat.add_zero, Nat.zero_add, Nat.zero_le, Nat.not_lt_zero, or_true, true_or, or_false, false_or, not_true_eq_false, not_false_eq_true, forall_const, true_implies, false_implies, implies_true, zup_same, zup_zup, Int.toNat_natCast, Nat.reduceDiv, List.length_cons, List.length_nil, Nat.succ_ne_zero, ne_eq, reduceCtorEq, zRl_m6, zRl_m5, zRl_m4, zRl_m3, zRl_m2, zRl_m1, zRl_0, zRl_1, zRl_2, zRl_3, zRl_4, zRl_5, zRl_6, zRl_7, zRl_8, zRl_9, zRl_10, zRl_11, zRl_12, zRl_13, zRl_14, zRl_15, zRl_16, zRl_17, zRl_18, zRl_19, zRl_20, zRl_21, zRl_22, zRl_23, zRl_31, zRl_32, zRl_33, zRl_49, zRl_59, zRl_60, zRl_64, zRl_97, zRl_122, zRl_124, zRl_126, zRl_128, zRl_717809397, zRl_1067285329, zRl_2147483647, o_X6_codeIn, r_X6_codeIn, eX6_codeIn_0, q_lload_0, eX6_codeIn_1, q_bipush, eX6_codeIn_3, q_iload_2, eX6_codeIn_4, q_imul, eX6_codeIn_5, q_lushr, eX6_codeIn_6, q_ldc2, zql_s, zL_6_204, eX6_codeIn_9, q_land, eX6_codeIn_10, q_l2i, eX6_codeIn_11, q_ireturn, zqi_i, zqi_z, r1]
  rw [and_255, shr_8 c i hi]
  exact hQ
end PU
def chR (n : Nat) : Nat → Nat → Nat → Nat
  | 0, _, many => many
  | m + 1, i, many => if cdN n i = 0 then chR n m (i + 1) many else if cdN n i < 33 ∨ 126 < cdN n i ∨ many ≠ i then 0 else chR n m (i + 1) (many + 1)
/-- how many characters a number holds -/
def chN (n : Nat) : Nat := chR n 8 0 0
theorem chR_le {n : Nat} : ∀ (m i many : Nat), chR n m i many ≤ many + m
  | 0, i, many => Nat.le_refl _
  | m + 1, i, many => by
    rw [chR]
    split
    · have := chR_le (n := n) m (i + 1) many
      omega
    · split
      · omega
      · have := chR_le (n := n) m (i + 1) (many + 1)
        omega
theorem cdN_lt {n i : Nat} : cdN n i < 256 := Nat.mod_lt _ (by decide)
theorem pdG.cg {M : zM} {a n : Nat} {c c' : Nat → Int} (hs : pdG M a n c) (e : ∀ j, j < n → c j = c' j) : pdG M a n c' := by
  obtain ⟨hn, C, h1, h2, h3⟩ := hs
  exact ⟨hn, C, h1, h2, fun j hj => (h3 j hj).trans (e j hj)⟩
def ptC (n : Nat) (pc : Nat → Int) (k u : Nat) : Nat → Int := fun j => if j < n then pc j else (cdN u (k - 1 - (j - n)) : Int)
def oPut (A : aS) (u : Nat) : aS × Int := if chN u = 0 then (A, -2) else if 64 < A.2.1.1 + chN u then (A, -4) else (stP A (A.2.1.1 + chN u) (ptC A.2.1.1 A.2.1.2 (chN u) u), ((A.2.1.1 + chN u : Nat) : Int))
section PU2
variable {lo d x : Nat} {A : aS} {M : zM}
theorem c_charactersIn {c : Int64} {Q : Option zV → zM → Prop} (hQ : Q (some (Sum.inl ((chN (u64 c) : Int)))) M) : zCt lo (d + 1) kX6_charactersIn 0 0 [(Sum.inr (Sum.inr (c)))] M Q := by
  have key : ∀ (m i many : Nat) (w : Option zV), i + m = 8 → many ≤ i → (w = none ∨ ∃ z, w = some (Sum.inl (z))) → chR (u64 c) m i many = chN (u64 c) → zm lo (d + 1) kX6_charactersIn 0 0 Q (0, 0) 4 [some (Sum.inr (Sum.inr (c))), none, some (Sum.inl ((many : Int))), some (Sum.inl ((i : Int))), w] [] M := by
    intro m
    induction m with
    | zero =>
      intro i many w hi hm hw h
      have r1 : zRr (i : Int) := zrr (by omega) (by omega)
      rw [chR] at h
      rw [← h] at hQ
      refine zgo [4] ?_
      simp only [↓zX_succ, ↓zstp_nil, ↓zstp_cons, ↓reduceIte, zpu_some, zpu_none, zcs, zg, zst, Nat.reduceAdd, Nat.reduceSub, Nat.reduceMul, Nat.reduceEqDiff, Nat.reduceLeDiff, Nat.reduceLT, Int.reduceToNat, Int.reduceAdd, Int.reduceSub, Int.reduceMul, Int.reduceNeg, Int.reduceLE, Int.reduceLT, Int.reduceEq, Int.cast_ofNat_Int, Int.reduceNatCast', true_and, and_true, and_self, Nat.le_refl, Nat.add_zero, Nat.zero_add, Nat.zero_le, Nat.not_lt_zero, or_true, true_or, or_false, false_or, not_true_eq_false, not_false_eq_true, forall_const, true_implies, false_implies, implies_true, zup_same, zup_zup, Int.toNat_natCast, Nat.reduceDiv, List.length_cons, List.length_nil, Nat.succ_ne_zero, ne_eq, reduceCtorEq, zRl_m6, zRl_m5, zRl_m4, zRl_m3, zRl_m2, zRl_m1, zRl_0, zRl_1, zRl_2, zRl_3, zRl_4, zRl_5, zRl_6, zRl_7, zRl_8, zRl_9, zRl_10, zRl_11, zRl_12, zRl_13, zRl_14, zRl_15, zRl_16, zRl_17, zRl_18, zRl_19, zRl_20, zRl_21, zRl_22, zRl_23, zRl_31, zRl_32, zRl_33, zRl_49, zRl_59, zRl_60, zRl_64, zRl_97, zRl_122, zRl_124, zRl_126, zRl_128, zRl_717809397, zRl_1067285329, zRl_2147483647, o_X6_charactersIn, r_X6_charactersIn, eX6_charactersIn_0, q_iconst, eX6_charactersIn_1, q_istore_2n, q_istore_2i, q_istore_2a, eX6_charactersIn_2, eX6_charactersIn_3, q_istore_3n, q_istore_3i, q_istore_3a, eX6_charactersIn_4, q_iload_3, eX6_charactersIn_5, q_bipush, eX6_charactersIn_7, q_icmp_ge, eX6_charactersIn_10, q_lload_0, eX6_charactersIn_11, eX6_charactersIn_12, q_invs, zqst_s, zqst_c, zqcp_s, zqc_s, zC_6_190, o_X6_codeIn, zqcs_2, eX6_charactersIn_15, q_istore_4n, q_istore_4i, q_istore_4a, eX6_charactersIn_17, q_iload_4, eX6_charactersIn_19, q_if_ne, eX6_charactersIn_22, q_goto, eX6_charactersIn_25, eX6_charactersIn_27, eX6_charactersIn_29, q_icmp_lt, eX6_charactersIn_32, eX6_charactersIn_34, eX6_charactersIn_36, q_icmp_gt, eX6_charactersIn_39, q_iload_2, eX6_charactersIn_40, eX6_charactersIn_41, q_icmp_eq, eX6_charactersIn_44, eX6_charactersIn_45, q_ireturn, zqi_i, zqi_z, eX6_charactersIn_46, q_iinc_2n, q_iinc_2i, q_iinc_2a, eX6_charactersIn_49, q_iinc_3n, q_iinc_3i, q_iinc_3a, eX6_charactersIn_52, eX6_charactersIn_55, eX6_charactersIn_56, r1]
      exact ⟨fun _ => hQ, fun q => by omega⟩
    | succ m ih =>
      intro i many w hi hm hw h
      have r1 : zRr (i : Int) := zrr (by omega) (by omega)
      have r2 : zRr (many : Int) := zrr (by omega) (by omega)
      have hlt := cdN_lt (n := u64 c) (i := i)
      have r3 : zRr (cdN (u64 c) i : Int) := zrr (by omega) (by omega)
      rw [chR] at h
      refine zgo [4] ?_
      simp only [↓zX_succ, ↓zstp_nil, ↓zstp_cons, ↓reduceIte, zpu_some, zpu_none, zcs, zg, zst, Nat.reduceAdd, Nat.reduceSub, Nat.reduceMul, Nat.reduceEqDiff, Nat.reduceLeDiff, Nat.reduceLT, Int.reduceToNat, Int.reduceAdd, Int.reduceSub, Int.reduceMul, Int.reduceNeg, Int.reduceLE, Int.reduceLT, Int.reduceEq, Int.cast_ofNat_Int, Int.reduceNatCast', true_and, and_true, and_self, Nat.le_refl, Nat.add_zero, Nat.zero_add, Nat.zero_le, Nat.not_lt_zero, or_true, true_or, or_false, false_or, not_true_eq_false, not_false_eq_true, forall_const, true_implies, false_implies, implies_true, zup_same, zup_zup, Int.toNat_natCast, Nat.reduceDiv, List.length_cons, List.length_nil, Nat.succ_ne_zero, ne_eq, reduceCtorEq, zRl_m6, zRl_m5, zRl_m4, zRl_m3, zRl_m2, zRl_m1, zRl_0, zRl_1, zRl_2, zRl_3, zRl_4, zRl_5, zRl_6, zRl_7, zRl_8, zRl_9, zRl_10, zRl_11, zRl_12, zRl_13, zRl_14, zRl_15, zRl_16, zRl_17, zRl_18, zRl_19, zRl_20, zRl_21, zRl_22, zRl_23, zRl_31, zRl_32, zRl_33, zRl_49, zRl_59, zRl_60, zRl_64, zRl_97, zRl_122, zRl_124, zRl_126, zRl_128, zRl_717809397, zRl_1067285329, zRl_2147483647, o_X6_charactersIn, r_X6_charactersIn, eX6_charactersIn_0, q_iconst, eX6_charactersIn_1, q_istore_2n, q_istore_2i, q_istore_2a, eX6_charactersIn_2, eX6_charactersIn_3, q_istore_3n, q_istore_3i, q_istore_3a, eX6_charactersIn_4, q_iload_3, eX6_charactersIn_5, q_bipush, eX6_charactersIn_7, q_icmp_ge, eX6_charactersIn_10, q_lload_0, eX6_charactersIn_11, eX6_charactersIn_12, q_invs, zqst_s, zqst_c, zqcp_s, zqc_s, zC_6_190, o_X6_codeIn, zqcs_2, eX6_charactersIn_15, q_istore_4n, q_istore_4i, q_istore_4a, eX6_charactersIn_17, q_iload_4, eX6_charactersIn_19, q_if_ne, eX6_charactersIn_22, q_goto, eX6_charactersIn_25, eX6_charactersIn_27, eX6_charactersIn_29, q_icmp_lt, eX6_charactersIn_32, eX6_charactersIn_34, eX6_charactersIn_36, q_icmp_gt, eX6_charactersIn_39, q_iload_2, eX6_charactersIn_40, eX6_charactersIn_41, q_icmp_eq, eX6_charactersIn_44, eX6_charactersIn_45, q_ireturn, zqi_i, zqi_z, eX6_charactersIn_46, q_iinc_2n, q_iinc_2i, q_iinc_2a, eX6_charactersIn_49, q_iinc_3n, q_iinc_3i, q_iinc_3a, eX6_charactersIn_52, eX6_charactersIn_55, eX6_charactersIn_56, r1]
      refine ⟨fun q => by omega, fun _ => ?_⟩
      refine c_codeIn (by omega) ?_
      rcases hw with rfl | ⟨z, rfl⟩
      all_goals
        refine zgo [4] ?_
        simp only [↓zX_succ, ↓zstp_nil, ↓zstp_cons, ↓reduceIte, zpu_some, zpu_none, zcs, zg, zst, Nat.reduceAdd, Nat.reduceSub, Nat.reduceMul, Nat.reduceEqDiff, Nat.reduceLeDiff, Nat.reduceLT, Int.reduceToNat, Int.reduceAdd, Int.reduceSub, Int.reduceMul, Int.reduceNeg, Int.reduceLE, Int.reduceLT, Int.reduceEq, Int.cast_ofNat_Int, Int.reduceNatCast', true_and, and_true, and_self, Nat.le_refl, Nat.add_zero, Nat.zero_add, Nat.zero_le, Nat.not_lt_zero, or_true, true_or, or_false, false_or, not_true_eq_false, not_false_eq_true, forall_const, true_implies, false_implies, implies_true, zup_same, zup_zup, Int.toNat_natCast, Nat.reduceDiv, List.length_cons, List.length_nil, Nat.succ_ne_zero, ne_eq, reduceCtorEq, zRl_m6, zRl_m5, zRl_m4, zRl_m3, zRl_m2, zRl_m1, zRl_0, zRl_1, zRl_2, zRl_3, zRl_4, zRl_5, zRl_6, zRl_7, zRl_8, zRl_9, zRl_10, zRl_11, zRl_12, zRl_13, zRl_14, zRl_15, zRl_16, zRl_17, zRl_18, zRl_19, zRl_20, zRl_21, zRl_22, zRl_23, zRl_31, zRl_32, zRl_33, zRl_49, zRl_59, zRl_60, zRl_64, zRl_97, zRl_122, zRl_124, zRl_126, zRl_128, zRl_717809397, zRl_1067285329, zRl_2147483647, o_X6_charactersIn, r_X6_charactersIn, eX6_charactersIn_0, q_iconst, eX6_charactersIn_1, q_istore_2n, q_istore_2i, q_istore_2a, eX6_charactersIn_2, eX6_charactersIn_3, q_istore_3n, q_istore_3i, q_istore_3a, eX6_charactersIn_4, q_iload_3, eX6_charactersIn_5, q_bipush, eX6_charactersIn_7, q_icmp_ge, eX6_charactersIn_10, q_lload_0, eX6_charactersIn_11, eX6_charactersIn_12, q_invs, zqst_s, zqst_c, zqcp_s, zqc_s, zC_6_190, o_X6_codeIn, zqcs_2, eX6_charactersIn_15, q_istore_4n, q_istore_4i, q_istore_4a, eX6_charactersIn_17, q_iload_4, eX6_charactersIn_19, q_if_ne, eX6_charactersIn_22, q_goto, eX6_charactersIn_25, eX6_charactersIn_27, eX6_charactersIn_29, q_icmp_lt, eX6_charactersIn_32, eX6_charactersIn_34, eX6_charactersIn_36, q_icmp_gt, eX6_charactersIn_39, q_iload_2, eX6_charactersIn_40, eX6_charactersIn_41, q_icmp_eq, eX6_charactersIn_44, eX6_charactersIn_45, q_ireturn, zqi_i, zqi_z, eX6_charactersIn_46, q_iinc_2n, q_iinc_2i, q_iinc_2a, eX6_charactersIn_49, q_iinc_3n, q_iinc_3i, q_iinc_3a, eX6_charactersIn_52, eX6_charactersIn_55, eX6_charactersIn_56, r1, r2, r3]
        rw [show (i : Int) + 1 = ((i + 1 : Nat) : Int) by omega, show (many : Int) + 1 = ((many + 1 : Nat) : Int) by omega]
        refine ⟨fun q => ?_, fun q => ?_⟩
        · rw [if_neg (by omega)] at h
          refine ⟨fun q2 => ?_, fun q2 => ⟨fun q3 => ?_, fun q3 => ⟨fun q4 => ?_, fun q4 => ?_⟩⟩⟩
          · rw [if_pos (by omega)] at h
            rw [← h] at hQ
            exact hQ
          · rw [if_pos (by omega)] at h
            rw [← h] at hQ
            exact hQ
          · rw [if_neg (by omega)] at h
            exact ih (i + 1) (many + 1) _ (by omega) (by omega) (Or.inr ⟨_, rfl⟩) h
          · rw [if_pos (by omega)] at h
            rw [← h] at hQ
            exact hQ
        · rw [if_pos (by omega)] at h
          exact ih (i + 1) many _ (by omega) (by omega) (Or.inr ⟨_, rfl⟩) h
  refine zct [some (Sum.inr (Sum.inr (c))), none, none, none, none] rfl (Nat.le_of_ble_eq_true rfl) (by decide +kernel) rfl ?_
  refine zgo [4] ?_
  simp only [↓zX_succ, ↓zstp_nil, ↓zstp_cons, ↓reduceIte, zpu_some, zpu_none, zcs, zg, zst, Nat.reduceAdd, Nat.reduceSub, Nat.reduceMul, Nat.reduceEqDiff, Nat.reduceLeDiff, Nat.reduceLT, Int.reduceToNat, Int.reduceAdd, Int.reduceSub, Int.reduceMul, Int.reduceNeg, Int.reduceLE, Int.reduceLT, Int.reduceEq, Int.cast_ofNat_Int, Int.reduceNatCast', true_and, and_true, and_self, Nat.le_refl, Nat.add_zero, Nat.zero_add, Nat.zero_le, Nat.not_lt_zero, or_true, true_or, or_false, false_or, not_true_eq_false, not_false_eq_true, forall_const, true_implies, false_implies, implies_true, zup_same, zup_zup, Int.toNat_natCast, Nat.reduceDiv, List.length_cons, List.length_nil, Nat.succ_ne_zero, ne_eq, reduceCtorEq, zRl_m6, zRl_m5, zRl_m4, zRl_m3, zRl_m2, zRl_m1, zRl_0, zRl_1, zRl_2, zRl_3, zRl_4, zRl_5, zRl_6, zRl_7, zRl_8, zRl_9, zRl_10, zRl_11, zRl_12, zRl_13, zRl_14, zRl_15, zRl_16, zRl_17, zRl_18, zRl_19, zRl_20, zRl_21, zRl_22, zRl_23, zRl_31, zRl_32, zRl_33, zRl_49, zRl_59, zRl_60, zRl_64, zRl_97, zRl_122, zRl_124, zRl_126, zRl_128, zRl_717809397, zRl_1067285329, zRl_2147483647, o_X6_charactersIn, r_X6_charactersIn, eX6_charactersIn_0, q_iconst, eX6_charactersIn_1, q_istore_2n, q_istore_2i, q_istore_2a, eX6_charactersIn_2, eX6_charactersIn_3, q_istore_3n, q_istore_3i, q_istore_3a, eX6_charactersIn_4, q_iload_3, eX6_charactersIn_5, q_bipush, eX6_charactersIn_7, q_icmp_ge, eX6_charactersIn_10, q_lload_0, eX6_charactersIn_11, eX6_charactersIn_12, q_invs, zqst_s, zqst_c, zqcp_s, zqc_s, zC_6_190, o_X6_codeIn, zqcs_2, eX6_charactersIn_15, q_istore_4n, q_istore_4i, q_istore_4a, eX6_charactersIn_17, q_iload_4, eX6_charactersIn_19, q_if_ne, eX6_charactersIn_22, q_goto, eX6_charactersIn_25, eX6_charactersIn_27, eX6_charactersIn_29, q_icmp_lt, eX6_charactersIn_32, eX6_charactersIn_34, eX6_charactersIn_36, q_icmp_gt, eX6_charactersIn_39, q_iload_2, eX6_charactersIn_40, eX6_charactersIn_41, q_icmp_eq, eX6_charactersIn_44, eX6_charactersIn_45, q_ireturn, zqi_i, zqi_z, eX6_charactersIn_46, q_iinc_2n, q_iinc_2i, q_iinc_2a, eX6_charactersIn_49, q_iinc_3n, q_iinc_3i, q_iinc_3a, eX6_charactersIn_52, eX6_charactersIn_55, eX6_charactersIn_56]
  exact key 8 0 0 none rfl (Nat.le_refl _) (Or.inl rfl) rfl
theorem p_put {c : Int64} (hc : clG M x A) (hw : wfA A) : zPb lo (d + 12) kX6_put x [(Sum.inr (Sum.inr (c)))] M (oPut A (u64 c)) := by
  intro Q hQ
  obtain ⟨hx, h2, h3, h4, h5⟩ := id hc
  have m0 := hx.1
  unfold xO at m0
  obtain ⟨hpn, C, m2, m3, -⟩ := id h3
  have hk := chR_le (n := u64 c) 8 0 0
  rw [show chR (u64 c) 8 0 0 = chN (u64 c) from rfl] at hk
  rw [oPut] at hQ
  generalize hkk : chN (u64 c) = k at *
  have r1 : zRr (k : Int) := zrr (by omega) (by omega)
  have r2 : zRr ((k : Int) - 1) := zrr (by omega) (by omega)
  have r3 : zRr ((A.2.1.1 : Int) + k) := zrr (by omega) (by omega)
  refine zct [some (Sum.inr (Sum.inl (some (x)))), some (Sum.inr (Sum.inr (c))), none, none, none] rfl (Nat.le_of_ble_eq_true rfl) (by decide +kernel) rfl ?_
  refine zgo [34] ?_
  simp only [↓zX_succ, ↓zstp_nil, ↓zstp_cons, ↓reduceIte, zpu_some, zpu_none, zcs, zg, zst, Nat.reduceAdd, Nat.reduceSub, Nat.reduceMul, Nat.reduceEqDiff, Nat.reduceLeDiff, Nat.reduceLT, Int.reduceToNat, Int.reduceAdd, Int.reduceSub, Int.reduceMul, Int.reduceNeg, Int.reduceLE, Int.reduceLT, Int.reduceEq, Int.cast_ofNat_Int, Int.reduceNatCast', true_and, and_true, and_self, Nat.le_refl, Nat.add_zero, Nat.zero_add, Nat.zero_le, Nat.not_lt_zero, or_true, true_or, or_false, false_or, not_true_eq_false, not_false_eq_true, forall_const, true_implies, false_implies, implies_true, zup_same, zup_zup, Int.toNat_natCast, Nat.reduceDiv, List.length_cons, List.length_nil, Nat.succ_ne_zero, ne_eq, reduceCtorEq, zRl_m6, zRl_m5, zRl_m4, zRl_m3, zRl_m2, zRl_m1, zRl_0, zRl_1, zRl_2, zRl_3, zRl_4, zRl_5, zRl_6, zRl_7, zRl_8, zRl_9, zRl_10, zRl_11, zRl_12, zRl_13, zRl_14, zRl_15, zRl_16, zRl_17, zRl_18, zRl_19, zRl_20, zRl_21, zRl_22, zRl_23, zRl_31, zRl_32, zRl_33, zRl_49, zRl_59, zRl_60, zRl_64, zRl_97, zRl_122, zRl_124, zRl_126, zRl_128, zRl_717809397, zRl_1067285329, zRl_2147483647, o_X6_put, r_X6_put, eX6_put_0, q_lload_1, eX6_put_1, q_invs, zqst_s, zqst_c, zqcp_s, zqc_s, zC_6_186, o_X6_charactersIn, zqcs_1, eX6_put_4, q_istore_3n, q_istore_3i, q_istore_3a, eX6_put_5, q_iload_3, eX6_put_6, q_if_ne, eX6_put_9, q_bipush, eX6_put_11, q_ireturn, zqi_i, zqi_z, eX6_put_12, q_aload_0, eX6_put_13, q_getfield, zqg_s, zqv_s, zF_6_19, eX6_put_16, zF_6_179, eX6_put_19, eX6_put_20, q_iadd, eX6_put_21, eX6_put_23, q_icmp_le, eX6_put_26, eX6_put_28, eX6_put_29, eX6_put_30, q_iconst, eX6_put_31, q_isub, eX6_put_32, q_istore_4n, q_istore_4i, q_istore_4a, eX6_put_34, q_iload_4, eX6_put_36, q_if_lt, eX6_put_39, eX6_put_40, eX6_put_43, eX6_put_44, eX6_put_46, zC_6_190, o_X6_codeIn, zqcs_2, eX6_put_49, q_invv, zqo_s, zC_6_194, o_X2_append, zqcv_1, eX6_put_52, q_iinc_4n, q_iinc_4i, q_iinc_4a, eX6_put_55, q_goto, eX6_put_58, eX6_put_59, eX6_put_62, eX6_put_65]
  refine c_charactersIn ?_
  rw [hkk]
  refine zgo [34] ?_
  simp only [↓zX_succ, ↓zstp_nil, ↓zstp_cons, ↓reduceIte, zpu_some, zpu_none, zcs, zg, zst, Nat.reduceAdd, Nat.reduceSub, Nat.reduceMul, Nat.reduceEqDiff, Nat.reduceLeDiff, Nat.reduceLT, Int.reduceToNat, Int.reduceAdd, Int.reduceSub, Int.reduceMul, Int.reduceNeg, Int.reduceLE, Int.reduceLT, Int.reduceEq, Int.cast_ofNat_Int, Int.reduceNatCast', true_and, and_true, and_self, Nat.le_refl, Nat.add_zero, Nat.zero_add, Nat.zero_le, Nat.not_lt_zero, or_true, true_or, or_false, false_or, not_true_eq_false, not_false_eq_true, forall_const, true_implies, false_implies, implies_true, zup_same, zup_zup, Int.toNat_natCast, Nat.reduceDiv, List.length_cons, List.length_nil, Nat.succ_ne_zero, ne_eq, reduceCtorEq, zRl_m6, zRl_m5, zRl_m4, zRl_m3, zRl_m2, zRl_m1, zRl_0, zRl_1, zRl_2, zRl_3, zRl_4, zRl_5, zRl_6, zRl_7, zRl_8, zRl_9, zRl_10, zRl_11, zRl_12, zRl_13, zRl_14, zRl_15, zRl_16, zRl_17, zRl_18, zRl_19, zRl_20, zRl_21, zRl_22, zRl_23, zRl_31, zRl_32, zRl_33, zRl_49, zRl_59, zRl_60, zRl_64, zRl_97, zRl_122, zRl_124, zRl_126, zRl_128, zRl_717809397, zRl_1067285329, zRl_2147483647, o_X6_put, r_X6_put, eX6_put_0, q_lload_1, eX6_put_1, q_invs, zqst_s, zqst_c, zqcp_s, zqc_s, zC_6_186, o_X6_charactersIn, zqcs_1, eX6_put_4, q_istore_3n, q_istore_3i, q_istore_3a, eX6_put_5, q_iload_3, eX6_put_6, q_if_ne, eX6_put_9, q_bipush, eX6_put_11, q_ireturn, zqi_i, zqi_z, eX6_put_12, q_aload_0, eX6_put_13, q_getfield, zqg_s, zqv_s, zF_6_19, eX6_put_16, zF_6_179, eX6_put_19, eX6_put_20, q_iadd, eX6_put_21, eX6_put_23, q_icmp_le, eX6_put_26, eX6_put_28, eX6_put_29, eX6_put_30, q_iconst, eX6_put_31, q_isub, eX6_put_32, q_istore_4n, q_istore_4i, q_istore_4a, eX6_put_34, q_iload_4, eX6_put_36, q_if_lt, eX6_put_39, eX6_put_40, eX6_put_43, eX6_put_44, eX6_put_46, zC_6_190, o_X6_codeIn, zqcs_2, eX6_put_49, q_invv, zqo_s, zC_6_194, o_X2_append, zqcv_1, eX6_put_52, q_iinc_4n, q_iinc_4i, q_iinc_4a, eX6_put_55, q_goto, eX6_put_58, eX6_put_59, eX6_put_62, eX6_put_65, m0, m2, r1, r2, r3]
  refine ⟨fun q => ?_, fun q => ?_⟩
  · rw [if_neg (by omega)] at hQ
    refine ⟨fun q2 => ?_, fun q2 => ?_⟩
    · rw [if_neg (by omega)] at hQ
      have key : ∀ (i m : Nat) (M' : zM) (c' : Nat → Int), i + m = k → pdG M' (x + 18) (A.2.1.1 + m) c' → (∀ j, j < A.2.1.1 + m → c' j = ptC A.2.1.1 A.2.1.2 k (u64 c) j) → zfr M M' (x + 18) (x + 20) → zm lo (d + 12) kX6_put 0 0 Q (0, 0) 34 [some (Sum.inr (Sum.inl (some (x)))), some (Sum.inr (Sum.inr (c))), none, some (Sum.inl ((k : Int))), some (Sum.inl ((i : Int) - 1))] [] M' := by
        intro i
        induction i with
        | zero =>
          intro m M' c' hi hp he hf
          have em : m = k := by omega
          subst em
          have p0 : M' x = _ := (hf x (by omega)).trans m0
          obtain ⟨-, C', p2, -, -⟩ := id hp
          have r5 : zRr (((0 : Nat) : Int) - 1) := zrr (by decide) (by decide)
          refine zgo [34] ?_
          simp only [↓zX_succ, ↓zstp_nil, ↓zstp_cons, ↓reduceIte, zpu_some, zpu_none, zcs, zg, zst, Nat.reduceAdd, Nat.reduceSub, Nat.reduceMul, Nat.reduceEqDiff, Nat.reduceLeDiff, Nat.reduceLT, Int.reduceToNat, Int.reduceAdd, Int.reduceSub, Int.reduceMul, Int.reduceNeg, Int.reduceLE, Int.reduceLT, Int.reduceEq, Int.cast_ofNat_Int, Int.reduceNatCast', true_and, and_true, and_self, Nat.le_refl, Nat.add_zero, Nat.zero_add, Nat.zero_le, Nat.not_lt_zero, or_true, true_or, or_false, false_or, not_true_eq_false, not_false_eq_true, forall_const, true_implies, false_implies, implies_true, zup_same, zup_zup, Int.toNat_natCast, Nat.reduceDiv, List.length_cons, List.length_nil, Nat.succ_ne_zero, ne_eq, reduceCtorEq, zRl_m6, zRl_m5, zRl_m4, zRl_m3, zRl_m2, zRl_m1, zRl_0, zRl_1, zRl_2, zRl_3, zRl_4, zRl_5, zRl_6, zRl_7, zRl_8, zRl_9, zRl_10, zRl_11, zRl_12, zRl_13, zRl_14, zRl_15, zRl_16, zRl_17, zRl_18, zRl_19, zRl_20, zRl_21, zRl_22, zRl_23, zRl_31, zRl_32, zRl_33, zRl_49, zRl_59, zRl_60, zRl_64, zRl_97, zRl_122, zRl_124, zRl_126, zRl_128, zRl_717809397, zRl_1067285329, zRl_2147483647, o_X6_put, r_X6_put, eX6_put_0, q_lload_1, eX6_put_1, q_invs, zqst_s, zqst_c, zqcp_s, zqc_s, zC_6_186, o_X6_charactersIn, zqcs_1, eX6_put_4, q_istore_3n, q_istore_3i, q_istore_3a, eX6_put_5, q_iload_3, eX6_put_6, q_if_ne, eX6_put_9, q_bipush, eX6_put_11, q_ireturn, zqi_i, zqi_z, eX6_put_12, q_aload_0, eX6_put_13, q_getfield, zqg_s, zqv_s, zF_6_19, eX6_put_16, zF_6_179, eX6_put_19, eX6_put_20, q_iadd, eX6_put_21, eX6_put_23, q_icmp_le, eX6_put_26, eX6_put_28, eX6_put_29, eX6_put_30, q_iconst, eX6_put_31, q_isub, eX6_put_32, q_istore_4n, q_istore_4i, q_istore_4a, eX6_put_34, q_iload_4, eX6_put_36, q_if_lt, eX6_put_39, eX6_put_40, eX6_put_43, eX6_put_44, eX6_put_46, zC_6_190, o_X6_codeIn, zqcs_2, eX6_put_49, q_invv, zqo_s, zC_6_194, o_X2_append, zqcv_1, eX6_put_52, q_iinc_4n, q_iinc_4i, q_iinc_4a, eX6_put_55, q_goto, eX6_put_58, eX6_put_59, eX6_put_62, eX6_put_65, r5, p0, p2]
          have k0 := hQ M' (hc.pad (hp.cg he) hf) (hf.mono (by omega) (by omega))
          exact k0
        | succ i ih =>
          intro m M' c' hi hp he hf
          have p0 : M' x = _ := (hf x (by omega)).trans m0
          obtain ⟨-, C', p2, -, -⟩ := id hp
          have e1 : ((i + 1 : Nat) : Int) - 1 = (i : Int) := by omega
          have r5 : zRr (i : Int) := zrr (by omega) (by omega)
          rw [e1]
          refine zgo [34] ?_
          simp only [↓zX_succ, ↓zstp_nil, ↓zstp_cons, ↓reduceIte, zpu_some, zpu_none, zcs, zg, zst, Nat.reduceAdd, Nat.reduceSub, Nat.reduceMul, Nat.reduceEqDiff, Nat.reduceLeDiff, Nat.reduceLT, Int.reduceToNat, Int.reduceAdd, Int.reduceSub, Int.reduceMul, Int.reduceNeg, Int.reduceLE, Int.reduceLT, Int.reduceEq, Int.cast_ofNat_Int, Int.reduceNatCast', true_and, and_true, and_self, Nat.le_refl, Nat.add_zero, Nat.zero_add, Nat.zero_le, Nat.not_lt_zero, or_true, true_or, or_false, false_or, not_true_eq_false, not_false_eq_true, forall_const, true_implies, false_implies, implies_true, zup_same, zup_zup, Int.toNat_natCast, Nat.reduceDiv, List.length_cons, List.length_nil, Nat.succ_ne_zero, ne_eq, reduceCtorEq, zRl_m6, zRl_m5, zRl_m4, zRl_m3, zRl_m2, zRl_m1, zRl_0, zRl_1, zRl_2, zRl_3, zRl_4, zRl_5, zRl_6, zRl_7, zRl_8, zRl_9, zRl_10, zRl_11, zRl_12, zRl_13, zRl_14, zRl_15, zRl_16, zRl_17, zRl_18, zRl_19, zRl_20, zRl_21, zRl_22, zRl_23, zRl_31, zRl_32, zRl_33, zRl_49, zRl_59, zRl_60, zRl_64, zRl_97, zRl_122, zRl_124, zRl_126, zRl_128, zRl_717809397, zRl_1067285329, zRl_2147483647, o_X6_put, r_X6_put, eX6_put_0, q_lload_1, eX6_put_1, q_invs, zqst_s, zqst_c, zqcp_s, zqc_s, zC_6_186, o_X6_charactersIn, zqcs_1, eX6_put_4, q_istore_3n, q_istore_3i, q_istore_3a, eX6_put_5, q_iload_3, eX6_put_6, q_if_ne, eX6_put_9, q_bipush, eX6_put_11, q_ireturn, zqi_i, zqi_z, eX6_put_12, q_aload_0, eX6_put_13, q_getfield, zqg_s, zqv_s, zF_6_19, eX6_put_16, zF_6_179, eX6_put_19, eX6_put_20, q_iadd, eX6_put_21, eX6_put_23, q_icmp_le, eX6_put_26, eX6_put_28, eX6_put_29, eX6_put_30, q_iconst, eX6_put_31, q_isub, eX6_put_32, q_istore_4n, q_istore_4i, q_istore_4a, eX6_put_34, q_iload_4, eX6_put_36, q_if_lt, eX6_put_39, eX6_put_40, eX6_put_43, eX6_put_44, eX6_put_46, zC_6_190, o_X6_codeIn, zqcs_2, eX6_put_49, q_invv, zqo_s, zC_6_194, o_X2_append, zqcv_1, eX6_put_52, q_iinc_4n, q_iinc_4i, q_iinc_4a, eX6_put_55, q_goto, eX6_put_58, eX6_put_59, eX6_put_62, eX6_put_65, r5, p0]
          refine ⟨fun q => by omega, fun _ => ?_⟩
          refine c_codeIn (by omega) ?_
          refine zgo [34] ?_
          simp only [↓zX_succ, ↓zstp_nil, ↓zstp_cons, ↓reduceIte, zpu_some, zpu_none, zcs, zg, zst, Nat.reduceAdd, Nat.reduceSub, Nat.reduceMul, Nat.reduceEqDiff, Nat.reduceLeDiff, Nat.reduceLT, Int.reduceToNat, Int.reduceAdd, Int.reduceSub, Int.reduceMul, Int.reduceNeg, Int.reduceLE, Int.reduceLT, Int.reduceEq, Int.cast_ofNat_Int, Int.reduceNatCast', true_and, and_true, and_self, Nat.le_refl, Nat.add_zero, Nat.zero_add, Nat.zero_le, Nat.not_lt_zero, or_true, true_or, or_false, false_or, not_true_eq_false, not_false_eq_true, forall_const, true_implies, false_implies, implies_true, zup_same, zup_zup, Int.toNat_natCast, Nat.reduceDiv, List.length_cons, List.length_nil, Nat.succ_ne_zero, ne_eq, reduceCtorEq, zRl_m6, zRl_m5, zRl_m4, zRl_m3, zRl_m2, zRl_m1, zRl_0, zRl_1, zRl_2, zRl_3, zRl_4, zRl_5, zRl_6, zRl_7, zRl_8, zRl_9, zRl_10, zRl_11, zRl_12, zRl_13, zRl_14, zRl_15, zRl_16, zRl_17, zRl_18, zRl_19, zRl_20, zRl_21, zRl_22, zRl_23, zRl_31, zRl_32, zRl_33, zRl_49, zRl_59, zRl_60, zRl_64, zRl_97, zRl_122, zRl_124, zRl_126, zRl_128, zRl_717809397, zRl_1067285329, zRl_2147483647, o_X6_put, r_X6_put, eX6_put_0, q_lload_1, eX6_put_1, q_invs, zqst_s, zqst_c, zqcp_s, zqc_s, zC_6_186, o_X6_charactersIn, zqcs_1, eX6_put_4, q_istore_3n, q_istore_3i, q_istore_3a, eX6_put_5, q_iload_3, eX6_put_6, q_if_ne, eX6_put_9, q_bipush, eX6_put_11, q_ireturn, zqi_i, zqi_z, eX6_put_12, q_aload_0, eX6_put_13, q_getfield, zqg_s, zqv_s, zF_6_19, eX6_put_16, zF_6_179, eX6_put_19, eX6_put_20, q_iadd, eX6_put_21, eX6_put_23, q_icmp_le, eX6_put_26, eX6_put_28, eX6_put_29, eX6_put_30, q_iconst, eX6_put_31, q_isub, eX6_put_32, q_istore_4n, q_istore_4i, q_istore_4a, eX6_put_34, q_iload_4, eX6_put_36, q_if_lt, eX6_put_39, eX6_put_40, eX6_put_43, eX6_put_44, eX6_put_46, zC_6_190, o_X6_codeIn, zqcs_2, eX6_put_49, q_invv, zqo_s, zC_6_194, o_X2_append, zqcv_1, eX6_put_52, q_iinc_4n, q_iinc_4i, q_iinc_4a, eX6_put_55, q_goto, eX6_put_58, eX6_put_59, eX6_put_62, eX6_put_65, r5, p0, p2]
          refine c_padAppend hp (by omega) (fun M2 q1 q2 => ?_)
          have r6 : zRr ((i : Int) + -1) := zrr (by omega) (by omega)
          refine zgo [34] ?_
          simp only [↓zX_succ, ↓zstp_nil, ↓zstp_cons, ↓reduceIte, zpu_some, zpu_none, zcs, zg, zst, Nat.reduceAdd, Nat.reduceSub, Nat.reduceMul, Nat.reduceEqDiff, Nat.reduceLeDiff, Nat.reduceLT, Int.reduceToNat, Int.reduceAdd, Int.reduceSub, Int.reduceMul, Int.reduceNeg, Int.reduceLE, Int.reduceLT, Int.reduceEq, Int.cast_ofNat_Int, Int.reduceNatCast', true_and, and_true, and_self, Nat.le_refl, Nat.add_zero, Nat.zero_add, Nat.zero_le, Nat.not_lt_zero, or_true, true_or, or_false, false_or, not_true_eq_false, not_false_eq_true, forall_const, true_implies, false_implies, implies_true, zup_same, zup_zup, Int.toNat_natCast, Nat.reduceDiv, List.length_cons, List.length_nil, Nat.succ_ne_zero, ne_eq, reduceCtorEq, zRl_m6, zRl_m5, zRl_m4, zRl_m3, zRl_m2, zRl_m1, zRl_0, zRl_1, zRl_2, zRl_3, zRl_4, zRl_5, zRl_6, zRl_7, zRl_8, zRl_9, zRl_10, zRl_11, zRl_12, zRl_13, zRl_14, zRl_15, zRl_16, zRl_17, zRl_18, zRl_19, zRl_20, zRl_21, zRl_22, zRl_23, zRl_31, zRl_32, zRl_33, zRl_49, zRl_59, zRl_60, zRl_64, zRl_97, zRl_122, zRl_124, zRl_126, zRl_128, zRl_717809397, zRl_1067285329, zRl_2147483647, o_X6_put, r_X6_put, eX6_put_0, q_lload_1, eX6_put_1, q_invs, zqst_s, zqst_c, zqcp_s, zqc_s, zC_6_186, o_X6_charactersIn, zqcs_1, eX6_put_4, q_istore_3n, q_istore_3i, q_istore_3a, eX6_put_5, q_iload_3, eX6_put_6, q_if_ne, eX6_put_9, q_bipush, eX6_put_11, q_ireturn, zqi_i, zqi_z, eX6_put_12, q_aload_0, eX6_put_13, q_getfield, zqg_s, zqv_s, zF_6_19, eX6_put_16, zF_6_179, eX6_put_19, eX6_put_20, q_iadd, eX6_put_21, eX6_put_23, q_icmp_le, eX6_put_26, eX6_put_28, eX6_put_29, eX6_put_30, q_iconst, eX6_put_31, q_isub, eX6_put_32, q_istore_4n, q_istore_4i, q_istore_4a, eX6_put_34, q_iload_4, eX6_put_36, q_if_lt, eX6_put_39, eX6_put_40, eX6_put_43, eX6_put_44, eX6_put_46, zC_6_190, o_X6_codeIn, zqcs_2, eX6_put_49, q_invv, zqo_s, zC_6_194, o_X2_append, zqcv_1, eX6_put_52, q_iinc_4n, q_iinc_4i, q_iinc_4a, eX6_put_55, q_goto, eX6_put_58, eX6_put_59, eX6_put_62, eX6_put_65, r5, r6]
          rw [show (i : Int) + -1 = (i : Int) - 1 by omega]
          refine ih (m + 1) M2 _ (by omega) q1 (fun j hj => ?_) (hf.tr q2)
          by_cases cj : j = A.2.1.1 + m
          · subst cj
            rw [zu_same, ptC, if_neg (by omega), Nat.add_sub_cancel_left, show k - 1 - m = i by omega]
          · rw [zu_ne cj]
            exact he j (by omega)
      exact key k 0 M A.2.1.2 (by omega) h3 (fun j hj => by rw [ptC, if_pos (by omega)]) zfr_rf
    · rw [if_pos (by omega)] at hQ
      exact hQ M hc zfr_rf
  · rw [if_pos (by omega)] at hQ
    exact hQ M hc zfr_rf
end PU2
