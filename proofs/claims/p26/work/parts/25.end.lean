theorem tkl_rv {R : Nat → Int} {n s e : Nat} {X P Y : List Int} (h : tkl R n = X ++ (P ++ Y)) (hs : s = X.length) (he : e = X.length + P.length) : tkl (zrev R s e) n = X ++ (P.reverse ++ Y) := by
  have hn : n = X.length + (P.length + Y.length) := by
    have := congrArg List.length h
    rw [tkl_len] at this
    simpa using this
  rw [hn, tkl_app, tkl_app] at h
  obtain ⟨h1, h2⟩ := List.append_inj h (by rw [tkl_len])
  obtain ⟨h3, h4⟩ := List.append_inj h2 (by rw [tkl_len])
  rw [hn, tkl_app, tkl_app, ← h1, ← h3, ← h4]
  simp only [tkl_len] at hs he ⊢
  congr 1
  · rw [tkl_eq]
    intro j hj
    simp only [zrev]
    rw [if_neg (by omega)]
  · congr 1
    · rw [tkl_rev, tkl_eq]
      intro j hj
      simp only [zrev]
      rw [if_pos (by omega)]
      congr 1
      omega
    · rw [tkl_eq]
      intro j hj
      simp only [zrev]
      rw [if_neg (by omega)]
/-- one end at e: its row, its digits -/
def enR (M : zM) (e : Nat) (R S T : Nat → Int) (dg nm : Nat) : Prop := M e = some (Sum.inl (0, [(Sum.inr (Sum.inl (some (e + 1)))), (Sum.inr (Sum.inl (some (e + 2)))), (Sum.inr (Sum.inl (some (e + 3)))), (Sum.inl ((dg : Int))), (Sum.inl ((nm : Int)))])) ∧ M (e + 1) = some (Sum.inr (0, 60, Sum.inl (R))) ∧ M (e + 2) = some (Sum.inr (0, 6, Sum.inl (S))) ∧ M (e + 3) = some (Sum.inr (0, 6, Sum.inl (T)))
def enA (M : zM) (e : Nat) : Prop := ∃ R S T dg nm, M e = some (Sum.inl (0, [(Sum.inr (Sum.inl (some (e + 1)))), (Sum.inr (Sum.inl (some (e + 2)))), (Sum.inr (Sum.inl (some (e + 3)))), (Sum.inl (dg)), (Sum.inl (nm))])) ∧ M (e + 1) = some (Sum.inr (0, 60, Sum.inl (R))) ∧ M (e + 2) = some (Sum.inr (0, 6, Sum.inl (S))) ∧ M (e + 3) = some (Sum.inr (0, 6, Sum.inl (T)))
def enD (ps : List (List Int)) (S T : Nat → Int) : Prop := ∀ t, t < dgs ps → S t = ((dst ps 0 t).1 : Int) ∧ T t = ((dst ps 0 t).2 : Int)
def enG (M : zM) (e : Nat) (ps : List (List Int)) (F : Nat → Bool) (m : Nat) : Prop := ∃ R S T, enR M e R S T (dgs ps) m ∧ enD ps S T ∧ tkl R (tln ps) = rowG ps F
theorem enR.keep {M M' : zM} {e l h dg nm : Nat} {R S T : Nat → Int} (hs : enR M e R S T dg nm) (hf : zfr M M' l h) (hd : e + 4 ≤ l ∨ h ≤ e) : enR M' e R S T dg nm := ⟨(hf _ (by omega)).trans hs.1, (hf _ (by omega)).trans hs.2.1, (hf _ (by omega)).trans hs.2.2.1, (hf _ (by omega)).trans hs.2.2.2⟩
theorem enG.keep {M M' : zM} {e l h m : Nat} {ps : List (List Int)} {F : Nat → Bool} (hs : enG M e ps F m) (hf : zfr M M' l h) (hd : e + 4 ≤ l ∨ h ≤ e) : enG M' e ps F m := by
  obtain ⟨R, S, T, h1, h2, h3⟩ := hs
  exact ⟨R, S, T, h1.keep hf hd, h2, h3⟩
theorem enA.keep {M M' : zM} {e l h : Nat} (hs : enA M e) (hf : zfr M M' l h) (hd : e + 4 ≤ l ∨ h ≤ e) : enA M' e := by
  obtain ⟨R, S, T, dg, nm, h1, h2, h3, h4⟩ := hs
  exact ⟨R, S, T, dg, nm, (hf _ (by omega)).trans h1, (hf _ (by omega)).trans h2, (hf _ (by omega)).trans h3, (hf _ (by omega)).trans h4⟩
theorem enG.any {M : zM} {e m : Nat} {ps : List (List Int)} {F : Nat → Bool} (hs : enG M e ps F m) : enA M e := by
  obtain ⟨R, S, T, h1, h2, h3⟩ := hs
  exact ⟨R, S, T, _, _, h1.1, h1.2.1, h1.2.2.1, h1.2.2.2⟩
theorem zshl1 : ∀ k : Nat, k < 7 → zshl 1 (k : Int) = ((2 ^ k : Nat) : Int) := by decide +kernel
theorem zand_bit : ∀ k : Nat, k < 6 → ∀ m : Nat, m < 65 → (zand (m : Int) ((2 ^ k : Nat) : Int) = 0 ↔ m / 2 ^ k % 2 ≠ 1) := by decide +kernel
theorem zand_rr {a b : Int} : zRr (zand a b) := by
  unfold zand
  have h1 := Int32.toInt_lt (Int32.ofInt a &&& Int32.ofInt b)
  have h2 := Int32.le_toInt (Int32.ofInt a &&& Int32.ofInt b)
  exact ⟨by omega, by omega⟩
theorem nat_step {m K : Nat} (hK : 0 < K) : (m + 1) / K = if (m + 1) % K = 0 then m / K + 1 else m / K := by
  have h1 := Nat.div_add_mod m K
  have h2 := Nat.mod_lt m hK
  by_cases c : m % K + 1 = K
  · have e : m + 1 = K * (m / K + 1) := by rw [Nat.mul_add, Nat.mul_one]; omega
    rw [e, Nat.mul_mod_right, if_pos rfl, Nat.mul_div_cancel_left _ hK]
  · have e : m + 1 = (m % K + 1) + K * (m / K) := by omega
    have h3 : (m + 1) % K = m % K + 1 := by rw [e, Nat.add_mul_mod_self_left, Nat.mod_eq_of_lt (show m % K + 1 < K by omega)]
    have h4 : (m + 1) / K = m / K := by rw [e, Nat.add_mul_div_left _ _ hK, Nat.div_eq_of_lt (show m % K + 1 < K by omega), Nat.zero_add]
    rw [h3, h4, if_neg (by omega)]
theorem mod_pow_s {x k : Nat} : x % 2 ^ (k + 1) = 0 ↔ (x % 2 ^ k = 0 ∧ x / 2 ^ k % 2 = 0) := by
  have hK : 0 < 2 ^ k := Nat.two_pow_pos k
  have h1 := Nat.mod_mul (x := x) (a := 2 ^ k) (b := 2)
  rw [← Nat.pow_succ] at h1
  rw [h1]
  have h2 := Nat.mod_lt x hK
  constructor
  · intro h
    have : x % 2 ^ k = 0 ∧ 2 ^ k * (x / 2 ^ k % 2) = 0 := by omega
    refine ⟨this.1, ?_⟩
    rcases Nat.mul_eq_zero.mp this.2 with h | h
    · omega
    · exact h
  · rintro ⟨h3, h4⟩
    rw [h3, h4]
    omega
section EN
variable {lo d e a m : Nat} {ps : List (List Int)} {F : Nat → Bool} {M : zM} {Q : Option zV → zM → Prop}
theorem c_addDigit {R S T : Nat → Int} {dg nm : Nat} {x y : Int} (hs : enR M e R S T dg nm) (hdg : dg < 6) (hQ : ∀ M', enR M' e R (zu S dg x) (zu T dg y) (dg + 1) nm → zfr M M' e (e + 4) → Q none M') : zCt lo d kX0_addDigit 0 0 [(Sum.inr (Sum.inl (some (e)))), (Sum.inl (x)), (Sum.inl (y))] M Q := by
  obtain ⟨h1, h2, h3, h4⟩ := id hs
  have r1 : zRr (dg : Int) := zrr (by omega) (by omega)
  have n1 : ∀ c, zup M (e + 2) c e = M e := fun c => zup_ne (by omega)
  have n2 : ∀ c, zup M (e + 2) c (e + 3) = M (e + 3) := fun c => zup_ne (by omega)
  have n3 : ∀ c c', zup (zup M (e + 2) c) (e + 3) c' e = M e := fun c c' => (zup_ne (by omega)).trans (zup_ne (by omega))
  refine zct [some (Sum.inr (Sum.inl (some (e)))), some (Sum.inl (x)), some (Sum.inl (y))] rfl (Nat.le_of_ble_eq_true rfl) (by decide +kernel) rfl ?_
  refine zgo [] ?_
  simp only [↓zX_succ, ↓zstp_nil, ↓zstp_cons, ↓reduceIte, zpu_some, zpu_none, zcs, zg, zst, Nat.reduceAdd, Nat.reduceSub, Nat.reduceMul, Nat.reduceEqDiff, Nat.reduceLeDiff, Nat.reduceLT, Int.reduceToNat, Int.reduceAdd, Int.reduceSub, Int.reduceMul, Int.reduceNeg, Int.reduceLE, Int.reduceLT, Int.reduceEq, Int.cast_ofNat_Int, Int.reduceNatCast', true_and, and_true, and_self, Nat.le_refl, Nat.add_zero, Nat.zero_add, Nat.zero_le, Nat.not_lt_zero, or_true, true_or, or_false, false_or, not_true_eq_false, not_false_eq_true, forall_const, true_implies, false_implies, implies_true, zup_same, zup_zup, Int.toNat_natCast, Nat.reduceDiv, List.length_cons, List.length_nil, Nat.succ_ne_zero, ne_eq, reduceCtorEq, zRl_m6, zRl_m5, zRl_m4, zRl_m3, zRl_m2, zRl_m1, zRl_0, zRl_1, zRl_2, zRl_3, zRl_4, zRl_5, zRl_6, zRl_7, zRl_8, zRl_9, zRl_10, zRl_11, zRl_12, zRl_13, zRl_14, zRl_15, zRl_16, zRl_17, zRl_18, zRl_19, zRl_20, zRl_21, zRl_22, zRl_23, zRl_31, zRl_32, zRl_33, zRl_49, zRl_59, zRl_60, zRl_64, zRl_97, zRl_122, zRl_124, zRl_126, zRl_128, zRl_717809397, zRl_1067285329, zRl_2147483647, o_X0_addDigit, r_X0_addDigit, eX0_addDigit_0, q_aload_0, eX0_addDigit_1, q_getfield, zqg_s, zqv_s, zF_0_21, eX0_addDigit_4, q_bipush, eX0_addDigit_6, q_icmp_ge, eX0_addDigit_9, eX0_addDigit_10, zF_0_15, eX0_addDigit_13, eX0_addDigit_14, eX0_addDigit_17, q_iload_1, eX0_addDigit_18, q_iastore, zqas_s, eX0_addDigit_19, eX0_addDigit_20, zF_0_18, eX0_addDigit_23, eX0_addDigit_24, eX0_addDigit_27, q_iload_2, eX0_addDigit_28, eX0_addDigit_29, eX0_addDigit_30, q_dup_i, q_dup_a, eX0_addDigit_31, eX0_addDigit_34, q_iconst, eX0_addDigit_35, q_iadd, eX0_addDigit_36, q_putfield, q_putfieldR, zqp_s, zqr_s, zqw_s, eX0_addDigit_39, q_return, zqe_s, h1, h2, h3, h4, r1, n1, n2, n3]
  refine ⟨fun q => by omega, fun _ => ⟨by omega, by omega, by omega, by omega, ?_⟩⟩
  refine hQ _ ⟨?_, ?_, ?_, ?_⟩ ?_
  rotate_left 4
  · exact ((zfr_up (by omega) (by omega)).up (by omega) (by omega)).up (by omega) (by omega)
  · rw [zup_same]; simp
  · rw [zup_ne (by omega), zup_ne (by omega), zup_ne (by omega)]; exact h2
  · rw [zup_ne (by omega), zup_ne (by omega)]; exact zup_same
  · rw [zup_ne (by omega)]; exact zup_same
theorem c_isOver (hs : enG M e ps F m) (hd6 : dgs ps ≤ 6) (hm : m ≤ 64) (hQ1 : 2 ^ dgs ps ≤ m → Q (some (Sum.inl (1))) M) (hQ0 : m < 2 ^ dgs ps → Q (some (Sum.inl (0))) M) : zCt lo d kX0_isOver 0 0 [(Sum.inr (Sum.inl (some (e))))] M Q := by
  obtain ⟨R, S, T, ⟨h1, h2, h3, h4⟩, -, -⟩ := hs
  have r1 : zRr (m : Int) := zrr (by omega) (by omega)
  have e1 := zshl1 (dgs ps) (by omega)
  have b1 : 2 ^ dgs ps ≤ 64 := Nat.le_trans (Nat.pow_le_pow_right (n := 2) (by decide) hd6) (by decide)
  generalize 2 ^ dgs ps = K at *
  have r2 : zRr (K : Int) := zrr (by omega) (by omega)
  refine zct [some (Sum.inr (Sum.inl (some (e))))] rfl (Nat.le_of_ble_eq_true rfl) (by decide +kernel) rfl ?_
  refine zgo [] ?_
  simp only [↓zX_succ, ↓zstp_nil, ↓zstp_cons, ↓reduceIte, zpu_some, zpu_none, zcs, zg, zst, Nat.reduceAdd, Nat.reduceSub, Nat.reduceMul, Nat.reduceEqDiff, Nat.reduceLeDiff, Nat.reduceLT, Int.reduceToNat, Int.reduceAdd, Int.reduceSub, Int.reduceMul, Int.reduceNeg, Int.reduceLE, Int.reduceLT, Int.reduceEq, Int.cast_ofNat_Int, Int.reduceNatCast', true_and, and_true, and_self, Nat.le_refl, Nat.add_zero, Nat.zero_add, Nat.zero_le, Nat.not_lt_zero, or_true, true_or, or_false, false_or, not_true_eq_false, not_false_eq_true, forall_const, true_implies, false_implies, implies_true, zup_same, zup_zup, Int.toNat_natCast, Nat.reduceDiv, List.length_cons, List.length_nil, Nat.succ_ne_zero, ne_eq, reduceCtorEq, zRl_m6, zRl_m5, zRl_m4, zRl_m3, zRl_m2, zRl_m1, zRl_0, zRl_1, zRl_2, zRl_3, zRl_4, zRl_5, zRl_6, zRl_7, zRl_8, zRl_9, zRl_10, zRl_11, zRl_12, zRl_13, zRl_14, zRl_15, zRl_16, zRl_17, zRl_18, zRl_19, zRl_20, zRl_21, zRl_22, zRl_23, zRl_31, zRl_32, zRl_33, zRl_49, zRl_59, zRl_60, zRl_64, zRl_97, zRl_122, zRl_124, zRl_126, zRl_128, zRl_717809397, zRl_1067285329, zRl_2147483647, o_X0_isOver, r_X0_isOver, eX0_isOver_0, q_aload_0, eX0_isOver_1, q_getfield, zqg_s, zqv_s, zF_0_25, eX0_isOver_4, q_iconst, eX0_isOver_5, eX0_isOver_6, zF_0_21, eX0_isOver_9, q_ishl, eX0_isOver_10, q_icmp_lt, eX0_isOver_13, eX0_isOver_14, q_goto, eX0_isOver_17, eX0_isOver_18, q_ireturn, zqi_i, zqi_z, h1, r1, e1, r2]
  exact ⟨fun q => hQ0 (by omega), fun q => hQ1 (by omega)⟩
theorem c_step (hs : enG M e ps (flg (dgs ps) m) m) (hd6 : dgs ps ≤ 6) (hn : tln ps ≤ 60) (hm : m < 64) (hQ : ∀ M', enG M' e ps (flg (dgs ps) (m + 1)) (m + 1) → zfr M M' e (e + 4) → Q none M') : zCt lo (d + 1) kX0_step 0 0 [(Sum.inr (Sum.inl (some (e))))] M Q := by
  obtain ⟨R, S, T, ⟨h1, h2, h3, h4⟩, hD, hR⟩ := hs
  have key : ∀ (t : Nat) (M' : zM) (R' : Nat → Int), t ≤ dgs ps → M' e = some (Sum.inl (0, [(Sum.inr (Sum.inl (some (e + 1)))), (Sum.inr (Sum.inl (some (e + 2)))), (Sum.inr (Sum.inl (some (e + 3)))), (Sum.inl ((dgs ps : Int))), (Sum.inl ((m : Int) + 1))])) → M' (e + 1) = some (Sum.inr (0, 60, Sum.inl (R'))) → M' (e + 2) = some (Sum.inr (0, 6, Sum.inl (S))) → M' (e + 3) = some (Sum.inr (0, 6, Sum.inl (T))) → zfr M M' e (e + 4) → (m + 1) % 2 ^ (dgs ps - t) = 0 → tkl R' (tln ps) = rowG ps (fun j => if j < t then flg (dgs ps) m j else flg (dgs ps) (m + 1) j) → zm lo (d + 1) kX0_step 0 0 Q (0, 0) 19 [some (Sum.inr (Sum.inl (some (e)))), some (Sum.inl (((2 ^ (dgs ps - t) : Nat) : Int))), some (Sum.inl ((t : Int) - 1))] [] M' := by
    intro t
    induction t with
    | zero =>
      intro M' R' ht m1 m2 m3 m4 hf hmod hR'
      have r1 : zRr ((0 : Nat) - 1 : Int) := zrr (by omega) (by omega)
      refine zgo [19] ?_
      simp only [↓zX_succ, ↓zstp_nil, ↓zstp_cons, ↓reduceIte, zpu_some, zpu_none, zcs, zg, zst, Nat.reduceAdd, Nat.reduceSub, Nat.reduceMul, Nat.reduceEqDiff, Nat.reduceLeDiff, Nat.reduceLT, Int.reduceToNat, Int.reduceAdd, Int.reduceSub, Int.reduceMul, Int.reduceNeg, Int.reduceLE, Int.reduceLT, Int.reduceEq, Int.cast_ofNat_Int, Int.reduceNatCast', true_and, and_true, and_self, Nat.le_refl, Nat.add_zero, Nat.zero_add, Nat.zero_le, Nat.not_lt_zero, or_true, true_or, or_false, false_or, not_true_eq_false, not_false_eq_true, forall_const, true_implies, false_implies, implies_true, zup_same, zup_zup, Int.toNat_natCast, Nat.reduceDiv, List.length_cons, List.length_nil, Nat.succ_ne_zero, ne_eq, reduceCtorEq, zRl_m6, zRl_m5, zRl_m4, zRl_m3, zRl_m2, zRl_m1, zRl_0, zRl_1, zRl_2, zRl_3, zRl_4, zRl_5, zRl_6, zRl_7, zRl_8, zRl_9, zRl_10, zRl_11, zRl_12, zRl_13, zRl_14, zRl_15, zRl_16, zRl_17, zRl_18, zRl_19, zRl_20, zRl_21, zRl_22, zRl_23, zRl_31, zRl_32, zRl_33, zRl_49, zRl_59, zRl_60, zRl_64, zRl_97, zRl_122, zRl_124, zRl_126, zRl_128, zRl_717809397, zRl_1067285329, zRl_2147483647, o_X0_step, r_X0_step, eX0_step_0, q_aload_0, eX0_step_1, q_dup_i, q_dup_a, eX0_step_2, q_getfield, zqg_s, zqv_s, zF_0_25, eX0_step_5, q_iconst, eX0_step_6, q_iadd, eX0_step_7, q_putfield, q_putfieldR, zqp_s, zqr_s, zqw_s, eX0_step_10, eX0_step_11, q_istore_1n, q_istore_1i, q_istore_1a, eX0_step_12, eX0_step_13, zF_0_21, eX0_step_16, eX0_step_17, q_isub, eX0_step_18, q_istore_2n, q_istore_2i, q_istore_2a, eX0_step_19, q_iload_2, eX0_step_20, q_if_lt, eX0_step_23, eX0_step_24, q_bipush, eX0_step_26, q_icmp_ge, eX0_step_29, eX0_step_30, zF_0_9, eX0_step_33, eX0_step_34, zF_0_15, eX0_step_37, eX0_step_38, q_iaload, zqal_s, eX0_step_39, eX0_step_40, zF_0_18, eX0_step_43, eX0_step_44, eX0_step_45, q_invs, zqst_s, zqst_c, zqcp_s, zqc_s, zC_0_48, o_X6_turnPart, zqcs_3, eX0_step_48, eX0_step_49, eX0_step_52, q_iload_1, eX0_step_53, q_iand, eX0_step_54, q_if_eq, eX0_step_57, q_return, zqe_s, eX0_step_58, eX0_step_59, eX0_step_60, q_imul, eX0_step_61, eX0_step_62, q_iinc_2n, q_iinc_2i, q_iinc_2a, eX0_step_65, q_goto, eX0_step_68, m1, r1]
      refine hQ M' ⟨R', S, T, ⟨?_, m2, m3, m4⟩, hD, ?_⟩ hf
      · rw [m1]; simp
      · rw [hR']
        exact rowG_cg (fun j hj => by rw [if_neg (by omega)])
    | succ t ih =>
      intro M' R' ht m1 m2 m3 m4 hf hmod hR'
      have r1 : zRr (((t + 1 : Nat) : Int) - 1) := zrr (by omega) (by omega)
      have e1 : (((t + 1 : Nat) : Int) - 1).toNat = t := by omega
      obtain ⟨d1, d2⟩ := hD t (by omega)
      have dl := dst_le (ps := ps) (off := 0) (t := t) (by omega)
      refine zgo [19] ?_
      simp only [↓zX_succ, ↓zstp_nil, ↓zstp_cons, ↓reduceIte, zpu_some, zpu_none, zcs, zg, zst, Nat.reduceAdd, Nat.reduceSub, Nat.reduceMul, Nat.reduceEqDiff, Nat.reduceLeDiff, Nat.reduceLT, Int.reduceToNat, Int.reduceAdd, Int.reduceSub, Int.reduceMul, Int.reduceNeg, Int.reduceLE, Int.reduceLT, Int.reduceEq, Int.cast_ofNat_Int, Int.reduceNatCast', true_and, and_true, and_self, Nat.le_refl, Nat.add_zero, Nat.zero_add, Nat.zero_le, Nat.not_lt_zero, or_true, true_or, or_false, false_or, not_true_eq_false, not_false_eq_true, forall_const, true_implies, false_implies, implies_true, zup_same, zup_zup, Int.toNat_natCast, Nat.reduceDiv, List.length_cons, List.length_nil, Nat.succ_ne_zero, ne_eq, reduceCtorEq, zRl_m6, zRl_m5, zRl_m4, zRl_m3, zRl_m2, zRl_m1, zRl_0, zRl_1, zRl_2, zRl_3, zRl_4, zRl_5, zRl_6, zRl_7, zRl_8, zRl_9, zRl_10, zRl_11, zRl_12, zRl_13, zRl_14, zRl_15, zRl_16, zRl_17, zRl_18, zRl_19, zRl_20, zRl_21, zRl_22, zRl_23, zRl_31, zRl_32, zRl_33, zRl_49, zRl_59, zRl_60, zRl_64, zRl_97, zRl_122, zRl_124, zRl_126, zRl_128, zRl_717809397, zRl_1067285329, zRl_2147483647, o_X0_step, r_X0_step, eX0_step_0, q_aload_0, eX0_step_1, q_dup_i, q_dup_a, eX0_step_2, q_getfield, zqg_s, zqv_s, zF_0_25, eX0_step_5, q_iconst, eX0_step_6, q_iadd, eX0_step_7, q_putfield, q_putfieldR, zqp_s, zqr_s, zqw_s, eX0_step_10, eX0_step_11, q_istore_1n, q_istore_1i, q_istore_1a, eX0_step_12, eX0_step_13, zF_0_21, eX0_step_16, eX0_step_17, q_isub, eX0_step_18, q_istore_2n, q_istore_2i, q_istore_2a, eX0_step_19, q_iload_2, eX0_step_20, q_if_lt, eX0_step_23, eX0_step_24, q_bipush, eX0_step_26, q_icmp_ge, eX0_step_29, eX0_step_30, zF_0_9, eX0_step_33, eX0_step_34, zF_0_15, eX0_step_37, eX0_step_38, q_iaload, zqal_s, eX0_step_39, eX0_step_40, zF_0_18, eX0_step_43, eX0_step_44, eX0_step_45, q_invs, zqst_s, zqst_c, zqcp_s, zqc_s, zC_0_48, o_X6_turnPart, zqcs_3, eX0_step_48, eX0_step_49, eX0_step_52, q_iload_1, eX0_step_53, q_iand, eX0_step_54, q_if_eq, eX0_step_57, q_return, zqe_s, eX0_step_58, eX0_step_59, eX0_step_60, q_imul, eX0_step_61, eX0_step_62, q_iinc_2n, q_iinc_2i, q_iinc_2a, eX0_step_65, q_goto, eX0_step_68, m1, m2, m3, m4, r1, e1]
      refine ⟨fun q => by omega, fun _ => ⟨fun q => by omega, fun _ => ⟨by omega, by omega, by omega, by omega, ?_⟩⟩⟩
      rw [d1, d2]
      refine c_turnPart m2 (by omega) (by omega) (by omega) (fun M2 q1 q2 => ?_)
      have m1b : M2 e = _ := (q2 e (by omega)).trans m1
      obtain ⟨X, P, Y, g1, g2, g3, g4⟩ := rowG_tog (ps := ps) (F := fun j => if j < t + 1 then flg (dgs ps) m j else flg (dgs ps) (m + 1) j) (off := 0) (t := t) (by omega)
      have hrow : tkl (zrev R' (dst ps 0 t).1 (dst ps 0 t).2) (tln ps) = rowG ps (fun j => if j < t then flg (dgs ps) m j else flg (dgs ps) (m + 1) j) := by
        rw [tkl_rv (hR'.trans g1) (by omega) (by omega), ← g2]
        refine rowG_cg (fun j hj => ?_)
        simp only [tog]
        by_cases c : j = t
        · subst c
          rw [if_pos rfl, if_pos (by omega), if_neg (by omega)]
          simp only [flg]
          have hk : dgs ps - 1 - j = dgs ps - (j + 1) := by omega
          have hst := nat_step (m := m) (Nat.two_pow_pos (dgs ps - (j + 1)))
          rw [if_pos hmod] at hst
          rw [hk, hst]
          generalize m / 2 ^ (dgs ps - (j + 1)) = x
          by_cases cx : x % 2 = 1
          · rw [decide_eq_true cx, decide_eq_false (by omega)]
            rfl
          · rw [decide_eq_false cx, decide_eq_true (by omega)]
            rfl
        · rw [if_neg c]
          by_cases c2 : j < t
          · rw [if_pos c2, if_pos (by omega)]
          · rw [if_neg c2, if_neg (by omega)]
      have hbit := zand_bit (dgs ps - (t + 1)) (by omega) (m + 1) (by omega)
      rw [show ((m + 1 : Nat) : Int) = (m : Int) + 1 by omega] at hbit
      have r2 : zRr (zand ((m : Int) + 1) ((2 ^ (dgs ps - (t + 1)) : Nat) : Int)) := zand_rr
      refine zgo [19] ?_
      simp only [↓zX_succ, ↓zstp_nil, ↓zstp_cons, ↓reduceIte, zpu_some, zpu_none, zcs, zg, zst, Nat.reduceAdd, Nat.reduceSub, Nat.reduceMul, Nat.reduceEqDiff, Nat.reduceLeDiff, Nat.reduceLT, Int.reduceToNat, Int.reduceAdd, Int.reduceSub, Int.reduceMul, Int.reduceNeg, Int.reduceLE, Int.reduceLT, Int.reduceEq, Int.cast_ofNat_Int, Int.reduceNatCast', true_and, and_true, and_self, Nat.le_refl, Nat.add_zero, Nat.zero_add, Nat.zero_le, Nat.not_lt_zero, or_true, true_or, or_false, false_or, not_true_eq_false, not_false_eq_true, forall_const, true_implies, false_implies, implies_true, zup_same, zup_zup, Int.toNat_natCast, Nat.reduceDiv, List.length_cons, List.length_nil, Nat.succ_ne_zero, ne_eq, reduceCtorEq, zRl_m6, zRl_m5, zRl_m4, zRl_m3, zRl_m2, zRl_m1, zRl_0, zRl_1, zRl_2, zRl_3, zRl_4, zRl_5, zRl_6, zRl_7, zRl_8, zRl_9, zRl_10, zRl_11, zRl_12, zRl_13, zRl_14, zRl_15, zRl_16, zRl_17, zRl_18, zRl_19, zRl_20, zRl_21, zRl_22, zRl_23, zRl_31, zRl_32, zRl_33, zRl_49, zRl_59, zRl_60, zRl_64, zRl_97, zRl_122, zRl_124, zRl_126, zRl_128, zRl_717809397, zRl_1067285329, zRl_2147483647, o_X0_step, r_X0_step, eX0_step_0, q_aload_0, eX0_step_1, q_dup_i, q_dup_a, eX0_step_2, q_getfield, zqg_s, zqv_s, zF_0_25, eX0_step_5, q_iconst, eX0_step_6, q_iadd, eX0_step_7, q_putfield, q_putfieldR, zqp_s, zqr_s, zqw_s, eX0_step_10, eX0_step_11, q_istore_1n, q_istore_1i, q_istore_1a, eX0_step_12, eX0_step_13, zF_0_21, eX0_step_16, eX0_step_17, q_isub, eX0_step_18, q_istore_2n, q_istore_2i, q_istore_2a, eX0_step_19, q_iload_2, eX0_step_20, q_if_lt, eX0_step_23, eX0_step_24, q_bipush, eX0_step_26, q_icmp_ge, eX0_step_29, eX0_step_30, zF_0_9, eX0_step_33, eX0_step_34, zF_0_15, eX0_step_37, eX0_step_38, q_iaload, zqal_s, eX0_step_39, eX0_step_40, zF_0_18, eX0_step_43, eX0_step_44, eX0_step_45, q_invs, zqst_s, zqst_c, zqcp_s, zqc_s, zC_0_48, o_X6_turnPart, zqcs_3, eX0_step_48, eX0_step_49, eX0_step_52, q_iload_1, eX0_step_53, q_iand, eX0_step_54, q_if_eq, eX0_step_57, q_return, zqe_s, eX0_step_58, eX0_step_59, eX0_step_60, q_imul, eX0_step_61, eX0_step_62, q_iinc_2n, q_iinc_2i, q_iinc_2a, eX0_step_65, q_goto, eX0_step_68, m1b, r2]
      refine ⟨fun q => ?_, fun q => ?_⟩
      · -- the digit has come back to 0: the next one
        have hb := hbit.mp q
        have hpw : ((2 ^ (dgs ps - (t + 1)) : Nat) : Int) * 2 = ((2 ^ (dgs ps - t) : Nat) : Int) := by
          rw [show dgs ps - t = dgs ps - (t + 1) + 1 by omega, Nat.pow_succ]
          simp
        rw [hpw, show ((t + 1 : Nat) : Int) - 1 + -1 = (t : Int) - 1 by omega]
        refine ih M2 _ (by omega) m1b q1 ((q2 _ (by omega)).trans m3) ((q2 _ (by omega)).trans m4) (hf.tr (q2.mono (by omega) (by omega))) ?_ hrow
        rw [show dgs ps - t = dgs ps - (t + 1) + 1 by omega, mod_pow_s]
        exact ⟨hmod, by omega⟩
      · have hb : (m + 1) / 2 ^ (dgs ps - (t + 1)) % 2 = 1 := by
          by_cases c : (m + 1) / 2 ^ (dgs ps - (t + 1)) % 2 = 1
          · exact c
          · exact absurd (hbit.mpr c) q
        refine hQ M2 ⟨_, S, T, ⟨?_, q1, (q2 _ (by omega)).trans m3, (q2 _ (by omega)).trans m4⟩, hD, ?_⟩ (hf.tr (q2.mono (by omega) (by omega)))
        · rw [m1b]; simp
        · rw [hrow]
          refine rowG_cg (fun j hj => ?_)
          by_cases c : j < t
          · rw [if_pos c]
            have hz : ∀ s, (m + 1) % 2 ^ (dgs ps - (t + 1) + 1 + s) ≠ 0 := by
              intro s
              induction s with
              | zero => rw [Nat.add_zero, Ne, mod_pow_s]; omega
              | succ s ihs => rw [← Nat.add_assoc, Ne, mod_pow_s]; omega
            have hne := hz (t - 1 - j)
            rw [show dgs ps - (t + 1) + 1 + (t - 1 - j) = dgs ps - 1 - j by omega] at hne
            have hst := nat_step (m := m) (Nat.two_pow_pos (dgs ps - 1 - j))
            rw [if_neg hne] at hst
            simp only [flg]
            rw [hst]
          · rw [if_neg c]
  refine zct [some (Sum.inr (Sum.inl (some (e)))), none, none] rfl (Nat.le_of_ble_eq_true rfl) (by decide +kernel) rfl ?_
  have n1 : ∀ c, zup M e c e = some c := fun c => zup_same
  refine zgo [19] ?_
  simp only [↓zX_succ, ↓zstp_nil, ↓zstp_cons, ↓reduceIte, zpu_some, zpu_none, zcs, zg, zst, Nat.reduceAdd, Nat.reduceSub, Nat.reduceMul, Nat.reduceEqDiff, Nat.reduceLeDiff, Nat.reduceLT, Int.reduceToNat, Int.reduceAdd, Int.reduceSub, Int.reduceMul, Int.reduceNeg, Int.reduceLE, Int.reduceLT, Int.reduceEq, Int.cast_ofNat_Int, Int.reduceNatCast', true_and, and_true, and_self, Nat.le_refl, Nat.add_zero, Nat.zero_add, Nat.zero_le, Nat.not_lt_zero, or_true, true_or, or_false, false_or, not_true_eq_false, not_false_eq_true, forall_const, true_implies, false_implies, implies_true, zup_same, zup_zup, Int.toNat_natCast, Nat.reduceDiv, List.length_cons, List.length_nil, Nat.succ_ne_zero, ne_eq, reduceCtorEq, zRl_m6, zRl_m5, zRl_m4, zRl_m3, zRl_m2, zRl_m1, zRl_0, zRl_1, zRl_2, zRl_3, zRl_4, zRl_5, zRl_6, zRl_7, zRl_8, zRl_9, zRl_10, zRl_11, zRl_12, zRl_13, zRl_14, zRl_15, zRl_16, zRl_17, zRl_18, zRl_19, zRl_20, zRl_21, zRl_22, zRl_23, zRl_31, zRl_32, zRl_33, zRl_49, zRl_59, zRl_60, zRl_64, zRl_97, zRl_122, zRl_124, zRl_126, zRl_128, zRl_717809397, zRl_1067285329, zRl_2147483647, o_X0_step, r_X0_step, eX0_step_0, q_aload_0, eX0_step_1, q_dup_i, q_dup_a, eX0_step_2, q_getfield, zqg_s, zqv_s, zF_0_25, eX0_step_5, q_iconst, eX0_step_6, q_iadd, eX0_step_7, q_putfield, q_putfieldR, zqp_s, zqr_s, zqw_s, eX0_step_10, eX0_step_11, q_istore_1n, q_istore_1i, q_istore_1a, eX0_step_12, eX0_step_13, zF_0_21, eX0_step_16, eX0_step_17, q_isub, eX0_step_18, q_istore_2n, q_istore_2i, q_istore_2a, eX0_step_19, q_iload_2, eX0_step_20, q_if_lt, eX0_step_23, eX0_step_24, q_bipush, eX0_step_26, q_icmp_ge, eX0_step_29, eX0_step_30, zF_0_9, eX0_step_33, eX0_step_34, zF_0_15, eX0_step_37, eX0_step_38, q_iaload, zqal_s, eX0_step_39, eX0_step_40, zF_0_18, eX0_step_43, eX0_step_44, eX0_step_45, q_invs, zqst_s, zqst_c, zqcp_s, zqc_s, zC_0_48, o_X6_turnPart, zqcs_3, eX0_step_48, eX0_step_49, eX0_step_52, q_iload_1, eX0_step_53, q_iand, eX0_step_54, q_if_eq, eX0_step_57, q_return, zqe_s, eX0_step_58, eX0_step_59, eX0_step_60, q_imul, eX0_step_61, eX0_step_62, q_iinc_2n, q_iinc_2i, q_iinc_2a, eX0_step_65, q_goto, eX0_step_68, h1]
  have k0 := key (dgs ps) (zup M e (Sum.inl (0, [(Sum.inr (Sum.inl (some (e + 1)))), (Sum.inr (Sum.inl (some (e + 2)))), (Sum.inr (Sum.inl (some (e + 3)))), (Sum.inl ((dgs ps : Int))), (Sum.inl ((m : Int) + 1))]))) R (Nat.le_refl _) zup_same (by rw [zup_ne (by omega)]; exact h2) (by rw [zup_ne (by omega)]; exact h3) (by rw [zup_ne (by omega)]; exact h4) (zfr_up (by omega) (by omega)) (by rw [Nat.sub_self]; exact Nat.mod_one _) (by rw [hR]; exact rowG_cg (fun j hj => by rw [if_pos hj]))
  rw [Nat.sub_self] at k0
  exact k0
end EN
