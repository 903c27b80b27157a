theorem chR_z {u : Nat} : ∀ (m i many : Nat), (∀ j, i ≤ j → j < i + m → cdN u j = 0) → chR u m i many = many
  | 0, i, many, _ => rfl
  | m + 1, i, many, h => by
    rw [chR, if_pos (h i (Nat.le_refl _) (by omega))]
    exact chR_z m (i + 1) many (fun j h1 h2 => h j (by omega) (by omega))
theorem chR_g {u : Nat} : ∀ (n m i : Nat), (∀ j, i ≤ j → j < i + n → 33 ≤ cdN u j ∧ cdN u j ≤ 126) → chR u (n + m) i i = chR u m (i + n) (i + n)
  | 0, m, i, _ => by rw [Nat.zero_add, Nat.add_zero]
  | n + 1, m, i, h => by
    have h0 := h i (Nat.le_refl _) (by omega)
    rw [show n + 1 + m = (n + m) + 1 by omega, chR, if_neg (by omega), if_neg (by omega), chR_g n m (i + 1) (fun j h1 h2 => h j (by omega) (by omega)), show i + 1 + n = i + (n + 1) by omega]
theorem chR_l {u : Nat} : ∀ (m i many : Nat), many < i → (∃ j, i ≤ j ∧ j < i + m ∧ cdN u j ≠ 0) → chR u m i many = 0
  | 0, i, many, _, ⟨j, h1, h2, _⟩ => by omega
  | m + 1, i, many, hm, ⟨j, h1, h2, h3⟩ => by
    rw [chR]
    by_cases c : cdN u i = 0
    · rw [if_pos c]
      exact chR_l m (i + 1) many (by omega) ⟨j, by
        by_cases e : j = i
        · subst e; exact absurd c h3
        · omega, by omega, h3⟩
    · rw [if_neg c, if_pos (by omega)]
theorem chR_b {u j : Nat} : ∀ (m i many : Nat), i ≤ j → j < i + m → (∀ k, i ≤ k → k ≤ j → cdN u k ≠ 0) → ¬ (33 ≤ cdN u j ∧ cdN u j ≤ 126) → chR u m i many = 0
  | 0, i, many, h1, h2, _, _ => by omega
  | m + 1, i, many, h1, h2, h3, h4 => by
    rw [chR, if_neg (h3 i (Nat.le_refl _) h1)]
    by_cases c : cdN u i < 33 ∨ 126 < cdN u i ∨ many ≠ i
    · rw [if_pos c]
    · rw [if_neg c]
      refine chR_b m (i + 1) (many + 1) ?_ (by omega) (fun k a b => h3 k (by omega) b) h4
      by_cases e : i = j
      · subst e; omega
      · omega
theorem cd_rest {u : Nat} (hu : u < 2 ^ 64) : ∀ (n s : Nat), s + n = 8 → ((∃ j, s ≤ j ∧ j < 8 ∧ cdN u j ≠ 0) ↔ u / 2 ^ (8 * s) ≠ 0)
  | 0, s, h => by
    have : s = 8 := by omega
    subst this
    rw [Nat.div_eq_of_lt (by exact hu)]
    exact ⟨fun ⟨j, a, b, _⟩ => by omega, fun h => absurd rfl h⟩
  | n + 1, s, h => by
    have ih := cd_rest hu n (s + 1) (by omega)
    have e : u / 2 ^ (8 * (s + 1)) = u / 2 ^ (8 * s) / 256 := by
      rw [Nat.div_div_eq_div_mul, show 8 * (s + 1) = 8 * s + 8 by omega, Nat.pow_add]
    rw [e] at ih
    have es : cdN u s = u / 2 ^ (8 * s) % 256 := rfl
    generalize u / 2 ^ (8 * s) = w at *
    constructor
    · rintro ⟨j, a, b, c⟩
      by_cases ej : j = s
      · subst ej; omega
      · have := ih.mp ⟨j, by omega, b, c⟩
        omega
    · intro hw
      by_cases c : cdN u s = 0
      · obtain ⟨j, a, b, c⟩ := ih.mpr (by omega)
        exact ⟨j, by omega, b, c⟩
      · exact ⟨s, Nat.le_refl _, by omega, c⟩
theorem chN_spec {u s : Nat} (hu : u < 2 ^ 64) (hs : s ≤ 8) (hz : ∀ i, i < s → cdN u i ≠ 0) (h0 : s = 8 ∨ cdN u s = 0) : chN u = if s = 0 ∨ ¬ (∀ i, i < s → 33 ≤ cdN u i ∧ cdN u i ≤ 126) ∨ u / 2 ^ (8 * s) ≠ 0 then 0 else s := by
  have hrs := cd_rest hu (8 - s) s (by omega)
  by_cases cb : ∀ i, i < s → 33 ≤ cdN u i ∧ cdN u i ≤ 126
  · have e1 : chN u = chR u (8 - s) s s := by
      have := chR_g (u := u) s (8 - s) 0 (fun j _ h => cb j (by omega))
      rw [show s + (8 - s) = 8 by omega, Nat.zero_add] at this
      exact this
    by_cases cr : u / 2 ^ (8 * s) ≠ 0
    · rw [if_pos (Or.inr (Or.inr cr)), e1]
      obtain ⟨j, a, b, c⟩ := hrs.mpr cr
      rcases h0 with h0 | h0
      · omega
      · rw [show 8 - s = (7 - s) + 1 by omega, chR, if_pos h0]
        refine chR_l (7 - s) (s + 1) s (by omega) ⟨j, ?_, by omega, c⟩
        by_cases e : j = s
        · subst e; exact absurd h0 c
        · omega
    · rw [e1, chR_z (8 - s) s s (fun j h1 h2 => by
        by_cases c : cdN u j = 0
        · exact c
        · exact absurd (hrs.mp ⟨j, h1, by omega, c⟩) cr)]
      by_cases c0 : s = 0
      · rw [if_pos (Or.inl c0)]; exact c0
      · rw [if_neg (fun h => by rcases h with h | h | h; exact c0 h; exact h cb; exact cr h)]
  · rw [if_pos (Or.inr (Or.inl cb))]
    have : ∃ j, j < s ∧ ¬ (33 ≤ cdN u j ∧ cdN u j ≤ 126) := by
      apply Classical.byContradiction
      intro h
      exact cb (fun i hi => Classical.byContradiction (fun h2 => h ⟨i, hi, h2⟩))
    obtain ⟨j, hj, hb⟩ := this
    exact chR_b 8 0 0 (Nat.zero_le _) (by omega) (fun k _ hk => hz k (by omega)) hb
theorem u64_and (r : Int64) : u64 (r &&& 255) = u64 r % 256 := by
  have h2 : (r &&& 255).toBitVec.toNat = r.toUInt64.toNat % 256 := by
    rw [Int64.toBitVec_and, BitVec.toNat_and]
    exact Nat.and_two_pow_sub_one_eq_mod r.toUInt64.toNat 8
  exact h2
theorem u64_0 (r : Int64) : r = 0 ↔ u64 r = 0 := by
  constructor
  · rintro rfl; rfl
  · intro h
    apply Int64.toBitVec_inj.mp
    apply BitVec.eq_of_toNat_eq
    exact h
theorem lc_z (x : Int64) : (lg_cmp x 0).toInt = 0 ↔ u64 x = 0 := by
  rw [← u64_0, ← lg_cmp_eq]
  constructor
  · intro h; exact Int32.toInt_inj.mp h
  · intro h; rw [h]; rfl
theorem lc_r (x y : Int64) : zRr (lg_cmp x y).toInt := by
  unfold lg_cmp
  repeat' split
  all_goals exact zrr (by decide) (by decide)
theorem u64_lt (c : Int64) : u64 c < 2 ^ 64 := c.toUInt64.toNat_lt
theorem lc0 : Int64.ofNat ((0 : Fin 2).val) = 0 := rfl
section MV
variable {lo d m : Nat} {A : aS} {M : zM}
theorem m_put {c : Int64} (hd : mdG M m A) (hw : wfA A) : zMb lo (d + 8) kX7_put m [(Sum.inr (Sum.inr (c)))] M (oPut A (u64 c)) := by
  intro Q hQ
  obtain ⟨⟨pt, mn, ln, om, ol, ho⟩, hps, hk⟩ := id hd
  have ho' := ho
  unfold mOb at ho
  obtain ⟨⟨S, h1, h2⟩, ⟨G, h3, h4⟩, ⟨L, h5, h6⟩, ⟨V, h7, h8⟩, P, h9, h10⟩ := id hps
  have hpn := hw.2.1.1
  have hul := u64_lt c
  -- the characters go to the pad
  have lay : ∀ (s : Nat) (r : Int64) (b : Bool) (i t : Nat) (M' : zM) (P' : Nat → Int), s ≤ 8 → A.2.1.1 + s ≤ 64 → chN (u64 c) = s → s ≠ 0 → i + t = s → mOb M' m (A.2.2.1.1 : Int) ((A.2.1.1 + t : Nat) : Int) pt mn ln om ol → M' (m + 5) = some (Sum.inr (0, 64, Sum.inl (P'))) → (∀ j, j < A.2.1.1 + t → P' j = ptC A.2.1.1 A.2.1.2 s (u64 c) j) → (∀ q, q ≠ m → q ≠ m + 5 → M' q = M q) → zm lo (d + 8) kX7_put 0 0 Q (0, 0) 105 [some (Sum.inr (Sum.inl (some (m)))), some (Sum.inr (Sum.inr (c))), none, some (Sum.inl ((s : Int))), some (Sum.inr (Sum.inr (r))), none, some (Sum.inl (zb b)), some (Sum.inl ((i : Int) - 1))] [] M' := by
    intro s r b i
    induction i with
    | zero =>
      intro t M' P' hs h64 hc hs0 hi w1 g1 g2 g3
      have et : t = s := by omega
      subst et
      have n1 : M' m = _ := w1
      unfold mOb at n1
      have rv : zRr (((0 : Nat) : Int) - 1) := zrr (by decide) (by decide)
      rw [oPut, hc, if_neg hs0, if_neg (by omega)] at hQ
      refine zgo [8, 67, 105] ?_
      simp only [↓zX_succ, ↓zstp_nil, ↓zstp_cons, ↓reduceIte, zpu_some, zpu_none, zcs, zg, zst, Nat.reduceAdd, Nat.reduceSub, Nat.reduceMul, Nat.reduceEqDiff, Nat.reduceLeDiff, Nat.reduceLT, Int.reduceToNat, Int.reduceAdd, Int.reduceSub, Int.reduceMul, Int.reduceNeg, Int.reduceLE, Int.reduceLT, Int.reduceEq, Int.cast_ofNat_Int, Int.reduceNatCast', true_and, and_true, and_self, Nat.le_refl, Nat.add_zero, Nat.zero_add, Nat.zero_le, Nat.not_lt_zero, or_true, true_or, or_false, false_or, not_true_eq_false, not_false_eq_true, forall_const, true_implies, false_implies, implies_true, zup_same, zup_zup, Int.toNat_natCast, Nat.reduceDiv, List.length_cons, List.length_nil, Nat.succ_ne_zero, ne_eq, reduceCtorEq, zRl_m6, zRl_m5, zRl_m4, zRl_m3, zRl_m2, zRl_m1, zRl_0, zRl_1, zRl_2, zRl_3, zRl_4, zRl_5, zRl_6, zRl_7, zRl_8, zRl_12, zRl_31, zRl_32, zRl_33, zRl_59, zRl_60, zRl_64, zRl_67, zRl_97, zRl_122, zRl_124, zRl_126, zRl_128, zRl_336, zRl_672, zRl_1680, zRl_2016, zRl_7680, o_X7_put, r_X7_put, eX7_put_0, q_iconst, eX7_put_1, q_istore_3n, q_istore_3i, q_istore_3a, eX7_put_2, q_lload_1, eX7_put_3, q_lstore_4n, q_lstore_4i, q_lstore_4a, eX7_put_5, eX7_put_6, q_istore_6n, q_istore_6i, q_istore_6a, eX7_put_8, q_iload_3, eX7_put_9, q_bipush, eX7_put_11, q_icmp_ge, eX7_put_14, q_lload_4, eX7_put_16, q_ldc2, zql_s, zL_7_192, eX7_put_19, q_land, eX7_put_20, q_lconst, eX7_put_21, q_lcmp, eX7_put_22, q_if_eq, eX7_put_25, q_iload_6, eX7_put_27, eX7_put_30, eX7_put_32, eX7_put_35, eX7_put_36, q_l2i, eX7_put_37, eX7_put_39, eX7_put_41, q_invs, zqst_s, zqst_c, zqcp_s, zqc_s, zC_7_54, o_X7_within, zqcs_3, eX7_put_44, eX7_put_47, eX7_put_48, q_goto, eX7_put_51, eX7_put_52, eX7_put_54, eX7_put_56, eX7_put_58, q_lushr, eX7_put_59, eX7_put_61, q_iinc_3n, q_iinc_3i, q_iinc_3a, eX7_put_64, eX7_put_67, eX7_put_68, eX7_put_71, eX7_put_73, eX7_put_76, eX7_put_78, eX7_put_79, eX7_put_80, eX7_put_83, eX7_put_85, q_ireturn, zqi_i, zqi_z, eX7_put_86, q_aload_0, eX7_put_87, q_getfield, zqg_s, zqv_s, zF_7_109, eX7_put_90, eX7_put_91, q_iadd, eX7_put_92, eX7_put_94, q_icmp_le, eX7_put_97, eX7_put_99, eX7_put_100, eX7_put_101, eX7_put_102, q_isub, eX7_put_103, q_istore_7n, q_istore_7i, q_istore_7a, eX7_put_105, q_iload_7, eX7_put_107, q_if_lt, eX7_put_110, eX7_put_111, zF_7_22, eX7_put_114, eX7_put_115, eX7_put_118, eX7_put_119, eX7_put_121, eX7_put_123, q_imul, eX7_put_124, eX7_put_125, eX7_put_128, eX7_put_129, eX7_put_130, q_iastore, zqas_s, eX7_put_131, eX7_put_132, q_dup_i, q_dup_a, eX7_put_133, eX7_put_136, eX7_put_137, eX7_put_138, q_putfield, q_putfieldR, zqp_s, zqr_s, zqw_s, eX7_put_141, q_iinc_7n, q_iinc_7i, q_iinc_7a, eX7_put_144, eX7_put_147, eX7_put_148, eX7_put_151, rv, n1]
      exact hQ M' ⟨⟨_, _, _, _, _, w1⟩, ⟨⟨S, (g3 _ (by omega) (by omega)).trans h1, h2⟩, ⟨G, (g3 _ (by omega) (by omega)).trans h3, h4⟩, ⟨L, (g3 _ (by omega) (by omega)).trans h5, h6⟩, ⟨V, (g3 _ (by omega) (by omega)).trans h7, h8⟩, P', g1, g2⟩, hk.fw (fun q a1 a2 => g3 q (by omega) (by omega))⟩ (fun q hq => g3 q (by omega) (by omega))
    | succ i ih =>
      intro t M' P' hs h64 hc hs0 hi w1 g1 g2 g3
      have n1 : M' m = _ := w1
      unfold mOb at n1
      have e1 : ((i + 1 : Nat) : Int) - 1 = (i : Int) := by omega
      rw [e1]
      have ri : zRr (i : Int) := zrr (by omega) (by omega)
      have ri1 : zRr ((i : Int) + -1) := zrr (by omega) (by omega)
      have f1 : ((i : Int) < 0) = False := eq_false (by omega)
      have r8 : zRr (8 * (i : Int)) := zrr (by omega) (by omega)
      have rp : zRr (((A.2.1.1 + t : Nat) : Int) + 1) := zrr (by omega) (by omega)
      have d1 : ∀ x, zup M' (m + 5) x m = M' m := fun x => zup_ne (by omega)
      refine zgo [8, 67, 105] ?_
      simp only [↓zX_succ, ↓zstp_nil, ↓zstp_cons, ↓reduceIte, zpu_some, zpu_none, zcs, zg, zst, Nat.reduceAdd, Nat.reduceSub, Nat.reduceMul, Nat.reduceEqDiff, Nat.reduceLeDiff, Nat.reduceLT, Int.reduceToNat, Int.reduceAdd, Int.reduceSub, Int.reduceMul, Int.reduceNeg, Int.reduceLE, Int.reduceLT, Int.reduceEq, Int.cast_ofNat_Int, Int.reduceNatCast', true_and, and_true, and_self, Nat.le_refl, Nat.add_zero, Nat.zero_add, Nat.zero_le, Nat.not_lt_zero, or_true, true_or, or_false, false_or, not_true_eq_false, not_false_eq_true, forall_const, true_implies, false_implies, implies_true, zup_same, zup_zup, Int.toNat_natCast, Nat.reduceDiv, List.length_cons, List.length_nil, Nat.succ_ne_zero, ne_eq, reduceCtorEq, zRl_m6, zRl_m5, zRl_m4, zRl_m3, zRl_m2, zRl_m1, zRl_0, zRl_1, zRl_2, zRl_3, zRl_4, zRl_5, zRl_6, zRl_7, zRl_8, zRl_12, zRl_31, zRl_32, zRl_33, zRl_59, zRl_60, zRl_64, zRl_67, zRl_97, zRl_122, zRl_124, zRl_126, zRl_128, zRl_336, zRl_672, zRl_1680, zRl_2016, zRl_7680, o_X7_put, r_X7_put, eX7_put_0, q_iconst, eX7_put_1, q_istore_3n, q_istore_3i, q_istore_3a, eX7_put_2, q_lload_1, eX7_put_3, q_lstore_4n, q_lstore_4i, q_lstore_4a, eX7_put_5, eX7_put_6, q_istore_6n, q_istore_6i, q_istore_6a, eX7_put_8, q_iload_3, eX7_put_9, q_bipush, eX7_put_11, q_icmp_ge, eX7_put_14, q_lload_4, eX7_put_16, q_ldc2, zql_s, zL_7_192, eX7_put_19, q_land, eX7_put_20, q_lconst, eX7_put_21, q_lcmp, eX7_put_22, q_if_eq, eX7_put_25, q_iload_6, eX7_put_27, eX7_put_30, eX7_put_32, eX7_put_35, eX7_put_36, q_l2i, eX7_put_37, eX7_put_39, eX7_put_41, q_invs, zqst_s, zqst_c, zqcp_s, zqc_s, zC_7_54, o_X7_within, zqcs_3, eX7_put_44, eX7_put_47, eX7_put_48, q_goto, eX7_put_51, eX7_put_52, eX7_put_54, eX7_put_56, eX7_put_58, q_lushr, eX7_put_59, eX7_put_61, q_iinc_3n, q_iinc_3i, q_iinc_3a, eX7_put_64, eX7_put_67, eX7_put_68, eX7_put_71, eX7_put_73, eX7_put_76, eX7_put_78, eX7_put_79, eX7_put_80, eX7_put_83, eX7_put_85, q_ireturn, zqi_i, zqi_z, eX7_put_86, q_aload_0, eX7_put_87, q_getfield, zqg_s, zqv_s, zF_7_109, eX7_put_90, eX7_put_91, q_iadd, eX7_put_92, eX7_put_94, q_icmp_le, eX7_put_97, eX7_put_99, eX7_put_100, eX7_put_101, eX7_put_102, q_isub, eX7_put_103, q_istore_7n, q_istore_7i, q_istore_7a, eX7_put_105, q_iload_7, eX7_put_107, q_if_lt, eX7_put_110, eX7_put_111, zF_7_22, eX7_put_114, eX7_put_115, eX7_put_118, eX7_put_119, eX7_put_121, eX7_put_123, q_imul, eX7_put_124, eX7_put_125, eX7_put_128, eX7_put_129, eX7_put_130, q_iastore, zqas_s, eX7_put_131, eX7_put_132, q_dup_i, q_dup_a, eX7_put_133, eX7_put_136, eX7_put_137, eX7_put_138, q_putfield, q_putfieldR, zqp_s, zqr_s, zqw_s, eX7_put_141, q_iinc_7n, q_iinc_7i, q_iinc_7a, eX7_put_144, eX7_put_147, eX7_put_148, eX7_put_151, ri, f1, n1, g1, r8, d1, rp, ri1]
      refine ⟨by omega, by omega, ?_⟩
      rw [and_255, shr_8 c i (by omega), show (i : Int) + -1 = (i : Int) - 1 by omega]
      have w0 := mOb.rr (M := zup M' (m + 5) (Sum.inr (0, 64, Sum.inl (zu P' (A.2.1.1 + t) ((u64 c / 2 ^ (8 * i) % 256 : Nat) : Int))))) (m := m) ((d1 _).trans n1) (A.2.2.1.1 : Int) (((A.2.1.1 + t : Nat) : Int) + 1) pt mn ln om ol
      refine ih (t + 1) _ (zu P' (A.2.1.1 + t) ((u64 c / 2 ^ (8 * i) % 256 : Nat) : Int)) hs h64 hc hs0 (by omega) ?_ ?_ ?_ ?_
      · rw [← Nat.add_assoc, Int.natCast_add (A.2.1.1 + t) 1]; exact w0
      · rw [zup_ne (by omega)]; exact zup_same
      · intro j hj
        by_cases cj : j = A.2.1.1 + t
        · subst cj
          rw [zu_same, ptC, if_neg (by omega), Nat.add_sub_cancel_left, show s - 1 - t = i by omega, cdN]
        · rw [zu_ne cj]
          exact g2 j (by omega)
      · intro q a1 a2
        rw [zup_ne a1, zup_ne a2]; exact g3 q a1 a2
  have fin : ∀ (s : Nat) (r : Int64) (b : Bool), s ≤ 8 → u64 r = u64 c / 2 ^ (8 * s) → (b = true ↔ ∀ i, i < s → 33 ≤ cdN (u64 c) i ∧ cdN (u64 c) i ≤ 126) → (∀ i, i < s → cdN (u64 c) i ≠ 0) → (s = 8 ∨ cdN (u64 c) s = 0) → zm lo (d + 8) kX7_put 0 0 Q (0, 0) 67 [some (Sum.inr (Sum.inl (some (m)))), some (Sum.inr (Sum.inr (c))), none, some (Sum.inl ((s : Int))), some (Sum.inr (Sum.inr (r))), none, some (Sum.inl (zb b)), none] [] M := by
    intro s r b hs hr hb hz h0
    have sp := chN_spec hul hs hz h0
    have rs : zRr (s : Int) := zrr (by omega) (by omega)
    have rc := lc_r r 0
    by_cases c0 : s = 0
    · rw [if_pos (Or.inl c0)] at sp
      rw [oPut, if_pos sp] at hQ
      have f1 : ((s : Int) = 0) = True := eq_true (by omega)
      refine zgo [8, 67, 105] ?_
      simp only [↓zX_succ, ↓zstp_nil, ↓zstp_cons, ↓reduceIte, zpu_some, zpu_none, zcs, zg, zst, Nat.reduceAdd, Nat.reduceSub, Nat.reduceMul, Nat.reduceEqDiff, Nat.reduceLeDiff, Nat.reduceLT, Int.reduceToNat, Int.reduceAdd, Int.reduceSub, Int.reduceMul, Int.reduceNeg, Int.reduceLE, Int.reduceLT, Int.reduceEq, Int.cast_ofNat_Int, Int.reduceNatCast', true_and, and_true, and_self, Nat.le_refl, Nat.add_zero, Nat.zero_add, Nat.zero_le, Nat.not_lt_zero, or_true, true_or, or_false, false_or, not_true_eq_false, not_false_eq_true, forall_const, true_implies, false_implies, implies_true, zup_same, zup_zup, Int.toNat_natCast, Nat.reduceDiv, List.length_cons, List.length_nil, Nat.succ_ne_zero, ne_eq, reduceCtorEq, zRl_m6, zRl_m5, zRl_m4, zRl_m3, zRl_m2, zRl_m1, zRl_0, zRl_1, zRl_2, zRl_3, zRl_4, zRl_5, zRl_6, zRl_7, zRl_8, zRl_12, zRl_31, zRl_32, zRl_33, zRl_59, zRl_60, zRl_64, zRl_67, zRl_97, zRl_122, zRl_124, zRl_126, zRl_128, zRl_336, zRl_672, zRl_1680, zRl_2016, zRl_7680, o_X7_put, r_X7_put, eX7_put_0, q_iconst, eX7_put_1, q_istore_3n, q_istore_3i, q_istore_3a, eX7_put_2, q_lload_1, eX7_put_3, q_lstore_4n, q_lstore_4i, q_lstore_4a, eX7_put_5, eX7_put_6, q_istore_6n, q_istore_6i, q_istore_6a, eX7_put_8, q_iload_3, eX7_put_9, q_bipush, eX7_put_11, q_icmp_ge, eX7_put_14, q_lload_4, eX7_put_16, q_ldc2, zql_s, zL_7_192, eX7_put_19, q_land, eX7_put_20, q_lconst, eX7_put_21, q_lcmp, eX7_put_22, q_if_eq, eX7_put_25, q_iload_6, eX7_put_27, eX7_put_30, eX7_put_32, eX7_put_35, eX7_put_36, q_l2i, eX7_put_37, eX7_put_39, eX7_put_41, q_invs, zqst_s, zqst_c, zqcp_s, zqc_s, zC_7_54, o_X7_within, zqcs_3, eX7_put_44, eX7_put_47, eX7_put_48, q_goto, eX7_put_51, eX7_put_52, eX7_put_54, eX7_put_56, eX7_put_58, q_lushr, eX7_put_59, eX7_put_61, q_iinc_3n, q_iinc_3i, q_iinc_3a, eX7_put_64, eX7_put_67, eX7_put_68, eX7_put_71, eX7_put_73, eX7_put_76, eX7_put_78, eX7_put_79, eX7_put_80, eX7_put_83, eX7_put_85, q_ireturn, zqi_i, zqi_z, eX7_put_86, q_aload_0, eX7_put_87, q_getfield, zqg_s, zqv_s, zF_7_109, eX7_put_90, eX7_put_91, q_iadd, eX7_put_92, eX7_put_94, q_icmp_le, eX7_put_97, eX7_put_99, eX7_put_100, eX7_put_101, eX7_put_102, q_isub, eX7_put_103, q_istore_7n, q_istore_7i, q_istore_7a, eX7_put_105, q_iload_7, eX7_put_107, q_if_lt, eX7_put_110, eX7_put_111, zF_7_22, eX7_put_114, eX7_put_115, eX7_put_118, eX7_put_119, eX7_put_121, eX7_put_123, q_imul, eX7_put_124, eX7_put_125, eX7_put_128, eX7_put_129, eX7_put_130, q_iastore, zqas_s, eX7_put_131, eX7_put_132, q_dup_i, q_dup_a, eX7_put_133, eX7_put_136, eX7_put_137, eX7_put_138, q_putfield, q_putfieldR, zqp_s, zqr_s, zqw_s, eX7_put_141, q_iinc_7n, q_iinc_7i, q_iinc_7a, eX7_put_144, eX7_put_147, eX7_put_148, eX7_put_151, rs, f1]
      exact hQ M hd zfr_rf
    have f1 : ((s : Int) = 0) = False := eq_false (by omega)
    cases b with
    | false =>
      rw [if_pos (Or.inr (Or.inl (fun h => (by cases hb.mpr h))))] at sp
      rw [oPut, if_pos sp] at hQ
      refine zgo [8, 67, 105] ?_
      simp only [↓zX_succ, ↓zstp_nil, ↓zstp_cons, ↓reduceIte, zpu_some, zpu_none, zcs, zg, zst, Nat.reduceAdd, Nat.reduceSub, Nat.reduceMul, Nat.reduceEqDiff, Nat.reduceLeDiff, Nat.reduceLT, Int.reduceToNat, Int.reduceAdd, Int.reduceSub, Int.reduceMul, Int.reduceNeg, Int.reduceLE, Int.reduceLT, Int.reduceEq, Int.cast_ofNat_Int, Int.reduceNatCast', true_and, and_true, and_self, Nat.le_refl, Nat.add_zero, Nat.zero_add, Nat.zero_le, Nat.not_lt_zero, or_true, true_or, or_false, false_or, not_true_eq_false, not_false_eq_true, forall_const, true_implies, false_implies, implies_true, zup_same, zup_zup, Int.toNat_natCast, Nat.reduceDiv, List.length_cons, List.length_nil, Nat.succ_ne_zero, ne_eq, reduceCtorEq, zRl_m6, zRl_m5, zRl_m4, zRl_m3, zRl_m2, zRl_m1, zRl_0, zRl_1, zRl_2, zRl_3, zRl_4, zRl_5, zRl_6, zRl_7, zRl_8, zRl_12, zRl_31, zRl_32, zRl_33, zRl_59, zRl_60, zRl_64, zRl_67, zRl_97, zRl_122, zRl_124, zRl_126, zRl_128, zRl_336, zRl_672, zRl_1680, zRl_2016, zRl_7680, o_X7_put, r_X7_put, eX7_put_0, q_iconst, eX7_put_1, q_istore_3n, q_istore_3i, q_istore_3a, eX7_put_2, q_lload_1, eX7_put_3, q_lstore_4n, q_lstore_4i, q_lstore_4a, eX7_put_5, eX7_put_6, q_istore_6n, q_istore_6i, q_istore_6a, eX7_put_8, q_iload_3, eX7_put_9, q_bipush, eX7_put_11, q_icmp_ge, eX7_put_14, q_lload_4, eX7_put_16, q_ldc2, zql_s, zL_7_192, eX7_put_19, q_land, eX7_put_20, q_lconst, eX7_put_21, q_lcmp, eX7_put_22, q_if_eq, eX7_put_25, q_iload_6, eX7_put_27, eX7_put_30, eX7_put_32, eX7_put_35, eX7_put_36, q_l2i, eX7_put_37, eX7_put_39, eX7_put_41, q_invs, zqst_s, zqst_c, zqcp_s, zqc_s, zC_7_54, o_X7_within, zqcs_3, eX7_put_44, eX7_put_47, eX7_put_48, q_goto, eX7_put_51, eX7_put_52, eX7_put_54, eX7_put_56, eX7_put_58, q_lushr, eX7_put_59, eX7_put_61, q_iinc_3n, q_iinc_3i, q_iinc_3a, eX7_put_64, eX7_put_67, eX7_put_68, eX7_put_71, eX7_put_73, eX7_put_76, eX7_put_78, eX7_put_79, eX7_put_80, eX7_put_83, eX7_put_85, q_ireturn, zqi_i, zqi_z, eX7_put_86, q_aload_0, eX7_put_87, q_getfield, zqg_s, zqv_s, zF_7_109, eX7_put_90, eX7_put_91, q_iadd, eX7_put_92, eX7_put_94, q_icmp_le, eX7_put_97, eX7_put_99, eX7_put_100, eX7_put_101, eX7_put_102, q_isub, eX7_put_103, q_istore_7n, q_istore_7i, q_istore_7a, eX7_put_105, q_iload_7, eX7_put_107, q_if_lt, eX7_put_110, eX7_put_111, zF_7_22, eX7_put_114, eX7_put_115, eX7_put_118, eX7_put_119, eX7_put_121, eX7_put_123, q_imul, eX7_put_124, eX7_put_125, eX7_put_128, eX7_put_129, eX7_put_130, q_iastore, zqas_s, eX7_put_131, eX7_put_132, q_dup_i, q_dup_a, eX7_put_133, eX7_put_136, eX7_put_137, eX7_put_138, q_putfield, q_putfieldR, zqp_s, zqr_s, zqw_s, eX7_put_141, q_iinc_7n, q_iinc_7i, q_iinc_7a, eX7_put_144, eX7_put_147, eX7_put_148, eX7_put_151, rs, f1, zb_f]
      exact hQ M hd zfr_rf
    | true =>
      by_cases cr : u64 r = 0
      · rw [if_neg (fun h => by
          rcases h with h | h | h
          · exact c0 h
          · exact h (hb.mp rfl)
          · exact h (hr.symm.trans cr))] at sp
        have f2 : ((lg_cmp r 0).toInt = 0) = True := eq_true ((lc_z r).mpr cr)
        have rp : zRr ((A.2.1.1 : Int) + (s : Int)) := zrr (by omega) (by omega)
        by_cases c64 : 64 < A.2.1.1 + s
        · rw [oPut, sp, if_neg c0, if_pos c64] at hQ
          have f3 : ((A.2.1.1 : Int) + (s : Int) ≤ 64) = False := eq_false (by omega)
          refine zgo [8, 67, 105] ?_
          simp only [↓zX_succ, ↓zstp_nil, ↓zstp_cons, ↓reduceIte, zpu_some, zpu_none, zcs, zg, zst, Nat.reduceAdd, Nat.reduceSub, Nat.reduceMul, Nat.reduceEqDiff, Nat.reduceLeDiff, Nat.reduceLT, Int.reduceToNat, Int.reduceAdd, Int.reduceSub, Int.reduceMul, Int.reduceNeg, Int.reduceLE, Int.reduceLT, Int.reduceEq, Int.cast_ofNat_Int, Int.reduceNatCast', true_and, and_true, and_self, Nat.le_refl, Nat.add_zero, Nat.zero_add, Nat.zero_le, Nat.not_lt_zero, or_true, true_or, or_false, false_or, not_true_eq_false, not_false_eq_true, forall_const, true_implies, false_implies, implies_true, zup_same, zup_zup, Int.toNat_natCast, Nat.reduceDiv, List.length_cons, List.length_nil, Nat.succ_ne_zero, ne_eq, reduceCtorEq, zRl_m6, zRl_m5, zRl_m4, zRl_m3, zRl_m2, zRl_m1, zRl_0, zRl_1, zRl_2, zRl_3, zRl_4, zRl_5, zRl_6, zRl_7, zRl_8, zRl_12, zRl_31, zRl_32, zRl_33, zRl_59, zRl_60, zRl_64, zRl_67, zRl_97, zRl_122, zRl_124, zRl_126, zRl_128, zRl_336, zRl_672, zRl_1680, zRl_2016, zRl_7680, o_X7_put, r_X7_put, eX7_put_0, q_iconst, eX7_put_1, q_istore_3n, q_istore_3i, q_istore_3a, eX7_put_2, q_lload_1, eX7_put_3, q_lstore_4n, q_lstore_4i, q_lstore_4a, eX7_put_5, eX7_put_6, q_istore_6n, q_istore_6i, q_istore_6a, eX7_put_8, q_iload_3, eX7_put_9, q_bipush, eX7_put_11, q_icmp_ge, eX7_put_14, q_lload_4, eX7_put_16, q_ldc2, zql_s, zL_7_192, eX7_put_19, q_land, eX7_put_20, q_lconst, eX7_put_21, q_lcmp, eX7_put_22, q_if_eq, eX7_put_25, q_iload_6, eX7_put_27, eX7_put_30, eX7_put_32, eX7_put_35, eX7_put_36, q_l2i, eX7_put_37, eX7_put_39, eX7_put_41, q_invs, zqst_s, zqst_c, zqcp_s, zqc_s, zC_7_54, o_X7_within, zqcs_3, eX7_put_44, eX7_put_47, eX7_put_48, q_goto, eX7_put_51, eX7_put_52, eX7_put_54, eX7_put_56, eX7_put_58, q_lushr, eX7_put_59, eX7_put_61, q_iinc_3n, q_iinc_3i, q_iinc_3a, eX7_put_64, eX7_put_67, eX7_put_68, eX7_put_71, eX7_put_73, eX7_put_76, eX7_put_78, eX7_put_79, eX7_put_80, eX7_put_83, eX7_put_85, q_ireturn, zqi_i, zqi_z, eX7_put_86, q_aload_0, eX7_put_87, q_getfield, zqg_s, zqv_s, zF_7_109, eX7_put_90, eX7_put_91, q_iadd, eX7_put_92, eX7_put_94, q_icmp_le, eX7_put_97, eX7_put_99, eX7_put_100, eX7_put_101, eX7_put_102, q_isub, eX7_put_103, q_istore_7n, q_istore_7i, q_istore_7a, eX7_put_105, q_iload_7, eX7_put_107, q_if_lt, eX7_put_110, eX7_put_111, zF_7_22, eX7_put_114, eX7_put_115, eX7_put_118, eX7_put_119, eX7_put_121, eX7_put_123, q_imul, eX7_put_124, eX7_put_125, eX7_put_128, eX7_put_129, eX7_put_130, q_iastore, zqas_s, eX7_put_131, eX7_put_132, q_dup_i, q_dup_a, eX7_put_133, eX7_put_136, eX7_put_137, eX7_put_138, q_putfield, q_putfieldR, zqp_s, zqr_s, zqw_s, eX7_put_141, q_iinc_7n, q_iinc_7i, q_iinc_7a, eX7_put_144, eX7_put_147, eX7_put_148, eX7_put_151, rs, f1, lc0, zb_t, rc, f2, ho, rp, f3]
          exact hQ M hd zfr_rf
        · have f3 : ((A.2.1.1 : Int) + (s : Int) ≤ 64) = True := eq_true (by omega)
          have r1 : zRr ((s : Int) - 1) := zrr (by omega) (by omega)
          refine zgo [8, 67, 105] ?_
          simp only [↓zX_succ, ↓zstp_nil, ↓zstp_cons, ↓reduceIte, zpu_some, zpu_none, zcs, zg, zst, Nat.reduceAdd, Nat.reduceSub, Nat.reduceMul, Nat.reduceEqDiff, Nat.reduceLeDiff, Nat.reduceLT, Int.reduceToNat, Int.reduceAdd, Int.reduceSub, Int.reduceMul, Int.reduceNeg, Int.reduceLE, Int.reduceLT, Int.reduceEq, Int.cast_ofNat_Int, Int.reduceNatCast', true_and, and_true, and_self, Nat.le_refl, Nat.add_zero, Nat.zero_add, Nat.zero_le, Nat.not_lt_zero, or_true, true_or, or_false, false_or, not_true_eq_false, not_false_eq_true, forall_const, true_implies, false_implies, implies_true, zup_same, zup_zup, Int.toNat_natCast, Nat.reduceDiv, List.length_cons, List.length_nil, Nat.succ_ne_zero, ne_eq, reduceCtorEq, zRl_m6, zRl_m5, zRl_m4, zRl_m3, zRl_m2, zRl_m1, zRl_0, zRl_1, zRl_2, zRl_3, zRl_4, zRl_5, zRl_6, zRl_7, zRl_8, zRl_12, zRl_31, zRl_32, zRl_33, zRl_59, zRl_60, zRl_64, zRl_67, zRl_97, zRl_122, zRl_124, zRl_126, zRl_128, zRl_336, zRl_672, zRl_1680, zRl_2016, zRl_7680, o_X7_put, r_X7_put, eX7_put_0, q_iconst, eX7_put_1, q_istore_3n, q_istore_3i, q_istore_3a, eX7_put_2, q_lload_1, eX7_put_3, q_lstore_4n, q_lstore_4i, q_lstore_4a, eX7_put_5, eX7_put_6, q_istore_6n, q_istore_6i, q_istore_6a, eX7_put_8, q_iload_3, eX7_put_9, q_bipush, eX7_put_11, q_icmp_ge, eX7_put_14, q_lload_4, eX7_put_16, q_ldc2, zql_s, zL_7_192, eX7_put_19, q_land, eX7_put_20, q_lconst, eX7_put_21, q_lcmp, eX7_put_22, q_if_eq, eX7_put_25, q_iload_6, eX7_put_27, eX7_put_30, eX7_put_32, eX7_put_35, eX7_put_36, q_l2i, eX7_put_37, eX7_put_39, eX7_put_41, q_invs, zqst_s, zqst_c, zqcp_s, zqc_s, zC_7_54, o_X7_within, zqcs_3, eX7_put_44, eX7_put_47, eX7_put_48, q_goto, eX7_put_51, eX7_put_52, eX7_put_54, eX7_put_56, eX7_put_58, q_lushr, eX7_put_59, eX7_put_61, q_iinc_3n, q_iinc_3i, q_iinc_3a, eX7_put_64, eX7_put_67, eX7_put_68, eX7_put_71, eX7_put_73, eX7_put_76, eX7_put_78, eX7_put_79, eX7_put_80, eX7_put_83, eX7_put_85, q_ireturn, zqi_i, zqi_z, eX7_put_86, q_aload_0, eX7_put_87, q_getfield, zqg_s, zqv_s, zF_7_109, eX7_put_90, eX7_put_91, q_iadd, eX7_put_92, eX7_put_94, q_icmp_le, eX7_put_97, eX7_put_99, eX7_put_100, eX7_put_101, eX7_put_102, q_isub, eX7_put_103, q_istore_7n, q_istore_7i, q_istore_7a, eX7_put_105, q_iload_7, eX7_put_107, q_if_lt, eX7_put_110, eX7_put_111, zF_7_22, eX7_put_114, eX7_put_115, eX7_put_118, eX7_put_119, eX7_put_121, eX7_put_123, q_imul, eX7_put_124, eX7_put_125, eX7_put_128, eX7_put_129, eX7_put_130, q_iastore, zqas_s, eX7_put_131, eX7_put_132, q_dup_i, q_dup_a, eX7_put_133, eX7_put_136, eX7_put_137, eX7_put_138, q_putfield, q_putfieldR, zqp_s, zqr_s, zqw_s, eX7_put_141, q_iinc_7n, q_iinc_7i, q_iinc_7a, eX7_put_144, eX7_put_147, eX7_put_148, eX7_put_151, rs, f1, lc0, zb_t, rc, f2, ho, rp, f3, r1]
          exact lay s r true s 0 M P hs (by omega) sp c0 rfl ho' h9 (fun j hj => by rw [ptC, if_pos (by omega)]; exact h10 j (by omega)) (fun q _ _ => rfl)
      · rw [if_pos (Or.inr (Or.inr (fun h => cr (hr.trans h))))] at sp
        rw [oPut, if_pos sp] at hQ
        have f2 : ((lg_cmp r 0).toInt = 0) = False := eq_false (fun h => cr ((lc_z r).mp h))
        refine zgo [8, 67, 105] ?_
        simp only [↓zX_succ, ↓zstp_nil, ↓zstp_cons, ↓reduceIte, zpu_some, zpu_none, zcs, zg, zst, Nat.reduceAdd, Nat.reduceSub, Nat.reduceMul, Nat.reduceEqDiff, Nat.reduceLeDiff, Nat.reduceLT, Int.reduceToNat, Int.reduceAdd, Int.reduceSub, Int.reduceMul, Int.reduceNeg, Int.reduceLE, Int.reduceLT, Int.reduceEq, Int.cast_ofNat_Int, Int.reduceNatCast', true_and, and_true, and_self, Nat.le_refl, Nat.add_zero, Nat.zero_add, Nat.zero_le, Nat.not_lt_zero, or_true, true_or, or_false, false_or, not_true_eq_false, not_false_eq_true, forall_const, true_implies, false_implies, implies_true, zup_same, zup_zup, Int.toNat_natCast, Nat.reduceDiv, List.length_cons, List.length_nil, Nat.succ_ne_zero, ne_eq, reduceCtorEq, zRl_m6, zRl_m5, zRl_m4, zRl_m3, zRl_m2, zRl_m1, zRl_0, zRl_1, zRl_2, zRl_3, zRl_4, zRl_5, zRl_6, zRl_7, zRl_8, zRl_12, zRl_31, zRl_32, zRl_33, zRl_59, zRl_60, zRl_64, zRl_67, zRl_97, zRl_122, zRl_124, zRl_126, zRl_128, zRl_336, zRl_672, zRl_1680, zRl_2016, zRl_7680, o_X7_put, r_X7_put, eX7_put_0, q_iconst, eX7_put_1, q_istore_3n, q_istore_3i, q_istore_3a, eX7_put_2, q_lload_1, eX7_put_3, q_lstore_4n, q_lstore_4i, q_lstore_4a, eX7_put_5, eX7_put_6, q_istore_6n, q_istore_6i, q_istore_6a, eX7_put_8, q_iload_3, eX7_put_9, q_bipush, eX7_put_11, q_icmp_ge, eX7_put_14, q_lload_4, eX7_put_16, q_ldc2, zql_s, zL_7_192, eX7_put_19, q_land, eX7_put_20, q_lconst, eX7_put_21, q_lcmp, eX7_put_22, q_if_eq, eX7_put_25, q_iload_6, eX7_put_27, eX7_put_30, eX7_put_32, eX7_put_35, eX7_put_36, q_l2i, eX7_put_37, eX7_put_39, eX7_put_41, q_invs, zqst_s, zqst_c, zqcp_s, zqc_s, zC_7_54, o_X7_within, zqcs_3, eX7_put_44, eX7_put_47, eX7_put_48, q_goto, eX7_put_51, eX7_put_52, eX7_put_54, eX7_put_56, eX7_put_58, q_lushr, eX7_put_59, eX7_put_61, q_iinc_3n, q_iinc_3i, q_iinc_3a, eX7_put_64, eX7_put_67, eX7_put_68, eX7_put_71, eX7_put_73, eX7_put_76, eX7_put_78, eX7_put_79, eX7_put_80, eX7_put_83, eX7_put_85, q_ireturn, zqi_i, zqi_z, eX7_put_86, q_aload_0, eX7_put_87, q_getfield, zqg_s, zqv_s, zF_7_109, eX7_put_90, eX7_put_91, q_iadd, eX7_put_92, eX7_put_94, q_icmp_le, eX7_put_97, eX7_put_99, eX7_put_100, eX7_put_101, eX7_put_102, q_isub, eX7_put_103, q_istore_7n, q_istore_7i, q_istore_7a, eX7_put_105, q_iload_7, eX7_put_107, q_if_lt, eX7_put_110, eX7_put_111, zF_7_22, eX7_put_114, eX7_put_115, eX7_put_118, eX7_put_119, eX7_put_121, eX7_put_123, q_imul, eX7_put_124, eX7_put_125, eX7_put_128, eX7_put_129, eX7_put_130, q_iastore, zqas_s, eX7_put_131, eX7_put_132, q_dup_i, q_dup_a, eX7_put_133, eX7_put_136, eX7_put_137, eX7_put_138, q_putfield, q_putfieldR, zqp_s, zqr_s, zqw_s, eX7_put_141, q_iinc_7n, q_iinc_7i, q_iinc_7a, eX7_put_144, eX7_put_147, eX7_put_148, eX7_put_151, rs, f1, lc0, zb_t, rc, f2]
        exact hQ M hd zfr_rf
  have key : ∀ (n s : Nat) (r : Int64) (b : Bool), s + n = 8 → u64 r = u64 c / 2 ^ (8 * s) → (b = true ↔ ∀ i, i < s → 33 ≤ cdN (u64 c) i ∧ cdN (u64 c) i ≤ 126) → (∀ i, i < s → cdN (u64 c) i ≠ 0) → zm lo (d + 8) kX7_put 0 0 Q (0, 0) 8 [some (Sum.inr (Sum.inl (some (m)))), some (Sum.inr (Sum.inr (c))), none, some (Sum.inl ((s : Int))), some (Sum.inr (Sum.inr (r))), none, some (Sum.inl (zb b)), none] [] M := by
    intro n
    induction n with
    | zero =>
      intro s r b hs hr hb hz
      have rs : zRr (s : Int) := zrr (by omega) (by omega)
      have f1 : (8 ≤ (s : Int)) = True := eq_true (by omega)
      refine zgo [8, 67, 105] ?_
      simp only [↓zX_succ, ↓zstp_nil, ↓zstp_cons, ↓reduceIte, zpu_some, zpu_none, zcs, zg, zst, Nat.reduceAdd, Nat.reduceSub, Nat.reduceMul, Nat.reduceEqDiff, Nat.reduceLeDiff, Nat.reduceLT, Int.reduceToNat, Int.reduceAdd, Int.reduceSub, Int.reduceMul, Int.reduceNeg, Int.reduceLE, Int.reduceLT, Int.reduceEq, Int.cast_ofNat_Int, Int.reduceNatCast', true_and, and_true, and_self, Nat.le_refl, Nat.add_zero, Nat.zero_add, Nat.zero_le, Nat.not_lt_zero, or_true, true_or, or_false, false_or, not_true_eq_false, not_false_eq_true, forall_const, true_implies, false_implies, implies_true, zup_same, zup_zup, Int.toNat_natCast, Nat.reduceDiv, List.length_cons, List.length_nil, Nat.succ_ne_zero, ne_eq, reduceCtorEq, zRl_m6, zRl_m5, zRl_m4, zRl_m3, zRl_m2, zRl_m1, zRl_0, zRl_1, zRl_2, zRl_3, zRl_4, zRl_5, zRl_6, zRl_7, zRl_8, zRl_12, zRl_31, zRl_32, zRl_33, zRl_59, zRl_60, zRl_64, zRl_67, zRl_97, zRl_122, zRl_124, zRl_126, zRl_128, zRl_336, zRl_672, zRl_1680, zRl_2016, zRl_7680, o_X7_put, r_X7_put, eX7_put_0, q_iconst, eX7_put_1, q_istore_3n, q_istore_3i, q_istore_3a, eX7_put_2, q_lload_1, eX7_put_3, q_lstore_4n, q_lstore_4i, q_lstore_4a, eX7_put_5, eX7_put_6, q_istore_6n, q_istore_6i, q_istore_6a, eX7_put_8, q_iload_3, eX7_put_9, q_bipush, eX7_put_11, q_icmp_ge, eX7_put_14, q_lload_4, eX7_put_16, q_ldc2, zql_s, zL_7_192, eX7_put_19, q_land, eX7_put_20, q_lconst, eX7_put_21, q_lcmp, eX7_put_22, q_if_eq, eX7_put_25, q_iload_6, eX7_put_27, eX7_put_30, eX7_put_32, eX7_put_35, eX7_put_36, q_l2i, eX7_put_37, eX7_put_39, eX7_put_41, q_invs, zqst_s, zqst_c, zqcp_s, zqc_s, zC_7_54, o_X7_within, zqcs_3, eX7_put_44, eX7_put_47, eX7_put_48, q_goto, eX7_put_51, eX7_put_52, eX7_put_54, eX7_put_56, eX7_put_58, q_lushr, eX7_put_59, eX7_put_61, q_iinc_3n, q_iinc_3i, q_iinc_3a, eX7_put_64, eX7_put_67, eX7_put_68, eX7_put_71, eX7_put_73, eX7_put_76, eX7_put_78, eX7_put_79, eX7_put_80, eX7_put_83, eX7_put_85, q_ireturn, zqi_i, zqi_z, eX7_put_86, q_aload_0, eX7_put_87, q_getfield, zqg_s, zqv_s, zF_7_109, eX7_put_90, eX7_put_91, q_iadd, eX7_put_92, eX7_put_94, q_icmp_le, eX7_put_97, eX7_put_99, eX7_put_100, eX7_put_101, eX7_put_102, q_isub, eX7_put_103, q_istore_7n, q_istore_7i, q_istore_7a, eX7_put_105, q_iload_7, eX7_put_107, q_if_lt, eX7_put_110, eX7_put_111, zF_7_22, eX7_put_114, eX7_put_115, eX7_put_118, eX7_put_119, eX7_put_121, eX7_put_123, q_imul, eX7_put_124, eX7_put_125, eX7_put_128, eX7_put_129, eX7_put_130, q_iastore, zqas_s, eX7_put_131, eX7_put_132, q_dup_i, q_dup_a, eX7_put_133, eX7_put_136, eX7_put_137, eX7_put_138, q_putfield, q_putfieldR, zqp_s, zqr_s, zqw_s, eX7_put_141, q_iinc_7n, q_iinc_7i, q_iinc_7a, eX7_put_144, eX7_put_147, eX7_put_148, eX7_put_151, rs, f1]
      exact fin s r b (by omega) hr hb hz (Or.inl (by omega))
    | succ n ih =>
      intro s r b hs hr hb hz
      have rs : zRr (s : Int) := zrr (by omega) (by omega)
      have rs1 : zRr ((s : Int) + 1) := zrr (by omega) (by omega)
      have f1 : (8 ≤ (s : Int)) = False := eq_false (by omega)
      have rc := lc_r (r &&& 255) 0
      have ec : cdN (u64 c) s = u64 (r &&& 255) := by rw [u64_and, hr, cdN]
      by_cases c0 : cdN (u64 c) s = 0
      · have f2 : ((lg_cmp (r &&& 255) 0).toInt = 0) = True := eq_true ((lc_z _).mpr (ec.symm.trans c0))
        refine zgo [8, 67, 105] ?_
        simp only [↓zX_succ, ↓zstp_nil, ↓zstp_cons, ↓reduceIte, zpu_some, zpu_none, zcs, zg, zst, Nat.reduceAdd, Nat.reduceSub, Nat.reduceMul, Nat.reduceEqDiff, Nat.reduceLeDiff, Nat.reduceLT, Int.reduceToNat, Int.reduceAdd, Int.reduceSub, Int.reduceMul, Int.reduceNeg, Int.reduceLE, Int.reduceLT, Int.reduceEq, Int.cast_ofNat_Int, Int.reduceNatCast', true_and, and_true, and_self, Nat.le_refl, Nat.add_zero, Nat.zero_add, Nat.zero_le, Nat.not_lt_zero, or_true, true_or, or_false, false_or, not_true_eq_false, not_false_eq_true, forall_const, true_implies, false_implies, implies_true, zup_same, zup_zup, Int.toNat_natCast, Nat.reduceDiv, List.length_cons, List.length_nil, Nat.succ_ne_zero, ne_eq, reduceCtorEq, zRl_m6, zRl_m5, zRl_m4, zRl_m3, zRl_m2, zRl_m1, zRl_0, zRl_1, zRl_2, zRl_3, zRl_4, zRl_5, zRl_6, zRl_7, zRl_8, zRl_12, zRl_31, zRl_32, zRl_33, zRl_59, zRl_60, zRl_64, zRl_67, zRl_97, zRl_122, zRl_124, zRl_126, zRl_128, zRl_336, zRl_672, zRl_1680, zRl_2016, zRl_7680, o_X7_put, r_X7_put, eX7_put_0, q_iconst, eX7_put_1, q_istore_3n, q_istore_3i, q_istore_3a, eX7_put_2, q_lload_1, eX7_put_3, q_lstore_4n, q_lstore_4i, q_lstore_4a, eX7_put_5, eX7_put_6, q_istore_6n, q_istore_6i, q_istore_6a, eX7_put_8, q_iload_3, eX7_put_9, q_bipush, eX7_put_11, q_icmp_ge, eX7_put_14, q_lload_4, eX7_put_16, q_ldc2, zql_s, zL_7_192, eX7_put_19, q_land, eX7_put_20, q_lconst, eX7_put_21, q_lcmp, eX7_put_22, q_if_eq, eX7_put_25, q_iload_6, eX7_put_27, eX7_put_30, eX7_put_32, eX7_put_35, eX7_put_36, q_l2i, eX7_put_37, eX7_put_39, eX7_put_41, q_invs, zqst_s, zqst_c, zqcp_s, zqc_s, zC_7_54, o_X7_within, zqcs_3, eX7_put_44, eX7_put_47, eX7_put_48, q_goto, eX7_put_51, eX7_put_52, eX7_put_54, eX7_put_56, eX7_put_58, q_lushr, eX7_put_59, eX7_put_61, q_iinc_3n, q_iinc_3i, q_iinc_3a, eX7_put_64, eX7_put_67, eX7_put_68, eX7_put_71, eX7_put_73, eX7_put_76, eX7_put_78, eX7_put_79, eX7_put_80, eX7_put_83, eX7_put_85, q_ireturn, zqi_i, zqi_z, eX7_put_86, q_aload_0, eX7_put_87, q_getfield, zqg_s, zqv_s, zF_7_109, eX7_put_90, eX7_put_91, q_iadd, eX7_put_92, eX7_put_94, q_icmp_le, eX7_put_97, eX7_put_99, eX7_put_100, eX7_put_101, eX7_put_102, q_isub, eX7_put_103, q_istore_7n, q_istore_7i, q_istore_7a, eX7_put_105, q_iload_7, eX7_put_107, q_if_lt, eX7_put_110, eX7_put_111, zF_7_22, eX7_put_114, eX7_put_115, eX7_put_118, eX7_put_119, eX7_put_121, eX7_put_123, q_imul, eX7_put_124, eX7_put_125, eX7_put_128, eX7_put_129, eX7_put_130, q_iastore, zqas_s, eX7_put_131, eX7_put_132, q_dup_i, q_dup_a, eX7_put_133, eX7_put_136, eX7_put_137, eX7_put_138, q_putfield, q_putfieldR, zqp_s, zqr_s, zqw_s, eX7_put_141, q_iinc_7n, q_iinc_7i, q_iinc_7a, eX7_put_144, eX7_put_147, eX7_put_148, eX7_put_151, rs, f1, lc0, zb_t, rc, f2]
        exact fin s r b (by omega) hr hb hz (Or.inr c0)
      · have f2 : ((lg_cmp (r &&& 255) 0).toInt = 0) = False := eq_false (fun h => c0 (ec.trans ((lc_z _).mp h)))
        have hr2 : u64 ((r.toUInt64 >>> ((Int32.ofInt 8).toInt64.toUInt64 &&& Int64.toUInt64 63)).toInt64) = u64 c / 2 ^ (8 * (s + 1)) := by
          have h := shr_8 r 1 (by decide)
          rw [show (8 * ((1 : Nat) : Int)) = 8 from rfl] at h
          rw [show 8 * (s + 1) = 8 * s + 8 by omega, Nat.pow_add, ← Nat.div_div_eq_div_mul, ← hr]
          exact h
        have hz2 : ∀ i, i < s + 1 → cdN (u64 c) i ≠ 0 := fun i hi => by
          by_cases e : i = s
          · subst e; exact c0
          · exact hz i (by omega)
        have nx : ∀ b', (b' = true ↔ (b = true ∧ 33 ≤ cdN (u64 c) s ∧ cdN (u64 c) s ≤ 126)) → zm lo (d + 8) kX7_put 0 0 Q (0, 0) 8 [some (Sum.inr (Sum.inl (some (m)))), some (Sum.inr (Sum.inr (c))), none, some (Sum.inl ((s : Int) + 1)), some (Sum.inr (Sum.inr ((r.toUInt64 >>> ((Int32.ofInt 8).toInt64.toUInt64 &&& Int64.toUInt64 63)).toInt64))), none, some (Sum.inl (zb b')), none] [] M := fun b' hb' => ih (s + 1) _ b' (by omega) hr2 (hb'.trans ⟨fun h i hi => by
          by_cases e : i = s
          · subst e; exact h.2
          · exact hb.mp h.1 i (by omega), fun h => ⟨hb.mpr (fun i hi => h i (by omega)), h s (by omega)⟩⟩) hz2
        cases b with
        | false =>
          refine zgo [8, 67, 105] ?_
          simp only [↓zX_succ, ↓zstp_nil, ↓zstp_cons, ↓reduceIte, zpu_some, zpu_none, zcs, zg, zst, Nat.reduceAdd, Nat.reduceSub, Nat.reduceMul, Nat.reduceEqDiff, Nat.reduceLeDiff, Nat.reduceLT, Int.reduceToNat, Int.reduceAdd, Int.reduceSub, Int.reduceMul, Int.reduceNeg, Int.reduceLE, Int.reduceLT, Int.reduceEq, Int.cast_ofNat_Int, Int.reduceNatCast', true_and, and_true, and_self, Nat.le_refl, Nat.add_zero, Nat.zero_add, Nat.zero_le, Nat.not_lt_zero, or_true, true_or, or_false, false_or, not_true_eq_false, not_false_eq_true, forall_const, true_implies, false_implies, implies_true, zup_same, zup_zup, Int.toNat_natCast, Nat.reduceDiv, List.length_cons, List.length_nil, Nat.succ_ne_zero, ne_eq, reduceCtorEq, zRl_m6, zRl_m5, zRl_m4, zRl_m3, zRl_m2, zRl_m1, zRl_0, zRl_1, zRl_2, zRl_3, zRl_4, zRl_5, zRl_6, zRl_7, zRl_8, zRl_12, zRl_31, zRl_32, zRl_33, zRl_59, zRl_60, zRl_64, zRl_67, zRl_97, zRl_122, zRl_124, zRl_126, zRl_128, zRl_336, zRl_672, zRl_1680, zRl_2016, zRl_7680, o_X7_put, r_X7_put, eX7_put_0, q_iconst, eX7_put_1, q_istore_3n, q_istore_3i, q_istore_3a, eX7_put_2, q_lload_1, eX7_put_3, q_lstore_4n, q_lstore_4i, q_lstore_4a, eX7_put_5, eX7_put_6, q_istore_6n, q_istore_6i, q_istore_6a, eX7_put_8, q_iload_3, eX7_put_9, q_bipush, eX7_put_11, q_icmp_ge, eX7_put_14, q_lload_4, eX7_put_16, q_ldc2, zql_s, zL_7_192, eX7_put_19, q_land, eX7_put_20, q_lconst, eX7_put_21, q_lcmp, eX7_put_22, q_if_eq, eX7_put_25, q_iload_6, eX7_put_27, eX7_put_30, eX7_put_32, eX7_put_35, eX7_put_36, q_l2i, eX7_put_37, eX7_put_39, eX7_put_41, q_invs, zqst_s, zqst_c, zqcp_s, zqc_s, zC_7_54, o_X7_within, zqcs_3, eX7_put_44, eX7_put_47, eX7_put_48, q_goto, eX7_put_51, eX7_put_52, eX7_put_54, eX7_put_56, eX7_put_58, q_lushr, eX7_put_59, eX7_put_61, q_iinc_3n, q_iinc_3i, q_iinc_3a, eX7_put_64, eX7_put_67, eX7_put_68, eX7_put_71, eX7_put_73, eX7_put_76, eX7_put_78, eX7_put_79, eX7_put_80, eX7_put_83, eX7_put_85, q_ireturn, zqi_i, zqi_z, eX7_put_86, q_aload_0, eX7_put_87, q_getfield, zqg_s, zqv_s, zF_7_109, eX7_put_90, eX7_put_91, q_iadd, eX7_put_92, eX7_put_94, q_icmp_le, eX7_put_97, eX7_put_99, eX7_put_100, eX7_put_101, eX7_put_102, q_isub, eX7_put_103, q_istore_7n, q_istore_7i, q_istore_7a, eX7_put_105, q_iload_7, eX7_put_107, q_if_lt, eX7_put_110, eX7_put_111, zF_7_22, eX7_put_114, eX7_put_115, eX7_put_118, eX7_put_119, eX7_put_121, eX7_put_123, q_imul, eX7_put_124, eX7_put_125, eX7_put_128, eX7_put_129, eX7_put_130, q_iastore, zqas_s, eX7_put_131, eX7_put_132, q_dup_i, q_dup_a, eX7_put_133, eX7_put_136, eX7_put_137, eX7_put_138, q_putfield, q_putfieldR, zqp_s, zqr_s, zqw_s, eX7_put_141, q_iinc_7n, q_iinc_7i, q_iinc_7a, eX7_put_144, eX7_put_147, eX7_put_148, eX7_put_151, rs, rs1, f1, lc0, zb_t, zb_f, rc, f2]
          exact nx false ⟨fun h => (by cases h), fun h => (by cases h.1)⟩
        | true =>
          refine zgo [8, 67, 105] ?_
          simp only [↓zX_succ, ↓zstp_nil, ↓zstp_cons, ↓reduceIte, zpu_some, zpu_none, zcs, zg, zst, Nat.reduceAdd, Nat.reduceSub, Nat.reduceMul, Nat.reduceEqDiff, Nat.reduceLeDiff, Nat.reduceLT, Int.reduceToNat, Int.reduceAdd, Int.reduceSub, Int.reduceMul, Int.reduceNeg, Int.reduceLE, Int.reduceLT, Int.reduceEq, Int.cast_ofNat_Int, Int.reduceNatCast', true_and, and_true, and_self, Nat.le_refl, Nat.add_zero, Nat.zero_add, Nat.zero_le, Nat.not_lt_zero, or_true, true_or, or_false, false_or, not_true_eq_false, not_false_eq_true, forall_const, true_implies, false_implies, implies_true, zup_same, zup_zup, Int.toNat_natCast, Nat.reduceDiv, List.length_cons, List.length_nil, Nat.succ_ne_zero, ne_eq, reduceCtorEq, zRl_m6, zRl_m5, zRl_m4, zRl_m3, zRl_m2, zRl_m1, zRl_0, zRl_1, zRl_2, zRl_3, zRl_4, zRl_5, zRl_6, zRl_7, zRl_8, zRl_12, zRl_31, zRl_32, zRl_33, zRl_59, zRl_60, zRl_64, zRl_67, zRl_97, zRl_122, zRl_124, zRl_126, zRl_128, zRl_336, zRl_672, zRl_1680, zRl_2016, zRl_7680, o_X7_put, r_X7_put, eX7_put_0, q_iconst, eX7_put_1, q_istore_3n, q_istore_3i, q_istore_3a, eX7_put_2, q_lload_1, eX7_put_3, q_lstore_4n, q_lstore_4i, q_lstore_4a, eX7_put_5, eX7_put_6, q_istore_6n, q_istore_6i, q_istore_6a, eX7_put_8, q_iload_3, eX7_put_9, q_bipush, eX7_put_11, q_icmp_ge, eX7_put_14, q_lload_4, eX7_put_16, q_ldc2, zql_s, zL_7_192, eX7_put_19, q_land, eX7_put_20, q_lconst, eX7_put_21, q_lcmp, eX7_put_22, q_if_eq, eX7_put_25, q_iload_6, eX7_put_27, eX7_put_30, eX7_put_32, eX7_put_35, eX7_put_36, q_l2i, eX7_put_37, eX7_put_39, eX7_put_41, q_invs, zqst_s, zqst_c, zqcp_s, zqc_s, zC_7_54, o_X7_within, zqcs_3, eX7_put_44, eX7_put_47, eX7_put_48, q_goto, eX7_put_51, eX7_put_52, eX7_put_54, eX7_put_56, eX7_put_58, q_lushr, eX7_put_59, eX7_put_61, q_iinc_3n, q_iinc_3i, q_iinc_3a, eX7_put_64, eX7_put_67, eX7_put_68, eX7_put_71, eX7_put_73, eX7_put_76, eX7_put_78, eX7_put_79, eX7_put_80, eX7_put_83, eX7_put_85, q_ireturn, zqi_i, zqi_z, eX7_put_86, q_aload_0, eX7_put_87, q_getfield, zqg_s, zqv_s, zF_7_109, eX7_put_90, eX7_put_91, q_iadd, eX7_put_92, eX7_put_94, q_icmp_le, eX7_put_97, eX7_put_99, eX7_put_100, eX7_put_101, eX7_put_102, q_isub, eX7_put_103, q_istore_7n, q_istore_7i, q_istore_7a, eX7_put_105, q_iload_7, eX7_put_107, q_if_lt, eX7_put_110, eX7_put_111, zF_7_22, eX7_put_114, eX7_put_115, eX7_put_118, eX7_put_119, eX7_put_121, eX7_put_123, q_imul, eX7_put_124, eX7_put_125, eX7_put_128, eX7_put_129, eX7_put_130, q_iastore, zqas_s, eX7_put_131, eX7_put_132, q_dup_i, q_dup_a, eX7_put_133, eX7_put_136, eX7_put_137, eX7_put_138, q_putfield, q_putfieldR, zqp_s, zqr_s, zqw_s, eX7_put_141, q_iinc_7n, q_iinc_7i, q_iinc_7a, eX7_put_144, eX7_put_147, eX7_put_148, eX7_put_151, rs, rs1, f1, lc0, zb_t, zb_f, rc, f2]
          have e32 : (r &&& 255).toInt32.toInt = (cdN (u64 c) s : Int) := by
            rw [ec, u64_and]
            exact and_255 r.toUInt64
          have hlt := cdN_lt (n := u64 c) (i := s)
          rw [e32]
          refine c_within (zrr (by omega) (by omega)) (zrr (by decide) (by decide)) (zrr (by decide) (by decide)) (fun cq => ?_) (fun cq => ?_)
          · refine zgo [8, 67, 105] ?_
            simp only [↓zX_succ, ↓zstp_nil, ↓zstp_cons, ↓reduceIte, zpu_some, zpu_none, zcs, zg, zst, Nat.reduceAdd, Nat.reduceSub, Nat.reduceMul, Nat.reduceEqDiff, Nat.reduceLeDiff, Nat.reduceLT, Int.reduceToNat, Int.reduceAdd, Int.reduceSub, Int.reduceMul, Int.reduceNeg, Int.reduceLE, Int.reduceLT, Int.reduceEq, Int.cast_ofNat_Int, Int.reduceNatCast', true_and, and_true, and_self, Nat.le_refl, Nat.add_zero, Nat.zero_add, Nat.zero_le, Nat.not_lt_zero, or_true, true_or, or_false, false_or, not_true_eq_false, not_false_eq_true, forall_const, true_implies, false_implies, implies_true, zup_same, zup_zup, Int.toNat_natCast, Nat.reduceDiv, List.length_cons, List.length_nil, Nat.succ_ne_zero, ne_eq, reduceCtorEq, zRl_m6, zRl_m5, zRl_m4, zRl_m3, zRl_m2, zRl_m1, zRl_0, zRl_1, zRl_2, zRl_3, zRl_4, zRl_5, zRl_6, zRl_7, zRl_8, zRl_12, zRl_31, zRl_32, zRl_33, zRl_59, zRl_60, zRl_64, zRl_67, zRl_97, zRl_122, zRl_124, zRl_126, zRl_128, zRl_336, zRl_672, zRl_1680, zRl_2016, zRl_7680, o_X7_put, r_X7_put, eX7_put_0, q_iconst, eX7_put_1, q_istore_3n, q_istore_3i, q_istore_3a, eX7_put_2, q_lload_1, eX7_put_3, q_lstore_4n, q_lstore_4i, q_lstore_4a, eX7_put_5, eX7_put_6, q_istore_6n, q_istore_6i, q_istore_6a, eX7_put_8, q_iload_3, eX7_put_9, q_bipush, eX7_put_11, q_icmp_ge, eX7_put_14, q_lload_4, eX7_put_16, q_ldc2, zql_s, zL_7_192, eX7_put_19, q_land, eX7_put_20, q_lconst, eX7_put_21, q_lcmp, eX7_put_22, q_if_eq, eX7_put_25, q_iload_6, eX7_put_27, eX7_put_30, eX7_put_32, eX7_put_35, eX7_put_36, q_l2i, eX7_put_37, eX7_put_39, eX7_put_41, q_invs, zqst_s, zqst_c, zqcp_s, zqc_s, zC_7_54, o_X7_within, zqcs_3, eX7_put_44, eX7_put_47, eX7_put_48, q_goto, eX7_put_51, eX7_put_52, eX7_put_54, eX7_put_56, eX7_put_58, q_lushr, eX7_put_59, eX7_put_61, q_iinc_3n, q_iinc_3i, q_iinc_3a, eX7_put_64, eX7_put_67, eX7_put_68, eX7_put_71, eX7_put_73, eX7_put_76, eX7_put_78, eX7_put_79, eX7_put_80, eX7_put_83, eX7_put_85, q_ireturn, zqi_i, zqi_z, eX7_put_86, q_aload_0, eX7_put_87, q_getfield, zqg_s, zqv_s, zF_7_109, eX7_put_90, eX7_put_91, q_iadd, eX7_put_92, eX7_put_94, q_icmp_le, eX7_put_97, eX7_put_99, eX7_put_100, eX7_put_101, eX7_put_102, q_isub, eX7_put_103, q_istore_7n, q_istore_7i, q_istore_7a, eX7_put_105, q_iload_7, eX7_put_107, q_if_lt, eX7_put_110, eX7_put_111, zF_7_22, eX7_put_114, eX7_put_115, eX7_put_118, eX7_put_119, eX7_put_121, eX7_put_123, q_imul, eX7_put_124, eX7_put_125, eX7_put_128, eX7_put_129, eX7_put_130, q_iastore, zqas_s, eX7_put_131, eX7_put_132, q_dup_i, q_dup_a, eX7_put_133, eX7_put_136, eX7_put_137, eX7_put_138, q_putfield, q_putfieldR, zqp_s, zqr_s, zqw_s, eX7_put_141, q_iinc_7n, q_iinc_7i, q_iinc_7a, eX7_put_144, eX7_put_147, eX7_put_148, eX7_put_151, rs1]
            exact nx true ⟨fun _ => ⟨rfl, by omega, by omega⟩, fun _ => rfl⟩
          · refine zgo [8, 67, 105] ?_
            simp only [↓zX_succ, ↓zstp_nil, ↓zstp_cons, ↓reduceIte, zpu_some, zpu_none, zcs, zg, zst, Nat.reduceAdd, Nat.reduceSub, Nat.reduceMul, Nat.reduceEqDiff, Nat.reduceLeDiff, Nat.reduceLT, Int.reduceToNat, Int.reduceAdd, Int.reduceSub, Int.reduceMul, Int.reduceNeg, Int.reduceLE, Int.reduceLT, Int.reduceEq, Int.cast_ofNat_Int, Int.reduceNatCast', true_and, and_true, and_self, Nat.le_refl, Nat.add_zero, Nat.zero_add, Nat.zero_le, Nat.not_lt_zero, or_true, true_or, or_false, false_or, not_true_eq_false, not_false_eq_true, forall_const, true_implies, false_implies, implies_true, zup_same, zup_zup, Int.toNat_natCast, Nat.reduceDiv, List.length_cons, List.length_nil, Nat.succ_ne_zero, ne_eq, reduceCtorEq, zRl_m6, zRl_m5, zRl_m4, zRl_m3, zRl_m2, zRl_m1, zRl_0, zRl_1, zRl_2, zRl_3, zRl_4, zRl_5, zRl_6, zRl_7, zRl_8, zRl_12, zRl_31, zRl_32, zRl_33, zRl_59, zRl_60, zRl_64, zRl_67, zRl_97, zRl_122, zRl_124, zRl_126, zRl_128, zRl_336, zRl_672, zRl_1680, zRl_2016, zRl_7680, o_X7_put, r_X7_put, eX7_put_0, q_iconst, eX7_put_1, q_istore_3n, q_istore_3i, q_istore_3a, eX7_put_2, q_lload_1, eX7_put_3, q_lstore_4n, q_lstore_4i, q_lstore_4a, eX7_put_5, eX7_put_6, q_istore_6n, q_istore_6i, q_istore_6a, eX7_put_8, q_iload_3, eX7_put_9, q_bipush, eX7_put_11, q_icmp_ge, eX7_put_14, q_lload_4, eX7_put_16, q_ldc2, zql_s, zL_7_192, eX7_put_19, q_land, eX7_put_20, q_lconst, eX7_put_21, q_lcmp, eX7_put_22, q_if_eq, eX7_put_25, q_iload_6, eX7_put_27, eX7_put_30, eX7_put_32, eX7_put_35, eX7_put_36, q_l2i, eX7_put_37, eX7_put_39, eX7_put_41, q_invs, zqst_s, zqst_c, zqcp_s, zqc_s, zC_7_54, o_X7_within, zqcs_3, eX7_put_44, eX7_put_47, eX7_put_48, q_goto, eX7_put_51, eX7_put_52, eX7_put_54, eX7_put_56, eX7_put_58, q_lushr, eX7_put_59, eX7_put_61, q_iinc_3n, q_iinc_3i, q_iinc_3a, eX7_put_64, eX7_put_67, eX7_put_68, eX7_put_71, eX7_put_73, eX7_put_76, eX7_put_78, eX7_put_79, eX7_put_80, eX7_put_83, eX7_put_85, q_ireturn, zqi_i, zqi_z, eX7_put_86, q_aload_0, eX7_put_87, q_getfield, zqg_s, zqv_s, zF_7_109, eX7_put_90, eX7_put_91, q_iadd, eX7_put_92, eX7_put_94, q_icmp_le, eX7_put_97, eX7_put_99, eX7_put_100, eX7_put_101, eX7_put_102, q_isub, eX7_put_103, q_istore_7n, q_istore_7i, q_istore_7a, eX7_put_105, q_iload_7, eX7_put_107, q_if_lt, eX7_put_110, eX7_put_111, zF_7_22, eX7_put_114, eX7_put_115, eX7_put_118, eX7_put_119, eX7_put_121, eX7_put_123, q_imul, eX7_put_124, eX7_put_125, eX7_put_128, eX7_put_129, eX7_put_130, q_iastore, zqas_s, eX7_put_131, eX7_put_132, q_dup_i, q_dup_a, eX7_put_133, eX7_put_136, eX7_put_137, eX7_put_138, q_putfield, q_putfieldR, zqp_s, zqr_s, zqw_s, eX7_put_141, q_iinc_7n, q_iinc_7i, q_iinc_7a, eX7_put_144, eX7_put_147, eX7_put_148, eX7_put_151, rs1]
            exact nx false ⟨fun h => (by cases h), fun h => absurd ⟨by omega, by omega⟩ cq⟩
  refine zct [some (Sum.inr (Sum.inl (some (m)))), some (Sum.inr (Sum.inr (c))), none, none, none, none, none, none] rfl (Nat.le_of_ble_eq_true rfl) (by decide +kernel) rfl ?_
  refine zgo [8, 67, 105] ?_
  simp only [↓zX_succ, ↓zstp_nil, ↓zstp_cons, ↓reduceIte, zpu_some, zpu_none, zcs, zg, zst, Nat.reduceAdd, Nat.reduceSub, Nat.reduceMul, Nat.reduceEqDiff, Nat.reduceLeDiff, Nat.reduceLT, Int.reduceToNat, Int.reduceAdd, Int.reduceSub, Int.reduceMul, Int.reduceNeg, Int.reduceLE, Int.reduceLT, Int.reduceEq, Int.cast_ofNat_Int, Int.reduceNatCast', true_and, and_true, and_self, Nat.le_refl, Nat.add_zero, Nat.zero_add, Nat.zero_le, Nat.not_lt_zero, or_true, true_or, or_false, false_or, not_true_eq_false, not_false_eq_true, forall_const, true_implies, false_implies, implies_true, zup_same, zup_zup, Int.toNat_natCast, Nat.reduceDiv, List.length_cons, List.length_nil, Nat.succ_ne_zero, ne_eq, reduceCtorEq, zRl_m6, zRl_m5, zRl_m4, zRl_m3, zRl_m2, zRl_m1, zRl_0, zRl_1, zRl_2, zRl_3, zRl_4, zRl_5, zRl_6, zRl_7, zRl_8, zRl_12, zRl_31, zRl_32, zRl_33, zRl_59, zRl_60, zRl_64, zRl_67, zRl_97, zRl_122, zRl_124, zRl_126, zRl_128, zRl_336, zRl_672, zRl_1680, zRl_2016, zRl_7680, o_X7_put, r_X7_put, eX7_put_0, q_iconst, eX7_put_1, q_istore_3n, q_istore_3i, q_istore_3a, eX7_put_2, q_lload_1, eX7_put_3, q_lstore_4n, q_lstore_4i, q_lstore_4a, eX7_put_5, eX7_put_6, q_istore_6n, q_istore_6i, q_istore_6a, eX7_put_8, q_iload_3, eX7_put_9, q_bipush, eX7_put_11, q_icmp_ge, eX7_put_14, q_lload_4, eX7_put_16, q_ldc2, zql_s, zL_7_192, eX7_put_19, q_land, eX7_put_20, q_lconst, eX7_put_21, q_lcmp, eX7_put_22, q_if_eq, eX7_put_25, q_iload_6, eX7_put_27, eX7_put_30, eX7_put_32, eX7_put_35, eX7_put_36, q_l2i, eX7_put_37, eX7_put_39, eX7_put_41, q_invs, zqst_s, zqst_c, zqcp_s, zqc_s, zC_7_54, o_X7_within, zqcs_3, eX7_put_44, eX7_put_47, eX7_put_48, q_goto, eX7_put_51, eX7_put_52, eX7_put_54, eX7_put_56, eX7_put_58, q_lushr, eX7_put_59, eX7_put_61, q_iinc_3n, q_iinc_3i, q_iinc_3a, eX7_put_64, eX7_put_67, eX7_put_68, eX7_put_71, eX7_put_73, eX7_put_76, eX7_put_78, eX7_put_79, eX7_put_80, eX7_put_83, eX7_put_85, q_ireturn, zqi_i, zqi_z, eX7_put_86, q_aload_0, eX7_put_87, q_getfield, zqg_s, zqv_s, zF_7_109, eX7_put_90, eX7_put_91, q_iadd, eX7_put_92, eX7_put_94, q_icmp_le, eX7_put_97, eX7_put_99, eX7_put_100, eX7_put_101, eX7_put_102, q_isub, eX7_put_103, q_istore_7n, q_istore_7i, q_istore_7a, eX7_put_105, q_iload_7, eX7_put_107, q_if_lt, eX7_put_110, eX7_put_111, zF_7_22, eX7_put_114, eX7_put_115, eX7_put_118, eX7_put_119, eX7_put_121, eX7_put_123, q_imul, eX7_put_124, eX7_put_125, eX7_put_128, eX7_put_129, eX7_put_130, q_iastore, zqas_s, eX7_put_131, eX7_put_132, q_dup_i, q_dup_a, eX7_put_133, eX7_put_136, eX7_put_137, eX7_put_138, q_putfield, q_putfieldR, zqp_s, zqr_s, zqw_s, eX7_put_141, q_iinc_7n, q_iinc_7i, q_iinc_7a, eX7_put_144, eX7_put_147, eX7_put_148, eX7_put_151]
  exact key 8 0 c true rfl (by rw [Nat.mul_zero, Nat.pow_zero, Nat.div_one]) ⟨fun _ i hi => by omega, fun _ => rfl⟩ (fun i hi => by omega)
end MV
