-- THE MODEL'S SEARCH
def fdR (R O : Nat → Int) (l : List (List Int)) (N b : Nat) : Prop := ∀ k, k < l.length → 0 ≤ O k ∧ O k < (b : Int) ∧ slc R (60 * (O k).toNat) N = l.getD k []
theorem ins_get {l : List (List Int)} {x : List Int} {q k : Nat} (hq : q ≤ l.length) : (l.take q ++ x :: l.drop q).getD k [] = if k < q then l.getD k [] else if k = q then x else l.getD (k - 1) [] := by
  have hl : (l.take q).length = q := by rw [List.length_take]; omega
  rw [List.getD_eq_getElem?_getD]
  by_cases c : k < q
  · rw [if_pos c, List.getElem?_append_left (by omega), List.getElem?_take, if_pos c, List.getD_eq_getElem?_getD]
  · rw [if_neg c, List.getElem?_append_right (by omega), hl]
    by_cases c2 : k = q
    · subst c2
      rw [if_pos rfl, Nat.sub_self]; rfl
    · rw [if_neg c2, show k - q = (k - q - 1) + 1 by omega, List.getElem?_cons_succ, List.getElem?_drop, show q + (k - q - 1) = k - 1 by omega, List.getD_eq_getElem?_getD]
theorem getD_mem {l : List (List Int)} {k : Nat} (h : k < l.length) : l.getD k [] ∈ l := by
  rw [List.getD_eq_getElem?_getD, List.getElem?_eq_getElem h]
  exact List.getElem_mem h
theorem mem_getD {l : List (List Int)} {z : List Int} (h : z ∈ l) : ∃ k, k < l.length ∧ l.getD k [] = z := by
  obtain ⟨k, h1, h2⟩ := List.mem_iff_getElem.mp h
  exact ⟨k, h1, by rw [List.getD_eq_getElem?_getD, List.getElem?_eq_getElem h1]; exact h2⟩
theorem srt_get {l : List (List Int)} (h : srt l) {i j : Nat} (hij : i < j) (hj : j < l.length) : llt (l.getD i []) (l.getD j []) := by
  have := List.pairwise_iff_getElem.mp h i j (by omega) hj hij
  rw [List.getD_eq_getElem?_getD, List.getElem?_eq_getElem (by omega), List.getD_eq_getElem?_getD, List.getElem?_eq_getElem hj]
  exact this
theorem ins_srt {l : List (List Int)} {x : List Int} {q : Nat} (hq : q ≤ l.length) (h : srt l) (h1 : ∀ j, j < q → llt (l.getD j []) x) (h2 : ∀ j, q ≤ j → j < l.length → llt x (l.getD j [])) : srt (l.take q ++ x :: l.drop q) := by
  have hx1 : ∀ a ∈ l.take q, llt a x := by
    intro a ha
    obtain ⟨k, k1, k2⟩ := mem_getD ha
    rw [List.length_take] at k1
    rw [← k2]
    have := h1 k (by omega)
    rw [List.getD_eq_getElem?_getD, List.getElem?_take, if_pos (by omega), ← List.getD_eq_getElem?_getD]
    exact this
  have hx2 : ∀ b ∈ l.drop q, llt x b := by
    intro b hb
    obtain ⟨k, k1, k2⟩ := mem_getD hb
    rw [List.length_drop] at k1
    rw [← k2]
    have := h2 (q + k) (by omega) (by omega)
    rw [List.getD_eq_getElem?_getD, List.getElem?_drop, ← List.getD_eq_getElem?_getD]
    exact this
  refine List.pairwise_append.mpr ⟨h.sublist (List.take_sublist q l), List.pairwise_cons.mpr ⟨hx2, h.sublist (List.drop_sublist q l)⟩, fun a ha b hb => ?_⟩
  rcases List.mem_cons.mp hb with e | e
  · exact e ▸ hx1 a ha
  · exact llt_tr (hx1 a ha) (hx2 b e)
theorem ins_mem {l : List (List Int)} {x z : List Int} {q : Nat} : z ∈ l.take q ++ x :: l.drop q ↔ z = x ∨ z ∈ l := by
  have h : z ∈ l ↔ z ∈ l.take q ∨ z ∈ l.drop q := by
    rw [← List.mem_append, List.take_append_drop]
  rw [h, List.mem_append, List.mem_cons]
  constructor
  · rintro (h | h | h)
    · exact Or.inr (Or.inl h)
    · exact Or.inl h
    · exact Or.inr (Or.inr h)
  · rintro (h | h | h)
    · exact Or.inr (Or.inl h)
    · exact Or.inl h
    · exact Or.inr (Or.inr h)
section MI
variable {lo d m : Nat} {M : zM} {Q : Option zV → zM → Prop}
theorem c_takeIn {rc pl pt om ol : Int} {w N : Nat} {R O : Nat → Int} {l : List (List Int)} {x : List Int} (ho : mOb M m rc pl pt (l.length : Int) (N : Int) om ol) (hR : M (m + 8) = some (Sum.inr (0, 7680, Sum.inl (R)))) (hO : M (m + 9) = some (Sum.inr (0, 128, Sum.inl (O)))) (hw7 : w < 128) (hN : N ≤ 60) (hfd : fdR R O l N w) (hs : srt l) (hl : l.length < 128) (hll : ∀ z ∈ l, z.length = N ∧ ∀ y ∈ z, (0 : Int) ≤ y ∧ y ≤ 25) (hx : slc R (60 * w) N = x) (hxb : ∀ y ∈ x, (0 : Int) ≤ y ∧ y ≤ 25) (hQ : ∀ M' O' (l' : List (List Int)), mOb M' m rc pl pt (l'.length : Int) (N : Int) om ol → M' (m + 9) = some (Sum.inr (0, 128, Sum.inl (O'))) → fdR R O' l' N (w + 1) → srt l' → (∀ z, z ∈ l' ↔ z = x ∨ z ∈ l) → l'.length ≤ l.length + 1 → (∀ q, q ≠ m → q ≠ m + 9 → M' q = M q) → Q none M') : zCt lo (d + 1) kX7_takeIn 0 0 [(Sum.inr (Sum.inl (some (m)))), (Sum.inl ((w : Int)))] M Q := by
  have ho' := ho
  unfold mOb at ho
  have hxl : x.length = N := by rw [← hx, slc_len]
  have rl : zRr (l.length : Int) := zrr (by omega) (by omega)
  have rl1 : zRr ((l.length : Int) + 1) := zrr (by omega) (by omega)
  -- the place is found
  have put : ∀ (q : Nat) (by_ : Int) (w4 : Option zV), q ≤ l.length → (∀ j, j < q → llt (l.getD j []) x) → (∀ j, q ≤ j → j < l.length → llt x (l.getD j [])) → w4 = none → zm lo (d + 1) kX7_takeIn 0 0 Q (0, 0) 70 [some (Sum.inr (Sum.inl (some (m)))), some (Sum.inl ((w : Int))), some (Sum.inl ((q : Int))), some (Sum.inl (by_)), w4] [] M := by
    intro q by_ w4 hq a1 a2 hw4
    subst hw4
    have rq : zRr (q : Int) := zrr (by omega) (by omega)
    have key : ∀ (n k : Nat) (M1 : zM) (O1 : Nat → Int), k = q + n → k ≤ l.length → M1 (m + 9) = some (Sum.inr (0, 128, Sum.inl (O1))) → (∀ j, O1 j = if k < j ∧ j ≤ l.length then O (j - 1) else O j) → zfr M M1 (m + 9) (m + 10) → zm lo (d + 1) kX7_takeIn 0 0 Q (0, 0) 76 [some (Sum.inr (Sum.inl (some (m)))), some (Sum.inl ((w : Int))), some (Sum.inl ((q : Int))), some (Sum.inl (by_)), some (Sum.inl ((k : Int)))] [] M1 := by
      intro n
      induction n with
      | zero =>
        intro k M1 O1 hk hkl hO1 he hf
        have rk : zRr (k : Int) := zrr (by omega) (by omega)
        have n0 : M1 m = _ := (hf m (by omega)).trans ho
        have ek : k = q := by omega
        subst ek
        refine zgo [7, 76, 104] ?_
        simp only [↓zX_succ, ↓zstp_nil, ↓zstp_cons, ↓reduceIte, zpu_some, zpu_none, zcs, zg, zst, Nat.reduceAdd, Nat.reduceSub, Nat.reduceMul, Nat.reduceEqDiff, Nat.reduceLeDiff, Nat.reduceLT, Int.reduceToNat, Int.reduceAdd, Int.reduceSub, Int.reduceMul, Int.reduceNeg, Int.reduceLE, Int.reduceLT, Int.reduceEq, Int.cast_ofNat_Int, Int.reduceNatCast', true_and, and_true, and_self, Nat.le_refl, Nat.add_zero, Nat.zero_add, Nat.zero_le, Nat.not_lt_zero, or_true, true_or, or_false, false_or, not_true_eq_false, not_false_eq_true, forall_const, true_implies, false_implies, implies_true, zup_same, zup_zup, Int.toNat_natCast, Nat.reduceDiv, List.length_cons, List.length_nil, Nat.succ_ne_zero, ne_eq, reduceCtorEq, zRl_m6, zRl_m5, zRl_m4, zRl_m3, zRl_m2, zRl_m1, zRl_0, zRl_1, zRl_2, zRl_3, zRl_4, zRl_5, zRl_6, zRl_7, zRl_8, zRl_12, zRl_31, zRl_32, zRl_33, zRl_59, zRl_60, zRl_64, zRl_67, zRl_97, zRl_122, zRl_124, zRl_126, zRl_128, zRl_336, zRl_672, zRl_1680, zRl_2016, zRl_7680, o_X7_takeIn, r_X7_takeIn, eX7_takeIn_0, q_aload_0, eX7_takeIn_1, q_getfield, zqg_s, zqv_s, zF_7_69, eX7_takeIn_4, q_istore_2n, q_istore_2i, q_istore_2a, eX7_takeIn_5, q_iconst, eX7_takeIn_6, q_istore_3n, q_istore_3i, q_istore_3a, eX7_takeIn_7, q_iload_2, eX7_takeIn_8, q_if_le, eX7_takeIn_11, q_iload_3, eX7_takeIn_12, eX7_takeIn_15, eX7_takeIn_16, zF_7_31, eX7_takeIn_19, q_bipush, eX7_takeIn_21, eX7_takeIn_22, zF_7_34, eX7_takeIn_25, eX7_takeIn_26, eX7_takeIn_27, q_isub, eX7_takeIn_28, q_iaload, zqal_s, eX7_takeIn_29, q_imul, eX7_takeIn_30, eX7_takeIn_31, eX7_takeIn_34, eX7_takeIn_36, q_iload_1, eX7_takeIn_37, eX7_takeIn_38, eX7_takeIn_39, zF_7_72, eX7_takeIn_42, q_invs, zqst_s, zqst_c, zqcp_s, zqc_s, zC_7_75, o_X7_compared, zqcs_5, eX7_takeIn_45, eX7_takeIn_46, eX7_takeIn_47, eX7_takeIn_48, eX7_takeIn_51, eX7_takeIn_52, q_goto, eX7_takeIn_55, eX7_takeIn_56, eX7_takeIn_57, eX7_takeIn_58, eX7_takeIn_61, eX7_takeIn_62, eX7_takeIn_65, eX7_takeIn_66, q_if_ne, eX7_takeIn_69, q_return, zqe_s, eX7_takeIn_70, eX7_takeIn_71, eX7_takeIn_74, q_istore_4n, q_istore_4i, q_istore_4a, eX7_takeIn_76, q_iload_4, eX7_takeIn_78, eX7_takeIn_79, q_icmp_le, eX7_takeIn_82, eX7_takeIn_83, eX7_takeIn_86, eX7_takeIn_88, eX7_takeIn_89, eX7_takeIn_92, eX7_takeIn_94, eX7_takeIn_95, eX7_takeIn_96, eX7_takeIn_97, q_iastore, zqas_s, eX7_takeIn_98, q_iinc_4n, q_iinc_4i, q_iinc_4a, eX7_takeIn_101, eX7_takeIn_104, eX7_takeIn_105, eX7_takeIn_108, eX7_takeIn_109, eX7_takeIn_110, eX7_takeIn_111, eX7_takeIn_112, q_dup_i, q_dup_a, eX7_takeIn_113, eX7_takeIn_116, eX7_takeIn_117, q_iadd, eX7_takeIn_118, q_putfield, q_putfieldR, zqp_s, zqr_s, zqw_s, eX7_takeIn_121, rk]
        refine ⟨fun _ => ?_, fun q => by omega⟩
        have n1 : ∀ c, zup M1 (m + 9) c m = M1 m := fun c => zup_ne (by omega)
        refine zgo [7, 76] ?_
        simp only [↓zX_succ, ↓zstp_nil, ↓zstp_cons, ↓reduceIte, zpu_some, zpu_none, zcs, zg, zst, Nat.reduceAdd, Nat.reduceSub, Nat.reduceMul, Nat.reduceEqDiff, Nat.reduceLeDiff, Nat.reduceLT, Int.reduceToNat, Int.reduceAdd, Int.reduceSub, Int.reduceMul, Int.reduceNeg, Int.reduceLE, Int.reduceLT, Int.reduceEq, Int.cast_ofNat_Int, Int.reduceNatCast', true_and, and_true, and_self, Nat.le_refl, Nat.add_zero, Nat.zero_add, Nat.zero_le, Nat.not_lt_zero, or_true, true_or, or_false, false_or, not_true_eq_false, not_false_eq_true, forall_const, true_implies, false_implies, implies_true, zup_same, zup_zup, Int.toNat_natCast, Nat.reduceDiv, List.length_cons, List.length_nil, Nat.succ_ne_zero, ne_eq, reduceCtorEq, zRl_m6, zRl_m5, zRl_m4, zRl_m3, zRl_m2, zRl_m1, zRl_0, zRl_1, zRl_2, zRl_3, zRl_4, zRl_5, zRl_6, zRl_7, zRl_8, zRl_12, zRl_31, zRl_32, zRl_33, zRl_59, zRl_60, zRl_64, zRl_67, zRl_97, zRl_122, zRl_124, zRl_126, zRl_128, zRl_336, zRl_672, zRl_1680, zRl_2016, zRl_7680, o_X7_takeIn, r_X7_takeIn, eX7_takeIn_0, q_aload_0, eX7_takeIn_1, q_getfield, zqg_s, zqv_s, zF_7_69, eX7_takeIn_4, q_istore_2n, q_istore_2i, q_istore_2a, eX7_takeIn_5, q_iconst, eX7_takeIn_6, q_istore_3n, q_istore_3i, q_istore_3a, eX7_takeIn_7, q_iload_2, eX7_takeIn_8, q_if_le, eX7_takeIn_11, q_iload_3, eX7_takeIn_12, eX7_takeIn_15, eX7_takeIn_16, zF_7_31, eX7_takeIn_19, q_bipush, eX7_takeIn_21, eX7_takeIn_22, zF_7_34, eX7_takeIn_25, eX7_takeIn_26, eX7_takeIn_27, q_isub, eX7_takeIn_28, q_iaload, zqal_s, eX7_takeIn_29, q_imul, eX7_takeIn_30, eX7_takeIn_31, eX7_takeIn_34, eX7_takeIn_36, q_iload_1, eX7_takeIn_37, eX7_takeIn_38, eX7_takeIn_39, zF_7_72, eX7_takeIn_42, q_invs, zqst_s, zqst_c, zqcp_s, zqc_s, zC_7_75, o_X7_compared, zqcs_5, eX7_takeIn_45, eX7_takeIn_46, eX7_takeIn_47, eX7_takeIn_48, eX7_takeIn_51, eX7_takeIn_52, q_goto, eX7_takeIn_55, eX7_takeIn_56, eX7_takeIn_57, eX7_takeIn_58, eX7_takeIn_61, eX7_takeIn_62, eX7_takeIn_65, eX7_takeIn_66, q_if_ne, eX7_takeIn_69, q_return, zqe_s, eX7_takeIn_70, eX7_takeIn_71, eX7_takeIn_74, q_istore_4n, q_istore_4i, q_istore_4a, eX7_takeIn_76, q_iload_4, eX7_takeIn_78, eX7_takeIn_79, q_icmp_le, eX7_takeIn_82, eX7_takeIn_83, eX7_takeIn_86, eX7_takeIn_88, eX7_takeIn_89, eX7_takeIn_92, eX7_takeIn_94, eX7_takeIn_95, eX7_takeIn_96, eX7_takeIn_97, q_iastore, zqas_s, eX7_takeIn_98, q_iinc_4n, q_iinc_4i, q_iinc_4a, eX7_takeIn_101, eX7_takeIn_104, eX7_takeIn_105, eX7_takeIn_108, eX7_takeIn_109, eX7_takeIn_110, eX7_takeIn_111, eX7_takeIn_112, q_dup_i, q_dup_a, eX7_takeIn_113, eX7_takeIn_116, eX7_takeIn_117, q_iadd, eX7_takeIn_118, q_putfield, q_putfieldR, zqp_s, zqr_s, zqw_s, eX7_takeIn_121, n0, n1, hO1, rl1]
        refine ⟨by omega, by omega, ?_⟩
        have hlen : (l.take k ++ x :: l.drop k).length = l.length + 1 := by
          rw [List.length_append, List.length_cons, List.length_take, List.length_drop]
          omega
        refine hQ _ (zu O1 k (w : Int)) (l.take k ++ x :: l.drop k) ?_ ?_ (fun j hj => ?_) (ins_srt hq hs a1 a2) (fun z => ins_mem) (by omega) (fun q c1 c2 => by rw [zup_ne (by omega), zup_ne (by omega), hf q (by omega)])
        · rw [hlen, Int.natCast_add]; exact zup_same
        · rw [zup_ne (by omega)]; exact zup_same
        · rw [hlen] at hj
          rw [ins_get hq]
          by_cases c : j = k
          · subst c
            rw [zu_same, if_neg (by omega), if_pos rfl]
            exact ⟨by omega, by omega, by rw [Int.toNat_natCast]; exact hx⟩
          · rw [zu_ne c, he]
            by_cases c2 : j < k
            · rw [if_pos c2, if_neg (by omega)]
              obtain ⟨u1, u2, u3⟩ := hfd j (by omega)
              exact ⟨u1, by omega, u3⟩
            · rw [if_neg c2, if_neg c, if_pos (by omega)]
              obtain ⟨u1, u2, u3⟩ := hfd (j - 1) (by omega)
              exact ⟨u1, by omega, u3⟩
      | succ n ih =>
        intro k M1 O1 hk hkl hO1 he hf
        have rk : zRr (k : Int) := zrr (by omega) (by omega)
        have rk1 : zRr ((k : Int) - 1) := zrr (by omega) (by omega)
        have rk2 : zRr ((k : Int) + -1) := zrr (by omega) (by omega)
        have n0 : M1 m = _ := (hf m (by omega)).trans ho
        have e1 : ((k : Int) - 1).toNat = k - 1 := by omega
        refine zgo [7, 76, 104] ?_
        simp only [↓zX_succ, ↓zstp_nil, ↓zstp_cons, ↓reduceIte, zpu_some, zpu_none, zcs, zg, zst, Nat.reduceAdd, Nat.reduceSub, Nat.reduceMul, Nat.reduceEqDiff, Nat.reduceLeDiff, Nat.reduceLT, Int.reduceToNat, Int.reduceAdd, Int.reduceSub, Int.reduceMul, Int.reduceNeg, Int.reduceLE, Int.reduceLT, Int.reduceEq, Int.cast_ofNat_Int, Int.reduceNatCast', true_and, and_true, and_self, Nat.le_refl, Nat.add_zero, Nat.zero_add, Nat.zero_le, Nat.not_lt_zero, or_true, true_or, or_false, false_or, not_true_eq_false, not_false_eq_true, forall_const, true_implies, false_implies, implies_true, zup_same, zup_zup, Int.toNat_natCast, Nat.reduceDiv, List.length_cons, List.length_nil, Nat.succ_ne_zero, ne_eq, reduceCtorEq, zRl_m6, zRl_m5, zRl_m4, zRl_m3, zRl_m2, zRl_m1, zRl_0, zRl_1, zRl_2, zRl_3, zRl_4, zRl_5, zRl_6, zRl_7, zRl_8, zRl_12, zRl_31, zRl_32, zRl_33, zRl_59, zRl_60, zRl_64, zRl_67, zRl_97, zRl_122, zRl_124, zRl_126, zRl_128, zRl_336, zRl_672, zRl_1680, zRl_2016, zRl_7680, o_X7_takeIn, r_X7_takeIn, eX7_takeIn_0, q_aload_0, eX7_takeIn_1, q_getfield, zqg_s, zqv_s, zF_7_69, eX7_takeIn_4, q_istore_2n, q_istore_2i, q_istore_2a, eX7_takeIn_5, q_iconst, eX7_takeIn_6, q_istore_3n, q_istore_3i, q_istore_3a, eX7_takeIn_7, q_iload_2, eX7_takeIn_8, q_if_le, eX7_takeIn_11, q_iload_3, eX7_takeIn_12, eX7_takeIn_15, eX7_takeIn_16, zF_7_31, eX7_takeIn_19, q_bipush, eX7_takeIn_21, eX7_takeIn_22, zF_7_34, eX7_takeIn_25, eX7_takeIn_26, eX7_takeIn_27, q_isub, eX7_takeIn_28, q_iaload, zqal_s, eX7_takeIn_29, q_imul, eX7_takeIn_30, eX7_takeIn_31, eX7_takeIn_34, eX7_takeIn_36, q_iload_1, eX7_takeIn_37, eX7_takeIn_38, eX7_takeIn_39, zF_7_72, eX7_takeIn_42, q_invs, zqst_s, zqst_c, zqcp_s, zqc_s, zC_7_75, o_X7_compared, zqcs_5, eX7_takeIn_45, eX7_takeIn_46, eX7_takeIn_47, eX7_takeIn_48, eX7_takeIn_51, eX7_takeIn_52, q_goto, eX7_takeIn_55, eX7_takeIn_56, eX7_takeIn_57, eX7_takeIn_58, eX7_takeIn_61, eX7_takeIn_62, eX7_takeIn_65, eX7_takeIn_66, q_if_ne, eX7_takeIn_69, q_return, zqe_s, eX7_takeIn_70, eX7_takeIn_71, eX7_takeIn_74, q_istore_4n, q_istore_4i, q_istore_4a, eX7_takeIn_76, q_iload_4, eX7_takeIn_78, eX7_takeIn_79, q_icmp_le, eX7_takeIn_82, eX7_takeIn_83, eX7_takeIn_86, eX7_takeIn_88, eX7_takeIn_89, eX7_takeIn_92, eX7_takeIn_94, eX7_takeIn_95, eX7_takeIn_96, eX7_takeIn_97, q_iastore, zqas_s, eX7_takeIn_98, q_iinc_4n, q_iinc_4i, q_iinc_4a, eX7_takeIn_101, eX7_takeIn_104, eX7_takeIn_105, eX7_takeIn_108, eX7_takeIn_109, eX7_takeIn_110, eX7_takeIn_111, eX7_takeIn_112, q_dup_i, q_dup_a, eX7_takeIn_113, eX7_takeIn_116, eX7_takeIn_117, q_iadd, eX7_takeIn_118, q_putfield, q_putfieldR, zqp_s, zqr_s, zqw_s, eX7_takeIn_121, rk, rq, rk1, rk2, n0, hO1, e1]
        refine ⟨fun q => by omega, fun _ => ⟨by omega, by omega, by omega, by omega, ?_⟩⟩
        rw [show (k : Int) + -1 = ((k - 1 : Nat) : Int) by omega]
        refine ih (k - 1) _ _ (by omega) (by omega) zup_same (fun j => ?_) (hf.up (by omega) (by omega))
        by_cases c : j = k
        · subst c
          rw [zu_same, if_pos (by omega), he, if_neg (by omega)]
        · rw [zu_ne c, he]
          by_cases c2 : k < j ∧ j ≤ l.length
          · rw [if_pos c2, if_pos (by omega)]
          · rw [if_neg c2, if_neg (by omega)]
    refine zgo [7, 76, 104] ?_
    simp only [↓zX_succ, ↓zstp_nil, ↓zstp_cons, ↓reduceIte, zpu_some, zpu_none, zcs, zg, zst, Nat.reduceAdd, Nat.reduceSub, Nat.reduceMul, Nat.reduceEqDiff, Nat.reduceLeDiff, Nat.reduceLT, Int.reduceToNat, Int.reduceAdd, Int.reduceSub, Int.reduceMul, Int.reduceNeg, Int.reduceLE, Int.reduceLT, Int.reduceEq, Int.cast_ofNat_Int, Int.reduceNatCast', true_and, and_true, and_self, Nat.le_refl, Nat.add_zero, Nat.zero_add, Nat.zero_le, Nat.not_lt_zero, or_true, true_or, or_false, false_or, not_true_eq_false, not_false_eq_true, forall_const, true_implies, false_implies, implies_true, zup_same, zup_zup, Int.toNat_natCast, Nat.reduceDiv, List.length_cons, List.length_nil, Nat.succ_ne_zero, ne_eq, reduceCtorEq, zRl_m6, zRl_m5, zRl_m4, zRl_m3, zRl_m2, zRl_m1, zRl_0, zRl_1, zRl_2, zRl_3, zRl_4, zRl_5, zRl_6, zRl_7, zRl_8, zRl_12, zRl_31, zRl_32, zRl_33, zRl_59, zRl_60, zRl_64, zRl_67, zRl_97, zRl_122, zRl_124, zRl_126, zRl_128, zRl_336, zRl_672, zRl_1680, zRl_2016, zRl_7680, o_X7_takeIn, r_X7_takeIn, eX7_takeIn_0, q_aload_0, eX7_takeIn_1, q_getfield, zqg_s, zqv_s, zF_7_69, eX7_takeIn_4, q_istore_2n, q_istore_2i, q_istore_2a, eX7_takeIn_5, q_iconst, eX7_takeIn_6, q_istore_3n, q_istore_3i, q_istore_3a, eX7_takeIn_7, q_iload_2, eX7_takeIn_8, q_if_le, eX7_takeIn_11, q_iload_3, eX7_takeIn_12, eX7_takeIn_15, eX7_takeIn_16, zF_7_31, eX7_takeIn_19, q_bipush, eX7_takeIn_21, eX7_takeIn_22, zF_7_34, eX7_takeIn_25, eX7_takeIn_26, eX7_takeIn_27, q_isub, eX7_takeIn_28, q_iaload, zqal_s, eX7_takeIn_29, q_imul, eX7_takeIn_30, eX7_takeIn_31, eX7_takeIn_34, eX7_takeIn_36, q_iload_1, eX7_takeIn_37, eX7_takeIn_38, eX7_takeIn_39, zF_7_72, eX7_takeIn_42, q_invs, zqst_s, zqst_c, zqcp_s, zqc_s, zC_7_75, o_X7_compared, zqcs_5, eX7_takeIn_45, eX7_takeIn_46, eX7_takeIn_47, eX7_takeIn_48, eX7_takeIn_51, eX7_takeIn_52, q_goto, eX7_takeIn_55, eX7_takeIn_56, eX7_takeIn_57, eX7_takeIn_58, eX7_takeIn_61, eX7_takeIn_62, eX7_takeIn_65, eX7_takeIn_66, q_if_ne, eX7_takeIn_69, q_return, zqe_s, eX7_takeIn_70, eX7_takeIn_71, eX7_takeIn_74, q_istore_4n, q_istore_4i, q_istore_4a, eX7_takeIn_76, q_iload_4, eX7_takeIn_78, eX7_takeIn_79, q_icmp_le, eX7_takeIn_82, eX7_takeIn_83, eX7_takeIn_86, eX7_takeIn_88, eX7_takeIn_89, eX7_takeIn_92, eX7_takeIn_94, eX7_takeIn_95, eX7_takeIn_96, eX7_takeIn_97, q_iastore, zqas_s, eX7_takeIn_98, q_iinc_4n, q_iinc_4i, q_iinc_4a, eX7_takeIn_101, eX7_takeIn_104, eX7_takeIn_105, eX7_takeIn_108, eX7_takeIn_109, eX7_takeIn_110, eX7_takeIn_111, eX7_takeIn_112, q_dup_i, q_dup_a, eX7_takeIn_113, eX7_takeIn_116, eX7_takeIn_117, q_iadd, eX7_takeIn_118, q_putfield, q_putfieldR, zqp_s, zqr_s, zqw_s, eX7_takeIn_121, ho]
    exact key (l.length - q) l.length M O (by omega) (Nat.le_refl _) hO (fun j => by rw [if_neg (by omega)]) zfr_rf
  have loop : ∀ (q : Nat) (by_ : Int), q ≤ l.length → 0 < by_ → zRr by_ → (∀ j, q ≤ j → j < l.length → llt x (l.getD j [])) → zm lo (d + 1) kX7_takeIn 0 0 Q (0, 0) 7 [some (Sum.inr (Sum.inl (some (m)))), some (Sum.inl ((w : Int))), some (Sum.inl ((q : Int))), some (Sum.inl (by_)), none] [] M := by
    intro q
    induction q with
    | zero =>
      intro by_ hq hby rby a2
      refine zgo [7, 70] ?_
      simp only [↓zX_succ, ↓zstp_nil, ↓zstp_cons, ↓reduceIte, zpu_some, zpu_none, zcs, zg, zst, Nat.reduceAdd, Nat.reduceSub, Nat.reduceMul, Nat.reduceEqDiff, Nat.reduceLeDiff, Nat.reduceLT, Int.reduceToNat, Int.reduceAdd, Int.reduceSub, Int.reduceMul, Int.reduceNeg, Int.reduceLE, Int.reduceLT, Int.reduceEq, Int.cast_ofNat_Int, Int.reduceNatCast', true_and, and_true, and_self, Nat.le_refl, Nat.add_zero, Nat.zero_add, Nat.zero_le, Nat.not_lt_zero, or_true, true_or, or_false, false_or, not_true_eq_false, not_false_eq_true, forall_const, true_implies, false_implies, implies_true, zup_same, zup_zup, Int.toNat_natCast, Nat.reduceDiv, List.length_cons, List.length_nil, Nat.succ_ne_zero, ne_eq, reduceCtorEq, zRl_m6, zRl_m5, zRl_m4, zRl_m3, zRl_m2, zRl_m1, zRl_0, zRl_1, zRl_2, zRl_3, zRl_4, zRl_5, zRl_6, zRl_7, zRl_8, zRl_12, zRl_31, zRl_32, zRl_33, zRl_59, zRl_60, zRl_64, zRl_67, zRl_97, zRl_122, zRl_124, zRl_126, zRl_128, zRl_336, zRl_672, zRl_1680, zRl_2016, zRl_7680, o_X7_takeIn, r_X7_takeIn, eX7_takeIn_0, q_aload_0, eX7_takeIn_1, q_getfield, zqg_s, zqv_s, zF_7_69, eX7_takeIn_4, q_istore_2n, q_istore_2i, q_istore_2a, eX7_takeIn_5, q_iconst, eX7_takeIn_6, q_istore_3n, q_istore_3i, q_istore_3a, eX7_takeIn_7, q_iload_2, eX7_takeIn_8, q_if_le, eX7_takeIn_11, q_iload_3, eX7_takeIn_12, eX7_takeIn_15, eX7_takeIn_16, zF_7_31, eX7_takeIn_19, q_bipush, eX7_takeIn_21, eX7_takeIn_22, zF_7_34, eX7_takeIn_25, eX7_takeIn_26, eX7_takeIn_27, q_isub, eX7_takeIn_28, q_iaload, zqal_s, eX7_takeIn_29, q_imul, eX7_takeIn_30, eX7_takeIn_31, eX7_takeIn_34, eX7_takeIn_36, q_iload_1, eX7_takeIn_37, eX7_takeIn_38, eX7_takeIn_39, zF_7_72, eX7_takeIn_42, q_invs, zqst_s, zqst_c, zqcp_s, zqc_s, zC_7_75, o_X7_compared, zqcs_5, eX7_takeIn_45, eX7_takeIn_46, eX7_takeIn_47, eX7_takeIn_48, eX7_takeIn_51, eX7_takeIn_52, q_goto, eX7_takeIn_55, eX7_takeIn_56, eX7_takeIn_57, eX7_takeIn_58, eX7_takeIn_61, eX7_takeIn_62, eX7_takeIn_65, eX7_takeIn_66, q_if_ne, eX7_takeIn_69, q_return, zqe_s, eX7_takeIn_70, eX7_takeIn_71, eX7_takeIn_74, q_istore_4n, q_istore_4i, q_istore_4a, eX7_takeIn_76, q_iload_4, eX7_takeIn_78, eX7_takeIn_79, q_icmp_le, eX7_takeIn_82, eX7_takeIn_83, eX7_takeIn_86, eX7_takeIn_88, eX7_takeIn_89, eX7_takeIn_92, eX7_takeIn_94, eX7_takeIn_95, eX7_takeIn_96, eX7_takeIn_97, q_iastore, zqas_s, eX7_takeIn_98, q_iinc_4n, q_iinc_4i, q_iinc_4a, eX7_takeIn_101, eX7_takeIn_104, eX7_takeIn_105, eX7_takeIn_108, eX7_takeIn_109, eX7_takeIn_110, eX7_takeIn_111, eX7_takeIn_112, q_dup_i, q_dup_a, eX7_takeIn_113, eX7_takeIn_116, eX7_takeIn_117, q_iadd, eX7_takeIn_118, q_putfield, q_putfieldR, zqp_s, zqr_s, zqw_s, eX7_takeIn_121]
      exact put 0 by_ none hq (fun j hj => by omega) a2 rfl
    | succ q ih =>
      intro by_ hq hby rby a2
      have rq : zRr ((q + 1 : Nat) : Int) := zrr (by omega) (by omega)
      have rq1 : zRr (((q + 1 : Nat) : Int) - 1) := zrr (by omega) (by omega)
      have e1 : (((q + 1 : Nat) : Int) - 1).toNat = q := by omega
      obtain ⟨f1, f2, f3⟩ := hfd q (by omega)
      have r1 : zRr (60 * O q) := zrr (by omega) (by omega)
      have r2 : zRr (60 * (w : Int)) := zrr (by omega) (by omega)
      have c1 : (((q + 1 : Nat) : Int) ≤ 0) = False := eq_false (by omega)
      have c2 : (by_ ≤ 0) = False := eq_false (by omega)
      refine zgo [7, 70] ?_
      simp only [↓zX_succ, ↓zstp_nil, ↓zstp_cons, ↓reduceIte, zpu_some, zpu_none, zcs, zg, zst, Nat.reduceAdd, Nat.reduceSub, Nat.reduceMul, Nat.reduceEqDiff, Nat.reduceLeDiff, Nat.reduceLT, Int.reduceToNat, Int.reduceAdd, Int.reduceSub, Int.reduceMul, Int.reduceNeg, Int.reduceLE, Int.reduceLT, Int.reduceEq, Int.cast_ofNat_Int, Int.reduceNatCast', true_and, and_true, and_self, Nat.le_refl, Nat.add_zero, Nat.zero_add, Nat.zero_le, Nat.not_lt_zero, or_true, true_or, or_false, false_or, not_true_eq_false, not_false_eq_true, forall_const, true_implies, false_implies, implies_true, zup_same, zup_zup, Int.toNat_natCast, Nat.reduceDiv, List.length_cons, List.length_nil, Nat.succ_ne_zero, ne_eq, reduceCtorEq, zRl_m6, zRl_m5, zRl_m4, zRl_m3, zRl_m2, zRl_m1, zRl_0, zRl_1, zRl_2, zRl_3, zRl_4, zRl_5, zRl_6, zRl_7, zRl_8, zRl_12, zRl_31, zRl_32, zRl_33, zRl_59, zRl_60, zRl_64, zRl_67, zRl_97, zRl_122, zRl_124, zRl_126, zRl_128, zRl_336, zRl_672, zRl_1680, zRl_2016, zRl_7680, o_X7_takeIn, r_X7_takeIn, eX7_takeIn_0, q_aload_0, eX7_takeIn_1, q_getfield, zqg_s, zqv_s, zF_7_69, eX7_takeIn_4, q_istore_2n, q_istore_2i, q_istore_2a, eX7_takeIn_5, q_iconst, eX7_takeIn_6, q_istore_3n, q_istore_3i, q_istore_3a, eX7_takeIn_7, q_iload_2, eX7_takeIn_8, q_if_le, eX7_takeIn_11, q_iload_3, eX7_takeIn_12, eX7_takeIn_15, eX7_takeIn_16, zF_7_31, eX7_takeIn_19, q_bipush, eX7_takeIn_21, eX7_takeIn_22, zF_7_34, eX7_takeIn_25, eX7_takeIn_26, eX7_takeIn_27, q_isub, eX7_takeIn_28, q_iaload, zqal_s, eX7_takeIn_29, q_imul, eX7_takeIn_30, eX7_takeIn_31, eX7_takeIn_34, eX7_takeIn_36, q_iload_1, eX7_takeIn_37, eX7_takeIn_38, eX7_takeIn_39, zF_7_72, eX7_takeIn_42, q_invs, zqst_s, zqst_c, zqcp_s, zqc_s, zC_7_75, o_X7_compared, zqcs_5, eX7_takeIn_45, eX7_takeIn_46, eX7_takeIn_47, eX7_takeIn_48, eX7_takeIn_51, eX7_takeIn_52, q_goto, eX7_takeIn_55, eX7_takeIn_56, eX7_takeIn_57, eX7_takeIn_58, eX7_takeIn_61, eX7_takeIn_62, eX7_takeIn_65, eX7_takeIn_66, q_if_ne, eX7_takeIn_69, q_return, zqe_s, eX7_takeIn_70, eX7_takeIn_71, eX7_takeIn_74, q_istore_4n, q_istore_4i, q_istore_4a, eX7_takeIn_76, q_iload_4, eX7_takeIn_78, eX7_takeIn_79, q_icmp_le, eX7_takeIn_82, eX7_takeIn_83, eX7_takeIn_86, eX7_takeIn_88, eX7_takeIn_89, eX7_takeIn_92, eX7_takeIn_94, eX7_takeIn_95, eX7_takeIn_96, eX7_takeIn_97, q_iastore, zqas_s, eX7_takeIn_98, q_iinc_4n, q_iinc_4i, q_iinc_4a, eX7_takeIn_101, eX7_takeIn_104, eX7_takeIn_105, eX7_takeIn_108, eX7_takeIn_109, eX7_takeIn_110, eX7_takeIn_111, eX7_takeIn_112, q_dup_i, q_dup_a, eX7_takeIn_113, eX7_takeIn_116, eX7_takeIn_117, q_iadd, eX7_takeIn_118, q_putfield, q_putfieldR, zqp_s, zqr_s, zqw_s, eX7_takeIn_121, rq, rq1, rby, ho, hO, e1, r1, r2, c1, c2]
      refine ⟨by omega, by omega, ?_⟩
      rw [show 60 * O q = ((60 * (O q).toNat : Nat) : Int) by omega, show 60 * (w : Int) = ((60 * w : Nat) : Int) by omega]
      have hmem := getD_mem (l := l) (k := q) (by omega)
      have hb1 : zB (fun j => R (60 * (O q).toNat + j)) 0 N := tkl_zB (by rw [show tkl (fun j => R (60 * (O q).toNat + j)) N = l.getD q [] from f3]; exact (hll _ hmem).2)
      have hb2 : zB (fun j => R (60 * w + j)) 0 N := tkl_zB (by rw [show tkl (fun j => R (60 * w + j)) N = x from hx]; exact hxb)
      refine c_compared hR hR (by omega) (by omega) (by omega) (by omega) hb1 hb2 ?_
      rw [f3, hx]
      have hlen : (l.getD q []).length = x.length := by rw [(hll _ hmem).1, hxl]
      have v1 := lcm_lt hlen
      have v2 := lcm_eq hlen
      have v3 := lcm_gt hlen
      have rv : zRr (lcm_ (l.getD q []) x) := lcm_rr (hll _ hmem).2 hxb
      generalize lcm_ (l.getD q []) x = v at *
      refine zgo [7, 70] ?_
      simp only [↓zX_succ, ↓zstp_nil, ↓zstp_cons, ↓reduceIte, zpu_some, zpu_none, zcs, zg, zst, Nat.reduceAdd, Nat.reduceSub, Nat.reduceMul, Nat.reduceEqDiff, Nat.reduceLeDiff, Nat.reduceLT, Int.reduceToNat, Int.reduceAdd, Int.reduceSub, Int.reduceMul, Int.reduceNeg, Int.reduceLE, Int.reduceLT, Int.reduceEq, Int.cast_ofNat_Int, Int.reduceNatCast', true_and, and_true, and_self, Nat.le_refl, Nat.add_zero, Nat.zero_add, Nat.zero_le, Nat.not_lt_zero, or_true, true_or, or_false, false_or, not_true_eq_false, not_false_eq_true, forall_const, true_implies, false_implies, implies_true, zup_same, zup_zup, Int.toNat_natCast, Nat.reduceDiv, List.length_cons, List.length_nil, Nat.succ_ne_zero, ne_eq, reduceCtorEq, zRl_m6, zRl_m5, zRl_m4, zRl_m3, zRl_m2, zRl_m1, zRl_0, zRl_1, zRl_2, zRl_3, zRl_4, zRl_5, zRl_6, zRl_7, zRl_8, zRl_12, zRl_31, zRl_32, zRl_33, zRl_59, zRl_60, zRl_64, zRl_67, zRl_97, zRl_122, zRl_124, zRl_126, zRl_128, zRl_336, zRl_672, zRl_1680, zRl_2016, zRl_7680, o_X7_takeIn, r_X7_takeIn, eX7_takeIn_0, q_aload_0, eX7_takeIn_1, q_getfield, zqg_s, zqv_s, zF_7_69, eX7_takeIn_4, q_istore_2n, q_istore_2i, q_istore_2a, eX7_takeIn_5, q_iconst, eX7_takeIn_6, q_istore_3n, q_istore_3i, q_istore_3a, eX7_takeIn_7, q_iload_2, eX7_takeIn_8, q_if_le, eX7_takeIn_11, q_iload_3, eX7_takeIn_12, eX7_takeIn_15, eX7_takeIn_16, zF_7_31, eX7_takeIn_19, q_bipush, eX7_takeIn_21, eX7_takeIn_22, zF_7_34, eX7_takeIn_25, eX7_takeIn_26, eX7_takeIn_27, q_isub, eX7_takeIn_28, q_iaload, zqal_s, eX7_takeIn_29, q_imul, eX7_takeIn_30, eX7_takeIn_31, eX7_takeIn_34, eX7_takeIn_36, q_iload_1, eX7_takeIn_37, eX7_takeIn_38, eX7_takeIn_39, zF_7_72, eX7_takeIn_42, q_invs, zqst_s, zqst_c, zqcp_s, zqc_s, zC_7_75, o_X7_compared, zqcs_5, eX7_takeIn_45, eX7_takeIn_46, eX7_takeIn_47, eX7_takeIn_48, eX7_takeIn_51, eX7_takeIn_52, q_goto, eX7_takeIn_55, eX7_takeIn_56, eX7_takeIn_57, eX7_takeIn_58, eX7_takeIn_61, eX7_takeIn_62, eX7_takeIn_65, eX7_takeIn_66, q_if_ne, eX7_takeIn_69, q_return, zqe_s, eX7_takeIn_70, eX7_takeIn_71, eX7_takeIn_74, q_istore_4n, q_istore_4i, q_istore_4a, eX7_takeIn_76, q_iload_4, eX7_takeIn_78, eX7_takeIn_79, q_icmp_le, eX7_takeIn_82, eX7_takeIn_83, eX7_takeIn_86, eX7_takeIn_88, eX7_takeIn_89, eX7_takeIn_92, eX7_takeIn_94, eX7_takeIn_95, eX7_takeIn_96, eX7_takeIn_97, q_iastore, zqas_s, eX7_takeIn_98, q_iinc_4n, q_iinc_4i, q_iinc_4a, eX7_takeIn_101, eX7_takeIn_104, eX7_takeIn_105, eX7_takeIn_108, eX7_takeIn_109, eX7_takeIn_110, eX7_takeIn_111, eX7_takeIn_112, q_dup_i, q_dup_a, eX7_takeIn_113, eX7_takeIn_116, eX7_takeIn_117, q_iadd, eX7_takeIn_118, q_putfield, q_putfieldR, zqp_s, zqr_s, zqw_s, eX7_takeIn_121, rv, rq, rq1, Int.sub_zero]
      refine ⟨fun c => ?_, fun c => ?_⟩
      · have c3 : (v ≤ 0) = True := eq_true (by omega)
        refine zgo [7, 70] ?_
        simp only [↓zX_succ, ↓zstp_nil, ↓zstp_cons, ↓reduceIte, zpu_some, zpu_none, zcs, zg, zst, Nat.reduceAdd, Nat.reduceSub, Nat.reduceMul, Nat.reduceEqDiff, Nat.reduceLeDiff, Nat.reduceLT, Int.reduceToNat, Int.reduceAdd, Int.reduceSub, Int.reduceMul, Int.reduceNeg, Int.reduceLE, Int.reduceLT, Int.reduceEq, Int.cast_ofNat_Int, Int.reduceNatCast', true_and, and_true, and_self, Nat.le_refl, Nat.add_zero, Nat.zero_add, Nat.zero_le, Nat.not_lt_zero, or_true, true_or, or_false, false_or, not_true_eq_false, not_false_eq_true, forall_const, true_implies, false_implies, implies_true, zup_same, zup_zup, Int.toNat_natCast, Nat.reduceDiv, List.length_cons, List.length_nil, Nat.succ_ne_zero, ne_eq, reduceCtorEq, zRl_m6, zRl_m5, zRl_m4, zRl_m3, zRl_m2, zRl_m1, zRl_0, zRl_1, zRl_2, zRl_3, zRl_4, zRl_5, zRl_6, zRl_7, zRl_8, zRl_12, zRl_31, zRl_32, zRl_33, zRl_59, zRl_60, zRl_64, zRl_67, zRl_97, zRl_122, zRl_124, zRl_126, zRl_128, zRl_336, zRl_672, zRl_1680, zRl_2016, zRl_7680, o_X7_takeIn, r_X7_takeIn, eX7_takeIn_0, q_aload_0, eX7_takeIn_1, q_getfield, zqg_s, zqv_s, zF_7_69, eX7_takeIn_4, q_istore_2n, q_istore_2i, q_istore_2a, eX7_takeIn_5, q_iconst, eX7_takeIn_6, q_istore_3n, q_istore_3i, q_istore_3a, eX7_takeIn_7, q_iload_2, eX7_takeIn_8, q_if_le, eX7_takeIn_11, q_iload_3, eX7_takeIn_12, eX7_takeIn_15, eX7_takeIn_16, zF_7_31, eX7_takeIn_19, q_bipush, eX7_takeIn_21, eX7_takeIn_22, zF_7_34, eX7_takeIn_25, eX7_takeIn_26, eX7_takeIn_27, q_isub, eX7_takeIn_28, q_iaload, zqal_s, eX7_takeIn_29, q_imul, eX7_takeIn_30, eX7_takeIn_31, eX7_takeIn_34, eX7_takeIn_36, q_iload_1, eX7_takeIn_37, eX7_takeIn_38, eX7_takeIn_39, zF_7_72, eX7_takeIn_42, q_invs, zqst_s, zqst_c, zqcp_s, zqc_s, zC_7_75, o_X7_compared, zqcs_5, eX7_takeIn_45, eX7_takeIn_46, eX7_takeIn_47, eX7_takeIn_48, eX7_takeIn_51, eX7_takeIn_52, q_goto, eX7_takeIn_55, eX7_takeIn_56, eX7_takeIn_57, eX7_takeIn_58, eX7_takeIn_61, eX7_takeIn_62, eX7_takeIn_65, eX7_takeIn_66, q_if_ne, eX7_takeIn_69, q_return, zqe_s, eX7_takeIn_70, eX7_takeIn_71, eX7_takeIn_74, q_istore_4n, q_istore_4i, q_istore_4a, eX7_takeIn_76, q_iload_4, eX7_takeIn_78, eX7_takeIn_79, q_icmp_le, eX7_takeIn_82, eX7_takeIn_83, eX7_takeIn_86, eX7_takeIn_88, eX7_takeIn_89, eX7_takeIn_92, eX7_takeIn_94, eX7_takeIn_95, eX7_takeIn_96, eX7_takeIn_97, q_iastore, zqas_s, eX7_takeIn_98, q_iinc_4n, q_iinc_4i, q_iinc_4a, eX7_takeIn_101, eX7_takeIn_104, eX7_takeIn_105, eX7_takeIn_108, eX7_takeIn_109, eX7_takeIn_110, eX7_takeIn_111, eX7_takeIn_112, q_dup_i, q_dup_a, eX7_takeIn_113, eX7_takeIn_116, eX7_takeIn_117, q_iadd, eX7_takeIn_118, q_putfield, q_putfieldR, zqp_s, zqr_s, zqw_s, eX7_takeIn_121, rq, rv, c1, c3]
        refine ⟨fun c4 => ?_, fun c4 => ?_⟩
        · have hlt : llt (l.getD q []) x := v1.mp (by omega)
          refine put (q + 1) v none hq (fun j hj => ?_) a2 rfl
          by_cases e : j = q
          · rw [e]; exact hlt
          · exact llt_tr (srt_get hs (show j < q by omega) (by omega)) hlt
        · have e : l.getD q [] = x := v2.mp (by omega)
          refine hQ M O l ho' hO (fun k hk => ⟨(hfd k hk).1, by have := (hfd k hk).2.1; omega, (hfd k hk).2.2⟩) hs (fun z => ⟨Or.inr, fun h => ?_⟩) (by omega) (fun _ _ _ => rfl)
          rcases h with h | h
          · rw [h, ← e]; exact hmem
          · exact h
      · have hgt : llt x (l.getD q []) := v3.mp (by omega)
        rw [show ((q + 1 : Nat) : Int) - 1 = (q : Int) by omega]
        refine ih v (by omega) (by omega) rv (fun j h1 h2 => ?_)
        by_cases e : j = q
        · rw [e]; exact hgt
        · exact a2 j (by omega) h2
  refine zct [some (Sum.inr (Sum.inl (some (m)))), some (Sum.inl ((w : Int))), none, none, none] rfl (Nat.le_of_ble_eq_true rfl) (by decide +kernel) rfl ?_
  refine zgo [7] ?_
  simp only [↓zX_succ, ↓zstp_nil, ↓zstp_cons, ↓reduceIte, zpu_some, zpu_none, zcs, zg, zst, Nat.reduceAdd, Nat.reduceSub, Nat.reduceMul, Nat.reduceEqDiff, Nat.reduceLeDiff, Nat.reduceLT, Int.reduceToNat, Int.reduceAdd, Int.reduceSub, Int.reduceMul, Int.reduceNeg, Int.reduceLE, Int.reduceLT, Int.reduceEq, Int.cast_ofNat_Int, Int.reduceNatCast', true_and, and_true, and_self, Nat.le_refl, Nat.add_zero, Nat.zero_add, Nat.zero_le, Nat.not_lt_zero, or_true, true_or, or_false, false_or, not_true_eq_false, not_false_eq_true, forall_const, true_implies, false_implies, implies_true, zup_same, zup_zup, Int.toNat_natCast, Nat.reduceDiv, List.length_cons, List.length_nil, Nat.succ_ne_zero, ne_eq, reduceCtorEq, zRl_m6, zRl_m5, zRl_m4, zRl_m3, zRl_m2, zRl_m1, zRl_0, zRl_1, zRl_2, zRl_3, zRl_4, zRl_5, zRl_6, zRl_7, zRl_8, zRl_12, zRl_31, zRl_32, zRl_33, zRl_59, zRl_60, zRl_64, zRl_67, zRl_97, zRl_122, zRl_124, zRl_126, zRl_128, zRl_336, zRl_672, zRl_1680, zRl_2016, zRl_7680, o_X7_takeIn, r_X7_takeIn, eX7_takeIn_0, q_aload_0, eX7_takeIn_1, q_getfield, zqg_s, zqv_s, zF_7_69, eX7_takeIn_4, q_istore_2n, q_istore_2i, q_istore_2a, eX7_takeIn_5, q_iconst, eX7_takeIn_6, q_istore_3n, q_istore_3i, q_istore_3a, eX7_takeIn_7, q_iload_2, eX7_takeIn_8, q_if_le, eX7_takeIn_11, q_iload_3, eX7_takeIn_12, eX7_takeIn_15, eX7_takeIn_16, zF_7_31, eX7_takeIn_19, q_bipush, eX7_takeIn_21, eX7_takeIn_22, zF_7_34, eX7_takeIn_25, eX7_takeIn_26, eX7_takeIn_27, q_isub, eX7_takeIn_28, q_iaload, zqal_s, eX7_takeIn_29, q_imul, eX7_takeIn_30, eX7_takeIn_31, eX7_takeIn_34, eX7_takeIn_36, q_iload_1, eX7_takeIn_37, eX7_takeIn_38, eX7_takeIn_39, zF_7_72, eX7_takeIn_42, q_invs, zqst_s, zqst_c, zqcp_s, zqc_s, zC_7_75, o_X7_compared, zqcs_5, eX7_takeIn_45, eX7_takeIn_46, eX7_takeIn_47, eX7_takeIn_48, eX7_takeIn_51, eX7_takeIn_52, q_goto, eX7_takeIn_55, eX7_takeIn_56, eX7_takeIn_57, eX7_takeIn_58, eX7_takeIn_61, eX7_takeIn_62, eX7_takeIn_65, eX7_takeIn_66, q_if_ne, eX7_takeIn_69, q_return, zqe_s, eX7_takeIn_70, eX7_takeIn_71, eX7_takeIn_74, q_istore_4n, q_istore_4i, q_istore_4a, eX7_takeIn_76, q_iload_4, eX7_takeIn_78, eX7_takeIn_79, q_icmp_le, eX7_takeIn_82, eX7_takeIn_83, eX7_takeIn_86, eX7_takeIn_88, eX7_takeIn_89, eX7_takeIn_92, eX7_takeIn_94, eX7_takeIn_95, eX7_takeIn_96, eX7_takeIn_97, q_iastore, zqas_s, eX7_takeIn_98, q_iinc_4n, q_iinc_4i, q_iinc_4a, eX7_takeIn_101, eX7_takeIn_104, eX7_takeIn_105, eX7_takeIn_108, eX7_takeIn_109, eX7_takeIn_110, eX7_takeIn_111, eX7_takeIn_112, q_dup_i, q_dup_a, eX7_takeIn_113, eX7_takeIn_116, eX7_takeIn_117, q_iadd, eX7_takeIn_118, q_putfield, q_putfieldR, zqp_s, zqr_s, zqw_s, eX7_takeIn_121, ho]
  exact loop l.length 1 (Nat.le_refl _) (by decide) (zrr (by decide) (by decide)) (fun j h1 h2 => by omega)
theorem rE_mem_f {t : Sc} {z : List Int} : z ∈ rEs t false ↔ ∃ w, w < 2 ^ t.1 ∧ z = rwW t w := by rw [rEs_mem, rwW_f]
theorem c_search {rc pl mn ln om ol : Int} {t : Sc} {R0 O0 : Nat → Int} {al : Bool} (ho : mOb M m rc pl (t.1 : Int) mn ln om ol) (hk : wkT M m t) (hw : wS t.1 t.2.1 t.2.2) (hR : M (m + 8) = some (Sum.inr (0, 7680, Sum.inl (R0)))) (hO : M (m + 9) = some (Sum.inr (0, 128, Sum.inl (O0)))) (hQ : ∀ M' R O (l : List (List Int)), l = (if al = true then RD t else rEs t false) → mOb M' m rc pl (t.1 : Int) (l.length : Int) (t.2.1 t.1 : Int) om ol → M' (m + 8) = some (Sum.inr (0, 7680, Sum.inl (R))) → M' (m + 9) = some (Sum.inr (0, 128, Sum.inl (O))) → fdR R O l (t.2.1 t.1) 128 → (∀ q, q ≠ m → q ≠ m + 8 → q ≠ m + 9 → M' q = M q) → Q none M') : zCt lo (d + 2) kX7_search 0 0 [(Sum.inr (Sum.inl (some (m)))), (Sum.inl (zb al))] M Q := by
  have ho' := ho
  unfold mOb at ho
  obtain ⟨B, T, h1, h2, h3, h4⟩ := id hk
  have hp := hw.2.1
  have h60 := hw.2.2.2.2.1
  have rt : zRr (t.1 : Int) := zrr (by omega) (by omega)
  have eN := h2 t.1 (Nat.le_refl _)
  have esh := zshl1 t.1 (by omega)
  have hpw : 2 ^ t.1 ≤ 64 := Nat.le_trans (Nat.pow_le_pow_right (n := 2) (by decide) hp) (by decide)
  have hpw1 := Nat.two_pow_pos t.1
  have hfin : ∀ l, srt l → (∀ z, z ∈ l ↔ ∃ w, w < (if al = true then 2 * 2 ^ t.1 else 2 ^ t.1) ∧ z = rwW t w) → l = (if al = true then RD t else rEs t false) := by
    intro l hs hm
    cases al with
    | true =>
      rw [if_pos rfl] at hm ⊢
      exact srt_uniq hs (RD_srt hw) (fun z => (hm z).trans (RD_ways hw).symm)
    | false =>
      rw [if_neg (by decide)] at hm ⊢
      exact srt_uniq hs rEs_srt (fun z => (hm z).trans rE_mem_f.symm)
  generalize hb : (if al = true then 2 * 2 ^ t.1 else 2 ^ t.1) = bd at *
  have hbd : bd ≤ 128 := by rw [← hb]; split <;> omega
  generalize hKK : 2 ^ t.1 = K at *
  have rK : zRr (K : Int) := zrr (by omega) (by omega)
  have rK2 : zRr (2 * (K : Int)) := zrr (by omega) (by omega)
  have loop : ∀ (n w : Nat) (M1 : zM) (R O : Nat → Int) (l : List (List Int)), w + n = bd → mOb M1 m rc pl (t.1 : Int) (l.length : Int) (t.2.1 t.1 : Int) om ol → M1 (m + 8) = some (Sum.inr (0, 7680, Sum.inl (R))) → M1 (m + 9) = some (Sum.inr (0, 128, Sum.inl (O))) → fdR R O l (t.2.1 t.1) w → srt l → (∀ z, z ∈ l ↔ ∃ w', w' < w ∧ z = rwW t w') → l.length ≤ w → (∀ q, q ≠ m → q ≠ m + 8 → q ≠ m + 9 → M1 q = M q) → zm lo (d + 2) kX7_search 0 0 Q (0, 0) 27 [some (Sum.inr (Sum.inl (some (m)))), some (Sum.inl (zb al)), some (Sum.inl ((K : Int))), some (Sum.inl ((w : Int)))] [] M1 := by
    intro n
    induction n with
    | zero =>
      intro w M1 R O l hwn ho1 hR1 hO1 hfd hs hm hl hf
      have rw1 : zRr (w : Int) := zrr (by omega) (by omega)
      have k0 := hQ M1 R O l (hfin l hs (by rw [show bd = w by omega]; exact hm)) ho1 hR1 hO1 (fun k hk => ⟨(hfd k hk).1, by have := (hfd k hk).2.1; omega, (hfd k hk).2.2⟩) hf
      cases al with
      | true =>
        rw [if_pos rfl] at hb
        refine zgo [27] ?_
        simp only [↓zX_succ, ↓zstp_nil, ↓zstp_cons, ↓reduceIte, zpu_some, zpu_none, zcs, zg, zst, Nat.reduceAdd, Nat.reduceSub, Nat.reduceMul, Nat.reduceEqDiff, Nat.reduceLeDiff, Nat.reduceLT, Int.reduceToNat, Int.reduceAdd, Int.reduceSub, Int.reduceMul, Int.reduceNeg, Int.reduceLE, Int.reduceLT, Int.reduceEq, Int.cast_ofNat_Int, Int.reduceNatCast', true_and, and_true, and_self, Nat.le_refl, Nat.add_zero, Nat.zero_add, Nat.zero_le, Nat.not_lt_zero, or_true, true_or, or_false, false_or, not_true_eq_false, not_false_eq_true, forall_const, true_implies, false_implies, implies_true, zup_same, zup_zup, Int.toNat_natCast, Nat.reduceDiv, List.length_cons, List.length_nil, Nat.succ_ne_zero, ne_eq, reduceCtorEq, zRl_m6, zRl_m5, zRl_m4, zRl_m3, zRl_m2, zRl_m1, zRl_0, zRl_1, zRl_2, zRl_3, zRl_4, zRl_5, zRl_6, zRl_7, zRl_8, zRl_12, zRl_31, zRl_32, zRl_33, zRl_59, zRl_60, zRl_64, zRl_67, zRl_97, zRl_122, zRl_124, zRl_126, zRl_128, zRl_336, zRl_672, zRl_1680, zRl_2016, zRl_7680, o_X7_search, r_X7_search, eX7_search_0, q_aload_0, eX7_search_1, q_iconst, eX7_search_2, q_putfield, q_putfieldR, zqp_s, zqr_s, zqw_s, zF_7_69, eX7_search_5, eX7_search_6, eX7_search_7, q_getfield, zqg_s, zqv_s, zF_7_25, eX7_search_10, eX7_search_11, zF_7_66, eX7_search_14, q_iaload, zqal_s, eX7_search_15, zF_7_72, eX7_search_18, eX7_search_19, eX7_search_20, eX7_search_23, q_ishl, eX7_search_24, q_istore_2n, q_istore_2i, q_istore_2a, eX7_search_25, eX7_search_26, q_istore_3n, q_istore_3i, q_istore_3a, eX7_search_27, q_iload_3, eX7_search_28, q_iload_1, eX7_search_29, q_if_eq, eX7_search_32, eX7_search_33, q_iload_2, eX7_search_34, q_imul, eX7_search_35, q_goto, eX7_search_38, eX7_search_39, q_icmp_ge, eX7_search_42, eX7_search_43, eX7_search_44, q_invv, zqo_s, zqc_s, zC_7_79, o_X7_layDown, zqcv_1, eX7_search_47, eX7_search_48, eX7_search_49, zC_7_83, o_X7_takeIn, eX7_search_52, q_iinc_3n, q_iinc_3i, q_iinc_3a, eX7_search_55, eX7_search_58, q_return, zqe_s, rw1, rK, rK2, zb_t]
        exact ⟨fun _ => k0, fun q => by omega⟩
      | false =>
        rw [if_neg (by decide)] at hb
        refine zgo [27] ?_
        simp only [↓zX_succ, ↓zstp_nil, ↓zstp_cons, ↓reduceIte, zpu_some, zpu_none, zcs, zg, zst, Nat.reduceAdd, Nat.reduceSub, Nat.reduceMul, Nat.reduceEqDiff, Nat.reduceLeDiff, Nat.reduceLT, Int.reduceToNat, Int.reduceAdd, Int.reduceSub, Int.reduceMul, Int.reduceNeg, Int.reduceLE, Int.reduceLT, Int.reduceEq, Int.cast_ofNat_Int, Int.reduceNatCast', true_and, and_true, and_self, Nat.le_refl, Nat.add_zero, Nat.zero_add, Nat.zero_le, Nat.not_lt_zero, or_true, true_or, or_false, false_or, not_true_eq_false, not_false_eq_true, forall_const, true_implies, false_implies, implies_true, zup_same, zup_zup, Int.toNat_natCast, Nat.reduceDiv, List.length_cons, List.length_nil, Nat.succ_ne_zero, ne_eq, reduceCtorEq, zRl_m6, zRl_m5, zRl_m4, zRl_m3, zRl_m2, zRl_m1, zRl_0, zRl_1, zRl_2, zRl_3, zRl_4, zRl_5, zRl_6, zRl_7, zRl_8, zRl_12, zRl_31, zRl_32, zRl_33, zRl_59, zRl_60, zRl_64, zRl_67, zRl_97, zRl_122, zRl_124, zRl_126, zRl_128, zRl_336, zRl_672, zRl_1680, zRl_2016, zRl_7680, o_X7_search, r_X7_search, eX7_search_0, q_aload_0, eX7_search_1, q_iconst, eX7_search_2, q_putfield, q_putfieldR, zqp_s, zqr_s, zqw_s, zF_7_69, eX7_search_5, eX7_search_6, eX7_search_7, q_getfield, zqg_s, zqv_s, zF_7_25, eX7_search_10, eX7_search_11, zF_7_66, eX7_search_14, q_iaload, zqal_s, eX7_search_15, zF_7_72, eX7_search_18, eX7_search_19, eX7_search_20, eX7_search_23, q_ishl, eX7_search_24, q_istore_2n, q_istore_2i, q_istore_2a, eX7_search_25, eX7_search_26, q_istore_3n, q_istore_3i, q_istore_3a, eX7_search_27, q_iload_3, eX7_search_28, q_iload_1, eX7_search_29, q_if_eq, eX7_search_32, eX7_search_33, q_iload_2, eX7_search_34, q_imul, eX7_search_35, q_goto, eX7_search_38, eX7_search_39, q_icmp_ge, eX7_search_42, eX7_search_43, eX7_search_44, q_invv, zqo_s, zqc_s, zC_7_79, o_X7_layDown, zqcv_1, eX7_search_47, eX7_search_48, eX7_search_49, zC_7_83, o_X7_takeIn, eX7_search_52, q_iinc_3n, q_iinc_3i, q_iinc_3a, eX7_search_55, eX7_search_58, q_return, zqe_s, rw1, rK, rK2, zb_f]
        exact ⟨fun _ => k0, fun q => by omega⟩
    | succ n ih =>
      intro w M1 R O l hwn ho1 hR1 hO1 hfd hs hm hl hf
      have rw1 : zRr (w : Int) := zrr (by omega) (by omega)
      have ho1' := ho1
      unfold mOb at ho1
      have hk1 : wkT M1 m t := ⟨B, T, (hf _ (by omega) (by omega) (by omega)).trans h1, h2, (hf _ (by omega) (by omega) (by omega)).trans h3, h4⟩
      have body : zm lo (d + 2) kX7_search 0 0 Q (0, 0) 42 [some (Sum.inr (Sum.inl (some (m)))), some (Sum.inl (zb al)), some (Sum.inl ((K : Int))), some (Sum.inl ((w : Int)))] [] M1 := by
        refine zgo [27] ?_
        simp only [↓zX_succ, ↓zstp_nil, ↓zstp_cons, ↓reduceIte, zpu_some, zpu_none, zcs, zg, zst, Nat.reduceAdd, Nat.reduceSub, Nat.reduceMul, Nat.reduceEqDiff, Nat.reduceLeDiff, Nat.reduceLT, Int.reduceToNat, Int.reduceAdd, Int.reduceSub, Int.reduceMul, Int.reduceNeg, Int.reduceLE, Int.reduceLT, Int.reduceEq, Int.cast_ofNat_Int, Int.reduceNatCast', true_and, and_true, and_self, Nat.le_refl, Nat.add_zero, Nat.zero_add, Nat.zero_le, Nat.not_lt_zero, or_true, true_or, or_false, false_or, not_true_eq_false, not_false_eq_true, forall_const, true_implies, false_implies, implies_true, zup_same, zup_zup, Int.toNat_natCast, Nat.reduceDiv, List.length_cons, List.length_nil, Nat.succ_ne_zero, ne_eq, reduceCtorEq, zRl_m6, zRl_m5, zRl_m4, zRl_m3, zRl_m2, zRl_m1, zRl_0, zRl_1, zRl_2, zRl_3, zRl_4, zRl_5, zRl_6, zRl_7, zRl_8, zRl_12, zRl_31, zRl_32, zRl_33, zRl_59, zRl_60, zRl_64, zRl_67, zRl_97, zRl_122, zRl_124, zRl_126, zRl_128, zRl_336, zRl_672, zRl_1680, zRl_2016, zRl_7680, o_X7_search, r_X7_search, eX7_search_0, q_aload_0, eX7_search_1, q_iconst, eX7_search_2, q_putfield, q_putfieldR, zqp_s, zqr_s, zqw_s, zF_7_69, eX7_search_5, eX7_search_6, eX7_search_7, q_getfield, zqg_s, zqv_s, zF_7_25, eX7_search_10, eX7_search_11, zF_7_66, eX7_search_14, q_iaload, zqal_s, eX7_search_15, zF_7_72, eX7_search_18, eX7_search_19, eX7_search_20, eX7_search_23, q_ishl, eX7_search_24, q_istore_2n, q_istore_2i, q_istore_2a, eX7_search_25, eX7_search_26, q_istore_3n, q_istore_3i, q_istore_3a, eX7_search_27, q_iload_3, eX7_search_28, q_iload_1, eX7_search_29, q_if_eq, eX7_search_32, eX7_search_33, q_iload_2, eX7_search_34, q_imul, eX7_search_35, q_goto, eX7_search_38, eX7_search_39, q_icmp_ge, eX7_search_42, eX7_search_43, eX7_search_44, q_invv, zqo_s, zqc_s, zC_7_79, o_X7_layDown, zqcv_1, eX7_search_47, eX7_search_48, eX7_search_49, zC_7_83, o_X7_takeIn, eX7_search_52, q_iinc_3n, q_iinc_3i, q_iinc_3a, eX7_search_55, eX7_search_58, q_return, zqe_s, ho1]
        refine c_layDown ho1' hk1 hw hR1 (by omega) (fun M2 R2 q1 q2 q3 q4 => ?_)
        have n0 : M2 m = _ := (q4 m (by omega)).trans ho1
        refine zgo [27] ?_
        simp only [↓zX_succ, ↓zstp_nil, ↓zstp_cons, ↓reduceIte, zpu_some, zpu_none, zcs, zg, zst, Nat.reduceAdd, Nat.reduceSub, Nat.reduceMul, Nat.reduceEqDiff, Nat.reduceLeDiff, Nat.reduceLT, Int.reduceToNat, Int.reduceAdd, Int.reduceSub, Int.reduceMul, Int.reduceNeg, Int.reduceLE, Int.reduceLT, Int.reduceEq, Int.cast_ofNat_Int, Int.reduceNatCast', true_and, and_true, and_self, Nat.le_refl, Nat.add_zero, Nat.zero_add, Nat.zero_le, Nat.not_lt_zero, or_true, true_or, or_false, false_or, not_true_eq_false, not_false_eq_true, forall_const, true_implies, false_implies, implies_true, zup_same, zup_zup, Int.toNat_natCast, Nat.reduceDiv, List.length_cons, List.length_nil, Nat.succ_ne_zero, ne_eq, reduceCtorEq, zRl_m6, zRl_m5, zRl_m4, zRl_m3, zRl_m2, zRl_m1, zRl_0, zRl_1, zRl_2, zRl_3, zRl_4, zRl_5, zRl_6, zRl_7, zRl_8, zRl_12, zRl_31, zRl_32, zRl_33, zRl_59, zRl_60, zRl_64, zRl_67, zRl_97, zRl_122, zRl_124, zRl_126, zRl_128, zRl_336, zRl_672, zRl_1680, zRl_2016, zRl_7680, o_X7_search, r_X7_search, eX7_search_0, q_aload_0, eX7_search_1, q_iconst, eX7_search_2, q_putfield, q_putfieldR, zqp_s, zqr_s, zqw_s, zF_7_69, eX7_search_5, eX7_search_6, eX7_search_7, q_getfield, zqg_s, zqv_s, zF_7_25, eX7_search_10, eX7_search_11, zF_7_66, eX7_search_14, q_iaload, zqal_s, eX7_search_15, zF_7_72, eX7_search_18, eX7_search_19, eX7_search_20, eX7_search_23, q_ishl, eX7_search_24, q_istore_2n, q_istore_2i, q_istore_2a, eX7_search_25, eX7_search_26, q_istore_3n, q_istore_3i, q_istore_3a, eX7_search_27, q_iload_3, eX7_search_28, q_iload_1, eX7_search_29, q_if_eq, eX7_search_32, eX7_search_33, q_iload_2, eX7_search_34, q_imul, eX7_search_35, q_goto, eX7_search_38, eX7_search_39, q_icmp_ge, eX7_search_42, eX7_search_43, eX7_search_44, q_invv, zqo_s, zqc_s, zC_7_79, o_X7_layDown, zqcv_1, eX7_search_47, eX7_search_48, eX7_search_49, zC_7_83, o_X7_takeIn, eX7_search_52, q_iinc_3n, q_iinc_3i, q_iinc_3a, eX7_search_55, eX7_search_58, q_return, zqe_s, n0]
        have hfd2 : fdR R2 O l (t.2.1 t.1) w := by
          intro k hk
          obtain ⟨u1, u2, u3⟩ := hfd k hk
          refine ⟨u1, u2, ?_⟩
          rw [← u3, slc, slc, tkl_eq]
          intro j hj
          exact q3 _ (by omega)
        refine c_takeIn (R := R2) (N := t.2.1 t.1) ((q4 m (by omega)).trans ho1') q1 ((q4 _ (by omega)).trans hO1) (by omega) h60 hfd2 hs (by omega) (fun z hz => ?_) q2 (rwW_zB hw) (fun M3 O3 l3 w1 w2 w3 w4 w5 w6 w7 => ?_)
        · obtain ⟨w', -, e⟩ := (hm z).mp hz
          rw [e]
          exact ⟨rwW_len hw, rwW_zB hw⟩
        · refine zgo [27] ?_
          simp only [↓zX_succ, ↓zstp_nil, ↓zstp_cons, ↓reduceIte, zpu_some, zpu_none, zcs, zg, zst, Nat.reduceAdd, Nat.reduceSub, Nat.reduceMul, Nat.reduceEqDiff, Nat.reduceLeDiff, Nat.reduceLT, Int.reduceToNat, Int.reduceAdd, Int.reduceSub, Int.reduceMul, Int.reduceNeg, Int.reduceLE, Int.reduceLT, Int.reduceEq, Int.cast_ofNat_Int, Int.reduceNatCast', true_and, and_true, and_self, Nat.le_refl, Nat.add_zero, Nat.zero_add, Nat.zero_le, Nat.not_lt_zero, or_true, true_or, or_false, false_or, not_true_eq_false, not_false_eq_true, forall_const, true_implies, false_implies, implies_true, zup_same, zup_zup, Int.toNat_natCast, Nat.reduceDiv, List.length_cons, List.length_nil, Nat.succ_ne_zero, ne_eq, reduceCtorEq, zRl_m6, zRl_m5, zRl_m4, zRl_m3, zRl_m2, zRl_m1, zRl_0, zRl_1, zRl_2, zRl_3, zRl_4, zRl_5, zRl_6, zRl_7, zRl_8, zRl_12, zRl_31, zRl_32, zRl_33, zRl_59, zRl_60, zRl_64, zRl_67, zRl_97, zRl_122, zRl_124, zRl_126, zRl_128, zRl_336, zRl_672, zRl_1680, zRl_2016, zRl_7680, o_X7_search, r_X7_search, eX7_search_0, q_aload_0, eX7_search_1, q_iconst, eX7_search_2, q_putfield, q_putfieldR, zqp_s, zqr_s, zqw_s, zF_7_69, eX7_search_5, eX7_search_6, eX7_search_7, q_getfield, zqg_s, zqv_s, zF_7_25, eX7_search_10, eX7_search_11, zF_7_66, eX7_search_14, q_iaload, zqal_s, eX7_search_15, zF_7_72, eX7_search_18, eX7_search_19, eX7_search_20, eX7_search_23, q_ishl, eX7_search_24, q_istore_2n, q_istore_2i, q_istore_2a, eX7_search_25, eX7_search_26, q_istore_3n, q_istore_3i, q_istore_3a, eX7_search_27, q_iload_3, eX7_search_28, q_iload_1, eX7_search_29, q_if_eq, eX7_search_32, eX7_search_33, q_iload_2, eX7_search_34, q_imul, eX7_search_35, q_goto, eX7_search_38, eX7_search_39, q_icmp_ge, eX7_search_42, eX7_search_43, eX7_search_44, q_invv, zqo_s, zqc_s, zC_7_79, o_X7_layDown, zqcv_1, eX7_search_47, eX7_search_48, eX7_search_49, zC_7_83, o_X7_takeIn, eX7_search_52, q_iinc_3n, q_iinc_3i, q_iinc_3a, eX7_search_55, eX7_search_58, q_return, zqe_s, rw1]
          rw [show (w : Int) + 1 = ((w + 1 : Nat) : Int) by omega]
          refine ih (w + 1) M3 R2 O3 l3 (by omega) w1 ((w7 _ (by omega) (by omega)).trans q1) w2 w3 w4 (fun z => ?_) (by omega) (fun q c1 c2 c3 => by rw [w7 q c1 c3, q4 q (by omega), hf q c1 c2 c3])
          rw [w5 z, hm z]
          constructor
          · rintro (h | ⟨w', h1, h2⟩)
            · exact ⟨w, by omega, h⟩
            · exact ⟨w', by omega, h2⟩
          · rintro ⟨w', h1, h2⟩
            by_cases c : w' = w
            · exact Or.inl (c ▸ h2)
            · exact Or.inr ⟨w', by omega, h2⟩
      cases al with
      | true =>
        rw [if_pos rfl] at hb
        refine zgo [27, 42] ?_
        simp only [↓zX_succ, ↓zstp_nil, ↓zstp_cons, ↓reduceIte, zpu_some, zpu_none, zcs, zg, zst, Nat.reduceAdd, Nat.reduceSub, Nat.reduceMul, Nat.reduceEqDiff, Nat.reduceLeDiff, Nat.reduceLT, Int.reduceToNat, Int.reduceAdd, Int.reduceSub, Int.reduceMul, Int.reduceNeg, Int.reduceLE, Int.reduceLT, Int.reduceEq, Int.cast_ofNat_Int, Int.reduceNatCast', true_and, and_true, and_self, Nat.le_refl, Nat.add_zero, Nat.zero_add, Nat.zero_le, Nat.not_lt_zero, or_true, true_or, or_false, false_or, not_true_eq_false, not_false_eq_true, forall_const, true_implies, false_implies, implies_true, zup_same, zup_zup, Int.toNat_natCast, Nat.reduceDiv, List.length_cons, List.length_nil, Nat.succ_ne_zero, ne_eq, reduceCtorEq, zRl_m6, zRl_m5, zRl_m4, zRl_m3, zRl_m2, zRl_m1, zRl_0, zRl_1, zRl_2, zRl_3, zRl_4, zRl_5, zRl_6, zRl_7, zRl_8, zRl_12, zRl_31, zRl_32, zRl_33, zRl_59, zRl_60, zRl_64, zRl_67, zRl_97, zRl_122, zRl_124, zRl_126, zRl_128, zRl_336, zRl_672, zRl_1680, zRl_2016, zRl_7680, o_X7_search, r_X7_search, eX7_search_0, q_aload_0, eX7_search_1, q_iconst, eX7_search_2, q_putfield, q_putfieldR, zqp_s, zqr_s, zqw_s, zF_7_69, eX7_search_5, eX7_search_6, eX7_search_7, q_getfield, zqg_s, zqv_s, zF_7_25, eX7_search_10, eX7_search_11, zF_7_66, eX7_search_14, q_iaload, zqal_s, eX7_search_15, zF_7_72, eX7_search_18, eX7_search_19, eX7_search_20, eX7_search_23, q_ishl, eX7_search_24, q_istore_2n, q_istore_2i, q_istore_2a, eX7_search_25, eX7_search_26, q_istore_3n, q_istore_3i, q_istore_3a, eX7_search_27, q_iload_3, eX7_search_28, q_iload_1, eX7_search_29, q_if_eq, eX7_search_32, eX7_search_33, q_iload_2, eX7_search_34, q_imul, eX7_search_35, q_goto, eX7_search_38, eX7_search_39, q_icmp_ge, eX7_search_42, eX7_search_43, eX7_search_44, q_invv, zqo_s, zqc_s, zC_7_79, o_X7_layDown, zqcv_1, eX7_search_47, eX7_search_48, eX7_search_49, zC_7_83, o_X7_takeIn, eX7_search_52, q_iinc_3n, q_iinc_3i, q_iinc_3a, eX7_search_55, eX7_search_58, q_return, zqe_s, rw1, rK, rK2, zb_t]
        rw [zb_t] at body
        exact ⟨fun q => by omega, fun _ => body⟩
      | false =>
        rw [if_neg (by decide)] at hb
        refine zgo [27, 42] ?_
        simp only [↓zX_succ, ↓zstp_nil, ↓zstp_cons, ↓reduceIte, zpu_some, zpu_none, zcs, zg, zst, Nat.reduceAdd, Nat.reduceSub, Nat.reduceMul, Nat.reduceEqDiff, Nat.reduceLeDiff, Nat.reduceLT, Int.reduceToNat, Int.reduceAdd, Int.reduceSub, Int.reduceMul, Int.reduceNeg, Int.reduceLE, Int.reduceLT, Int.reduceEq, Int.cast_ofNat_Int, Int.reduceNatCast', true_and, and_true, and_self, Nat.le_refl, Nat.add_zero, Nat.zero_add, Nat.zero_le, Nat.not_lt_zero, or_true, true_or, or_false, false_or, not_true_eq_false, not_false_eq_true, forall_const, true_implies, false_implies, implies_true, zup_same, zup_zup, Int.toNat_natCast, Nat.reduceDiv, List.length_cons, List.length_nil, Nat.succ_ne_zero, ne_eq, reduceCtorEq, zRl_m6, zRl_m5, zRl_m4, zRl_m3, zRl_m2, zRl_m1, zRl_0, zRl_1, zRl_2, zRl_3, zRl_4, zRl_5, zRl_6, zRl_7, zRl_8, zRl_12, zRl_31, zRl_32, zRl_33, zRl_59, zRl_60, zRl_64, zRl_67, zRl_97, zRl_122, zRl_124, zRl_126, zRl_128, zRl_336, zRl_672, zRl_1680, zRl_2016, zRl_7680, o_X7_search, r_X7_search, eX7_search_0, q_aload_0, eX7_search_1, q_iconst, eX7_search_2, q_putfield, q_putfieldR, zqp_s, zqr_s, zqw_s, zF_7_69, eX7_search_5, eX7_search_6, eX7_search_7, q_getfield, zqg_s, zqv_s, zF_7_25, eX7_search_10, eX7_search_11, zF_7_66, eX7_search_14, q_iaload, zqal_s, eX7_search_15, zF_7_72, eX7_search_18, eX7_search_19, eX7_search_20, eX7_search_23, q_ishl, eX7_search_24, q_istore_2n, q_istore_2i, q_istore_2a, eX7_search_25, eX7_search_26, q_istore_3n, q_istore_3i, q_istore_3a, eX7_search_27, q_iload_3, eX7_search_28, q_iload_1, eX7_search_29, q_if_eq, eX7_search_32, eX7_search_33, q_iload_2, eX7_search_34, q_imul, eX7_search_35, q_goto, eX7_search_38, eX7_search_39, q_icmp_ge, eX7_search_42, eX7_search_43, eX7_search_44, q_invv, zqo_s, zqc_s, zC_7_79, o_X7_layDown, zqcv_1, eX7_search_47, eX7_search_48, eX7_search_49, zC_7_83, o_X7_takeIn, eX7_search_52, q_iinc_3n, q_iinc_3i, q_iinc_3a, eX7_search_55, eX7_search_58, q_return, zqe_s, rw1, rK, rK2, zb_f]
        rw [zb_f] at body
        exact ⟨fun q => by omega, fun _ => body⟩
  have n1 : ∀ c c', zup (zup M m c) m c' = zup M m c' := fun c c' => zup_zup
  have n6 : ∀ c, zup M m c (m + 6) = M (m + 6) := fun c => zup_ne (by omega)
  refine zct [some (Sum.inr (Sum.inl (some (m)))), some (Sum.inl (zb al)), none, none] rfl (Nat.le_of_ble_eq_true rfl) (by decide +kernel) rfl ?_
  refine zgo [27] ?_
  simp only [↓zX_succ, ↓zstp_nil, ↓zstp_cons, ↓reduceIte, zpu_some, zpu_none, zcs, zg, zst, Nat.reduceAdd, Nat.reduceSub, Nat.reduceMul, Nat.reduceEqDiff, Nat.reduceLeDiff, Nat.reduceLT, Int.reduceToNat, Int.reduceAdd, Int.reduceSub, Int.reduceMul, Int.reduceNeg, Int.reduceLE, Int.reduceLT, Int.reduceEq, Int.cast_ofNat_Int, Int.reduceNatCast', true_and, and_true, and_self, Nat.le_refl, Nat.add_zero, Nat.zero_add, Nat.zero_le, Nat.not_lt_zero, or_true, true_or, or_false, false_or, not_true_eq_false, not_false_eq_true, forall_const, true_implies, false_implies, implies_true, zup_same, zup_zup, Int.toNat_natCast, Nat.reduceDiv, List.length_cons, List.length_nil, Nat.succ_ne_zero, ne_eq, reduceCtorEq, zRl_m6, zRl_m5, zRl_m4, zRl_m3, zRl_m2, zRl_m1, zRl_0, zRl_1, zRl_2, zRl_3, zRl_4, zRl_5, zRl_6, zRl_7, zRl_8, zRl_12, zRl_31, zRl_32, zRl_33, zRl_59, zRl_60, zRl_64, zRl_67, zRl_97, zRl_122, zRl_124, zRl_126, zRl_128, zRl_336, zRl_672, zRl_1680, zRl_2016, zRl_7680, o_X7_search, r_X7_search, eX7_search_0, q_aload_0, eX7_search_1, q_iconst, eX7_search_2, q_putfield, q_putfieldR, zqp_s, zqr_s, zqw_s, zF_7_69, eX7_search_5, eX7_search_6, eX7_search_7, q_getfield, zqg_s, zqv_s, zF_7_25, eX7_search_10, eX7_search_11, zF_7_66, eX7_search_14, q_iaload, zqal_s, eX7_search_15, zF_7_72, eX7_search_18, eX7_search_19, eX7_search_20, eX7_search_23, q_ishl, eX7_search_24, q_istore_2n, q_istore_2i, q_istore_2a, eX7_search_25, eX7_search_26, q_istore_3n, q_istore_3i, q_istore_3a, eX7_search_27, q_iload_3, eX7_search_28, q_iload_1, eX7_search_29, q_if_eq, eX7_search_32, eX7_search_33, q_iload_2, eX7_search_34, q_imul, eX7_search_35, q_goto, eX7_search_38, eX7_search_39, q_icmp_ge, eX7_search_42, eX7_search_43, eX7_search_44, q_invv, zqo_s, zqc_s, zC_7_79, o_X7_layDown, zqcv_1, eX7_search_47, eX7_search_48, eX7_search_49, zC_7_83, o_X7_takeIn, eX7_search_52, q_iinc_3n, q_iinc_3i, q_iinc_3a, eX7_search_55, eX7_search_58, q_return, zqe_s, ho, n6, h1, eN, rt, esh]
  refine ⟨by omega, by omega, ?_⟩
  exact loop bd 0 _ R0 O0 [] (by omega) zup_same ((zup_ne (by omega)).trans hR) ((zup_ne (by omega)).trans hO) (fun k hk => by simp at hk) List.Pairwise.nil (fun z => ⟨fun h => (by cases h), fun ⟨w', h1, _⟩ => (by omega)⟩) (Nat.le_refl _) (fun q c1 c2 c3 => zup_ne c1)
end MI
