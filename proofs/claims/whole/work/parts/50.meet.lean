theorem zcnt_fil {l : List (List Int)} {P : List Int → Bool} : zcnt (fun k => P (l.getD k [])) l.length = (l.filter P).length := by
  have key : ∀ n, n ≤ l.length → zcnt (fun k => P (l.getD k [])) n = ((l.take n).filter P).length := by
    intro n
    induction n with
    | zero => intro _; simp [zcnt]
    | succ n ih =>
      intro hn
      have e : (l.getD n []) = l[n] := by rw [List.getD_eq_getElem?_getD, List.getElem?_eq_getElem (by omega)]; rfl
      rw [zcnt, ih (by omega), List.take_succ, List.getElem?_eq_getElem (show n < l.length by omega), List.filter_append, List.length_append]
      congr 1
      simp only [Option.toList_some, List.filter_cons, List.filter_nil, e]
      split <;> rfl
  rw [key _ (Nat.le_refl _), List.take_length]
section MK
variable {lo d m : Nat} {A : aS} {M : zM} {Q : Option zV → zM → Prop}
def okL (l : List (List Int)) (N : Nat) : Prop := l.length ≤ 128 ∧ N ≤ 60 ∧ ∀ z ∈ l, z.length = N ∧ ∀ y ∈ z, (0 : Int) ≤ y ∧ y ≤ 25
theorem okL_RD {t : Sc} (hw : wS t.1 t.2.1 t.2.2) : okL (RD t) (t.2.1 t.1) := ⟨RD_n hw, hw.2.2.2.2.1, fun z hz => ⟨RD_ll hw hz, RD_zB hw hz⟩⟩
theorem c_meet {rc pl pt : Int} {l l2 : List (List Int)} {N N2 : Nat} {X : Nat → Int} (ho : mOb M m rc pl pt (l.length : Int) (N : Int) (l2.length : Int) (N2 : Int)) (hf : fnd M m l N) (hg : oth M m l2 N2) (hX : M (m + 10) = some (Sum.inr (0, 128, Sum.inl (X)))) (hl : okL l N) (hl2 : okL l2 N2) (hQ : ∀ M' X', M' (m + 10) = some (Sum.inr (0, 128, Sum.inl (X'))) → (∀ k, k < l.length → X' k = if l.getD k [] ∈ l2 then 1 else X k) → zfr M M' (m + 10) (m + 11) → Q (some (Sum.inl (((l.filter (fun z => decide (z ∈ l2))).length : Int)))) M') : zCt lo (d + 1) kX7_meet 0 0 [(Sum.inr (Sum.inl (some (m))))] M Q := by
  have ho' := ho
  unfold mOb at ho
  obtain ⟨R, O, h1, h2, h3⟩ := hf
  obtain ⟨R2, O2, g1, g2, g3⟩ := hg
  obtain ⟨hl128, hN, hlz⟩ := hl
  obtain ⟨hl2128, hN2, hl2z⟩ := hl2
  have rl : zRr (l.length : Int) := zrr (by omega) (by omega)
  have rl2 : zRr (l2.length : Int) := zrr (by omega) (by omega)
  have rN : zRr (N : Int) := zrr (by omega) (by omega)
  have rN2 : zRr (N2 : Int) := zrr (by omega) (by omega)
  have outer : ∀ (n k : Nat) (M1 : zM) (X1 : Nat → Int) (w3 w4 : Option zV), k + n = l.length → ((w3 = none ∧ w4 = none) ∨ ∃ z3 z4, w3 = some (Sum.inl (z3)) ∧ w4 = some (Sum.inl (z4))) → M1 (m + 10) = some (Sum.inr (0, 128, Sum.inl (X1))) → (∀ j, j < l.length → X1 j = if j < k ∧ l.getD j [] ∈ l2 then 1 else X j) → zfr M M1 (m + 10) (m + 11) → zm lo (d + 1) kX7_meet 0 0 Q (0, 0) 4 [some (Sum.inr (Sum.inl (some (m)))), some (Sum.inl ((zcnt (fun k => decide (l.getD k [] ∈ l2)) k : Int))), some (Sum.inl ((k : Int))), w3, w4] [] M1 := by
    intro n
    induction n with
    | zero =>
      intro k M1 X1 w3 w4 hk hw hX1 a1 hfr
      have rk : zRr (k : Int) := zrr (by omega) (by omega)
      have n0 : M1 m = _ := (hfr m (by omega)).trans ho
      refine zgo [4, 17] ?_
      simp only [↓zX_succ, ↓zstp_nil, ↓zstp_cons, ↓reduceIte, zpu_some, zpu_none, zcs, zg, zst, Nat.reduceAdd, Nat.reduceSub, Nat.reduceMul, Nat.reduceEqDiff, Nat.reduceLeDiff, Nat.reduceLT, Int.reduceToNat, Int.reduceAdd, Int.reduceSub, Int.reduceMul, Int.reduceNeg, Int.reduceLE, Int.reduceLT, Int.reduceEq, Int.cast_ofNat_Int, Int.reduceNatCast', true_and, and_true, and_self, Nat.le_refl, Nat.add_zero, Nat.zero_add, Nat.zero_le, Nat.not_lt_zero, or_true, true_or, or_false, false_or, not_true_eq_false, not_false_eq_true, forall_const, true_implies, false_implies, implies_true, zup_same, zup_zup, Int.toNat_natCast, Nat.reduceDiv, List.length_cons, List.length_nil, Nat.succ_ne_zero, ne_eq, reduceCtorEq, zRl_m6, zRl_m5, zRl_m4, zRl_m3, zRl_m2, zRl_m1, zRl_0, zRl_1, zRl_2, zRl_3, zRl_4, zRl_5, zRl_6, zRl_7, zRl_8, zRl_12, zRl_31, zRl_32, zRl_33, zRl_59, zRl_60, zRl_64, zRl_67, zRl_97, zRl_122, zRl_124, zRl_126, zRl_128, zRl_336, zRl_672, zRl_1680, zRl_2016, zRl_7680, o_X7_meet, r_X7_meet, eX7_meet_0, q_iconst, eX7_meet_1, q_istore_1n, q_istore_1i, q_istore_1a, eX7_meet_2, eX7_meet_3, q_istore_2n, q_istore_2i, q_istore_2a, eX7_meet_4, q_iload_2, eX7_meet_5, q_aload_0, eX7_meet_6, q_getfield, zqg_s, zqv_s, zF_7_69, eX7_meet_9, q_icmp_ge, eX7_meet_12, eX7_meet_13, q_istore_3n, q_istore_3i, q_istore_3a, eX7_meet_14, eX7_meet_15, q_istore_4n, q_istore_4i, q_istore_4a, eX7_meet_17, q_iload_4, eX7_meet_19, eX7_meet_20, zF_7_93, eX7_meet_23, eX7_meet_26, eX7_meet_27, zF_7_72, eX7_meet_30, eX7_meet_31, zF_7_96, eX7_meet_34, q_icmp_ne, eX7_meet_37, q_iload_3, eX7_meet_38, q_if_ne, eX7_meet_41, eX7_meet_42, zF_7_31, eX7_meet_45, q_bipush, eX7_meet_47, eX7_meet_48, zF_7_34, eX7_meet_51, eX7_meet_52, q_iaload, zqal_s, eX7_meet_53, q_imul, eX7_meet_54, eX7_meet_55, zF_7_40, eX7_meet_58, eX7_meet_60, eX7_meet_61, zF_7_43, eX7_meet_64, eX7_meet_66, eX7_meet_67, eX7_meet_68, eX7_meet_69, eX7_meet_72, q_invs, zqst_s, zqst_c, zqcp_s, zqc_s, zC_7_75, o_X7_compared, zqcs_5, eX7_meet_75, eX7_meet_78, eX7_meet_79, q_goto, eX7_meet_82, eX7_meet_83, eX7_meet_84, q_iinc_4n, q_iinc_4i, q_iinc_4a, eX7_meet_87, eX7_meet_90, eX7_meet_91, zF_7_37, eX7_meet_94, eX7_meet_95, eX7_meet_96, q_if_eq, eX7_meet_99, eX7_meet_100, eX7_meet_103, eX7_meet_104, eX7_meet_107, eX7_meet_108, eX7_meet_109, q_iastore, zqas_s, eX7_meet_110, q_iload_1, eX7_meet_111, eX7_meet_112, eX7_meet_115, eX7_meet_116, eX7_meet_119, eX7_meet_120, q_iadd, eX7_meet_121, eX7_meet_122, q_iinc_2n, q_iinc_2i, q_iinc_2a, eX7_meet_125, eX7_meet_128, eX7_meet_129, q_ireturn, zqi_i, zqi_z, n0, rk, rl]
      refine ⟨fun _ => ?_, fun q => by omega⟩
      have ek : k = l.length := by omega
      rw [ek, zcnt_fil (P := fun z => decide (z ∈ l2))]
      refine hQ M1 X1 hX1 (fun j hj => ?_) hfr
      rw [a1 j hj]
      by_cases c : l.getD j [] ∈ l2
      · rw [if_pos c, if_pos ⟨by omega, c⟩]
      · rw [if_neg c, if_neg (fun z => c z.2)]
    | succ n ih =>
      intro k M1 X1 w3 w4 hk hw hX1 a1 hfr
      have rk : zRr (k : Int) := zrr (by omega) (by omega)
      have n0 : M1 m = _ := (hfr m (by omega)).trans ho
      have n8 : M1 (m + 8) = _ := (hfr (m + 8) (by omega)).trans h1
      have n9 : M1 (m + 9) = _ := (hfr (m + 9) (by omega)).trans h2
      have n11 : M1 (m + 11) = _ := (hfr (m + 11) (by omega)).trans g1
      have n12 : M1 (m + 12) = _ := (hfr (m + 12) (by omega)).trans g2
      obtain ⟨u1, u2, u3⟩ := h3 k (by omega)
      have hkm := getD_mem (l := l) (k := k) (by omega)
      have hkl := hlz _ hkm
      have hz := zcnt_le (P := fun k => decide (l.getD k [] ∈ l2)) k
      have r1 : zRr (60 * O k) := zrr (by omega) (by omega)
      have rs : zRr ((zcnt (fun k => decide (l.getD k [] ∈ l2)) k : Int) + 1) := zrr (by omega) (by omega)
      have rs0 : zRr (zcnt (fun k => decide (l.getD k [] ∈ l2)) k : Int) := zrr (by omega) (by omega)
      -- behind the inner loop
      have aft : ∀ (b : Bool) (i : Int), (b = true ↔ l.getD k [] ∈ l2) → zm lo (d + 1) kX7_meet 0 0 Q (0, 0) 90 [some (Sum.inr (Sum.inl (some (m)))), some (Sum.inl ((zcnt (fun k => decide (l.getD k [] ∈ l2)) k : Int))), some (Sum.inl ((k : Int))), some (Sum.inl (zb b)), some (Sum.inl (i))] [] M1 := by
        intro b i hb
        have ez : zcnt (fun k => decide (l.getD k [] ∈ l2)) (k + 1) = zcnt (fun k => decide (l.getD k [] ∈ l2)) k + (if decide (l.getD k [] ∈ l2) = true then 1 else 0) := rfl
        cases b with
        | true =>
          have hin := hb.mp rfl
          rw [if_pos (decide_eq_true hin)] at ez
          rw [zb_t]
          refine zgo [4, 17] ?_
          simp only [↓zX_succ, ↓zstp_nil, ↓zstp_cons, ↓reduceIte, zpu_some, zpu_none, zcs, zg, zst, Nat.reduceAdd, Nat.reduceSub, Nat.reduceMul, Nat.reduceEqDiff, Nat.reduceLeDiff, Nat.reduceLT, Int.reduceToNat, Int.reduceAdd, Int.reduceSub, Int.reduceMul, Int.reduceNeg, Int.reduceLE, Int.reduceLT, Int.reduceEq, Int.cast_ofNat_Int, Int.reduceNatCast', true_and, and_true, and_self, Nat.le_refl, Nat.add_zero, Nat.zero_add, Nat.zero_le, Nat.not_lt_zero, or_true, true_or, or_false, false_or, not_true_eq_false, not_false_eq_true, forall_const, true_implies, false_implies, implies_true, zup_same, zup_zup, Int.toNat_natCast, Nat.reduceDiv, List.length_cons, List.length_nil, Nat.succ_ne_zero, ne_eq, reduceCtorEq, zRl_m6, zRl_m5, zRl_m4, zRl_m3, zRl_m2, zRl_m1, zRl_0, zRl_1, zRl_2, zRl_3, zRl_4, zRl_5, zRl_6, zRl_7, zRl_8, zRl_12, zRl_31, zRl_32, zRl_33, zRl_59, zRl_60, zRl_64, zRl_67, zRl_97, zRl_122, zRl_124, zRl_126, zRl_128, zRl_336, zRl_672, zRl_1680, zRl_2016, zRl_7680, o_X7_meet, r_X7_meet, eX7_meet_0, q_iconst, eX7_meet_1, q_istore_1n, q_istore_1i, q_istore_1a, eX7_meet_2, eX7_meet_3, q_istore_2n, q_istore_2i, q_istore_2a, eX7_meet_4, q_iload_2, eX7_meet_5, q_aload_0, eX7_meet_6, q_getfield, zqg_s, zqv_s, zF_7_69, eX7_meet_9, q_icmp_ge, eX7_meet_12, eX7_meet_13, q_istore_3n, q_istore_3i, q_istore_3a, eX7_meet_14, eX7_meet_15, q_istore_4n, q_istore_4i, q_istore_4a, eX7_meet_17, q_iload_4, eX7_meet_19, eX7_meet_20, zF_7_93, eX7_meet_23, eX7_meet_26, eX7_meet_27, zF_7_72, eX7_meet_30, eX7_meet_31, zF_7_96, eX7_meet_34, q_icmp_ne, eX7_meet_37, q_iload_3, eX7_meet_38, q_if_ne, eX7_meet_41, eX7_meet_42, zF_7_31, eX7_meet_45, q_bipush, eX7_meet_47, eX7_meet_48, zF_7_34, eX7_meet_51, eX7_meet_52, q_iaload, zqal_s, eX7_meet_53, q_imul, eX7_meet_54, eX7_meet_55, zF_7_40, eX7_meet_58, eX7_meet_60, eX7_meet_61, zF_7_43, eX7_meet_64, eX7_meet_66, eX7_meet_67, eX7_meet_68, eX7_meet_69, eX7_meet_72, q_invs, zqst_s, zqst_c, zqcp_s, zqc_s, zC_7_75, o_X7_compared, zqcs_5, eX7_meet_75, eX7_meet_78, eX7_meet_79, q_goto, eX7_meet_82, eX7_meet_83, eX7_meet_84, q_iinc_4n, q_iinc_4i, q_iinc_4a, eX7_meet_87, eX7_meet_90, eX7_meet_91, zF_7_37, eX7_meet_94, eX7_meet_95, eX7_meet_96, q_if_eq, eX7_meet_99, eX7_meet_100, eX7_meet_103, eX7_meet_104, eX7_meet_107, eX7_meet_108, eX7_meet_109, q_iastore, zqas_s, eX7_meet_110, q_iload_1, eX7_meet_111, eX7_meet_112, eX7_meet_115, eX7_meet_116, eX7_meet_119, eX7_meet_120, q_iadd, eX7_meet_121, eX7_meet_122, q_iinc_2n, q_iinc_2i, q_iinc_2a, eX7_meet_125, eX7_meet_128, eX7_meet_129, q_ireturn, zqi_i, zqi_z, n0, hX1, rk, rs]
          refine ⟨by omega, by omega, ?_⟩
          have k0 := ih (k + 1) (zup M1 (m + 10) (Sum.inr (0, 128, Sum.inl (zu X1 k 1)))) (zu X1 k 1) (some (Sum.inl (1))) (some (Sum.inl (i))) (by omega) (Or.inr ⟨_, _, rfl, rfl⟩) zup_same (fun j hj => ?_) (hfr.up (by omega) (by omega))
          · rw [ez, Int.natCast_add, Int.natCast_add] at k0
            exact k0
          · by_cases c : j = k
            · subst c; rw [zu_same, if_pos ⟨by omega, hin⟩]
            · rw [zu_ne c, a1 j hj]
              by_cases c2 : j < k ∧ l.getD j [] ∈ l2
              · rw [if_pos c2, if_pos ⟨by omega, c2.2⟩]
              · rw [if_neg c2, if_neg (fun z => c2 ⟨by omega, z.2⟩)]
        | false =>
          have hin : ¬ l.getD k [] ∈ l2 := fun h => by simpa using hb.mpr h
          rw [if_neg (by simpa using hin), Nat.add_zero] at ez
          rw [zb_f]
          refine zgo [4, 17] ?_
          simp only [↓zX_succ, ↓zstp_nil, ↓zstp_cons, ↓reduceIte, zpu_some, zpu_none, zcs, zg, zst, Nat.reduceAdd, Nat.reduceSub, Nat.reduceMul, Nat.reduceEqDiff, Nat.reduceLeDiff, Nat.reduceLT, Int.reduceToNat, Int.reduceAdd, Int.reduceSub, Int.reduceMul, Int.reduceNeg, Int.reduceLE, Int.reduceLT, Int.reduceEq, Int.cast_ofNat_Int, Int.reduceNatCast', true_and, and_true, and_self, Nat.le_refl, Nat.add_zero, Nat.zero_add, Nat.zero_le, Nat.not_lt_zero, or_true, true_or, or_false, false_or, not_true_eq_false, not_false_eq_true, forall_const, true_implies, false_implies, implies_true, zup_same, zup_zup, Int.toNat_natCast, Nat.reduceDiv, List.length_cons, List.length_nil, Nat.succ_ne_zero, ne_eq, reduceCtorEq, zRl_m6, zRl_m5, zRl_m4, zRl_m3, zRl_m2, zRl_m1, zRl_0, zRl_1, zRl_2, zRl_3, zRl_4, zRl_5, zRl_6, zRl_7, zRl_8, zRl_12, zRl_31, zRl_32, zRl_33, zRl_59, zRl_60, zRl_64, zRl_67, zRl_97, zRl_122, zRl_124, zRl_126, zRl_128, zRl_336, zRl_672, zRl_1680, zRl_2016, zRl_7680, o_X7_meet, r_X7_meet, eX7_meet_0, q_iconst, eX7_meet_1, q_istore_1n, q_istore_1i, q_istore_1a, eX7_meet_2, eX7_meet_3, q_istore_2n, q_istore_2i, q_istore_2a, eX7_meet_4, q_iload_2, eX7_meet_5, q_aload_0, eX7_meet_6, q_getfield, zqg_s, zqv_s, zF_7_69, eX7_meet_9, q_icmp_ge, eX7_meet_12, eX7_meet_13, q_istore_3n, q_istore_3i, q_istore_3a, eX7_meet_14, eX7_meet_15, q_istore_4n, q_istore_4i, q_istore_4a, eX7_meet_17, q_iload_4, eX7_meet_19, eX7_meet_20, zF_7_93, eX7_meet_23, eX7_meet_26, eX7_meet_27, zF_7_72, eX7_meet_30, eX7_meet_31, zF_7_96, eX7_meet_34, q_icmp_ne, eX7_meet_37, q_iload_3, eX7_meet_38, q_if_ne, eX7_meet_41, eX7_meet_42, zF_7_31, eX7_meet_45, q_bipush, eX7_meet_47, eX7_meet_48, zF_7_34, eX7_meet_51, eX7_meet_52, q_iaload, zqal_s, eX7_meet_53, q_imul, eX7_meet_54, eX7_meet_55, zF_7_40, eX7_meet_58, eX7_meet_60, eX7_meet_61, zF_7_43, eX7_meet_64, eX7_meet_66, eX7_meet_67, eX7_meet_68, eX7_meet_69, eX7_meet_72, q_invs, zqst_s, zqst_c, zqcp_s, zqc_s, zC_7_75, o_X7_compared, zqcs_5, eX7_meet_75, eX7_meet_78, eX7_meet_79, q_goto, eX7_meet_82, eX7_meet_83, eX7_meet_84, q_iinc_4n, q_iinc_4i, q_iinc_4a, eX7_meet_87, eX7_meet_90, eX7_meet_91, zF_7_37, eX7_meet_94, eX7_meet_95, eX7_meet_96, q_if_eq, eX7_meet_99, eX7_meet_100, eX7_meet_103, eX7_meet_104, eX7_meet_107, eX7_meet_108, eX7_meet_109, q_iastore, zqas_s, eX7_meet_110, q_iload_1, eX7_meet_111, eX7_meet_112, eX7_meet_115, eX7_meet_116, eX7_meet_119, eX7_meet_120, q_iadd, eX7_meet_121, eX7_meet_122, q_iinc_2n, q_iinc_2i, q_iinc_2a, eX7_meet_125, eX7_meet_128, eX7_meet_129, q_ireturn, zqi_i, zqi_z, n0, hX1, rk, rs0, Int.add_zero]
          refine ⟨by omega, by omega, by omega, by omega, ?_⟩
          have k0 := ih (k + 1) (zup M1 (m + 10) (Sum.inr (0, 128, Sum.inl (zu X1 k (X1 k))))) (zu X1 k (X1 k)) (some (Sum.inl (0))) (some (Sum.inl (i))) (by omega) (Or.inr ⟨_, _, rfl, rfl⟩) zup_same (fun j hj => ?_) (hfr.up (by omega) (by omega))
          · rw [ez, Int.natCast_add] at k0
            exact k0
          · have e0 : zu X1 k (X1 k) j = X1 j := by
              by_cases c : j = k
              · subst c; rw [zu_same]
              · rw [zu_ne c]
            rw [e0, a1 j hj]
            by_cases c2 : j < k ∧ l.getD j [] ∈ l2
            · rw [if_pos c2, if_pos ⟨by omega, c2.2⟩]
            · rw [if_neg c2, if_neg (fun z => ?_)]
              by_cases c : j = k
              · exact hin (c ▸ z.2)
              · exact c2 ⟨by omega, z.2⟩
      have inner : ∀ (n' i : Nat) (b : Bool), i + n' = l2.length → (b = true ↔ (N = N2 ∧ ∃ i', i' < i ∧ l2.getD i' [] = l.getD k [])) → zm lo (d + 1) kX7_meet 0 0 Q (0, 0) 17 [some (Sum.inr (Sum.inl (some (m)))), some (Sum.inl ((zcnt (fun k => decide (l.getD k [] ∈ l2)) k : Int))), some (Sum.inl ((k : Int))), some (Sum.inl (zb b)), some (Sum.inl ((i : Int)))] [] M1 := by
        intro n'
        have yes : ∀ (i : Nat) (b : Bool), i ≤ l2.length → b = true → (b = true ↔ (N = N2 ∧ ∃ i', i' < i ∧ l2.getD i' [] = l.getD k [])) → (b = true ↔ l.getD k [] ∈ l2) := by
          intro i b hi hbt hb
          refine ⟨fun _ => ?_, fun _ => hbt⟩
          obtain ⟨-, i', h1, h2⟩ := hb.mp hbt
          rw [← h2]
          exact getD_mem (by omega)
        have notN : N ≠ N2 → ¬ l.getD k [] ∈ l2 := fun h hin => h (by rw [← hkl.1, (hl2z _ hin).1])
        induction n' with
        | zero =>
          intro i b hi hb
          have ri : zRr (i : Int) := zrr (by omega) (by omega)
          refine zgo [4, 17, 90] ?_
          simp only [↓zX_succ, ↓zstp_nil, ↓zstp_cons, ↓reduceIte, zpu_some, zpu_none, zcs, zg, zst, Nat.reduceAdd, Nat.reduceSub, Nat.reduceMul, Nat.reduceEqDiff, Nat.reduceLeDiff, Nat.reduceLT, Int.reduceToNat, Int.reduceAdd, Int.reduceSub, Int.reduceMul, Int.reduceNeg, Int.reduceLE, Int.reduceLT, Int.reduceEq, Int.cast_ofNat_Int, Int.reduceNatCast', true_and, and_true, and_self, Nat.le_refl, Nat.add_zero, Nat.zero_add, Nat.zero_le, Nat.not_lt_zero, or_true, true_or, or_false, false_or, not_true_eq_false, not_false_eq_true, forall_const, true_implies, false_implies, implies_true, zup_same, zup_zup, Int.toNat_natCast, Nat.reduceDiv, List.length_cons, List.length_nil, Nat.succ_ne_zero, ne_eq, reduceCtorEq, zRl_m6, zRl_m5, zRl_m4, zRl_m3, zRl_m2, zRl_m1, zRl_0, zRl_1, zRl_2, zRl_3, zRl_4, zRl_5, zRl_6, zRl_7, zRl_8, zRl_12, zRl_31, zRl_32, zRl_33, zRl_59, zRl_60, zRl_64, zRl_67, zRl_97, zRl_122, zRl_124, zRl_126, zRl_128, zRl_336, zRl_672, zRl_1680, zRl_2016, zRl_7680, o_X7_meet, r_X7_meet, eX7_meet_0, q_iconst, eX7_meet_1, q_istore_1n, q_istore_1i, q_istore_1a, eX7_meet_2, eX7_meet_3, q_istore_2n, q_istore_2i, q_istore_2a, eX7_meet_4, q_iload_2, eX7_meet_5, q_aload_0, eX7_meet_6, q_getfield, zqg_s, zqv_s, zF_7_69, eX7_meet_9, q_icmp_ge, eX7_meet_12, eX7_meet_13, q_istore_3n, q_istore_3i, q_istore_3a, eX7_meet_14, eX7_meet_15, q_istore_4n, q_istore_4i, q_istore_4a, eX7_meet_17, q_iload_4, eX7_meet_19, eX7_meet_20, zF_7_93, eX7_meet_23, eX7_meet_26, eX7_meet_27, zF_7_72, eX7_meet_30, eX7_meet_31, zF_7_96, eX7_meet_34, q_icmp_ne, eX7_meet_37, q_iload_3, eX7_meet_38, q_if_ne, eX7_meet_41, eX7_meet_42, zF_7_31, eX7_meet_45, q_bipush, eX7_meet_47, eX7_meet_48, zF_7_34, eX7_meet_51, eX7_meet_52, q_iaload, zqal_s, eX7_meet_53, q_imul, eX7_meet_54, eX7_meet_55, zF_7_40, eX7_meet_58, eX7_meet_60, eX7_meet_61, zF_7_43, eX7_meet_64, eX7_meet_66, eX7_meet_67, eX7_meet_68, eX7_meet_69, eX7_meet_72, q_invs, zqst_s, zqst_c, zqcp_s, zqc_s, zC_7_75, o_X7_compared, zqcs_5, eX7_meet_75, eX7_meet_78, eX7_meet_79, q_goto, eX7_meet_82, eX7_meet_83, eX7_meet_84, q_iinc_4n, q_iinc_4i, q_iinc_4a, eX7_meet_87, eX7_meet_90, eX7_meet_91, zF_7_37, eX7_meet_94, eX7_meet_95, eX7_meet_96, q_if_eq, eX7_meet_99, eX7_meet_100, eX7_meet_103, eX7_meet_104, eX7_meet_107, eX7_meet_108, eX7_meet_109, q_iastore, zqas_s, eX7_meet_110, q_iload_1, eX7_meet_111, eX7_meet_112, eX7_meet_115, eX7_meet_116, eX7_meet_119, eX7_meet_120, q_iadd, eX7_meet_121, eX7_meet_122, q_iinc_2n, q_iinc_2i, q_iinc_2a, eX7_meet_125, eX7_meet_128, eX7_meet_129, q_ireturn, zqi_i, zqi_z, n0, ri, rl2]
          refine ⟨fun _ => aft b i ?_, fun q => by omega⟩
          rw [hb]
          constructor
          · rintro ⟨-, i', h1, h2⟩
            rw [← h2]; exact getD_mem (by omega)
          · intro hin
            obtain ⟨i', h1, h2⟩ := mem_getD hin
            exact ⟨by rw [← hkl.1, (hl2z _ hin).1], i', by omega, h2⟩
        | succ n' ihn =>
          intro i b hi hb
          have ri : zRr (i : Int) := zrr (by omega) (by omega)
          obtain ⟨v1, v2, v3⟩ := g3 i (by omega)
          have r2 : zRr (60 * O2 i) := zrr (by omega) (by omega)
          have him := getD_mem (l := l2) (k := i) (by omega)
          have hil := hl2z _ him
          cases b with
          | true =>
            rw [zb_t]
            have hk1 := aft true i (yes i true (by omega) rfl hb)
            rw [zb_t] at hk1
            refine zgo [4, 17, 90] ?_
            simp only [↓zX_succ, ↓zstp_nil, ↓zstp_cons, ↓reduceIte, zpu_some, zpu_none, zcs, zg, zst, Nat.reduceAdd, Nat.reduceSub, Nat.reduceMul, Nat.reduceEqDiff, Nat.reduceLeDiff, Nat.reduceLT, Int.reduceToNat, Int.reduceAdd, Int.reduceSub, Int.reduceMul, Int.reduceNeg, Int.reduceLE, Int.reduceLT, Int.reduceEq, Int.cast_ofNat_Int, Int.reduceNatCast', true_and, and_true, and_self, Nat.le_refl, Nat.add_zero, Nat.zero_add, Nat.zero_le, Nat.not_lt_zero, or_true, true_or, or_false, false_or, not_true_eq_false, not_false_eq_true, forall_const, true_implies, false_implies, implies_true, zup_same, zup_zup, Int.toNat_natCast, Nat.reduceDiv, List.length_cons, List.length_nil, Nat.succ_ne_zero, ne_eq, reduceCtorEq, zRl_m6, zRl_m5, zRl_m4, zRl_m3, zRl_m2, zRl_m1, zRl_0, zRl_1, zRl_2, zRl_3, zRl_4, zRl_5, zRl_6, zRl_7, zRl_8, zRl_12, zRl_31, zRl_32, zRl_33, zRl_59, zRl_60, zRl_64, zRl_67, zRl_97, zRl_122, zRl_124, zRl_126, zRl_128, zRl_336, zRl_672, zRl_1680, zRl_2016, zRl_7680, o_X7_meet, r_X7_meet, eX7_meet_0, q_iconst, eX7_meet_1, q_istore_1n, q_istore_1i, q_istore_1a, eX7_meet_2, eX7_meet_3, q_istore_2n, q_istore_2i, q_istore_2a, eX7_meet_4, q_iload_2, eX7_meet_5, q_aload_0, eX7_meet_6, q_getfield, zqg_s, zqv_s, zF_7_69, eX7_meet_9, q_icmp_ge, eX7_meet_12, eX7_meet_13, q_istore_3n, q_istore_3i, q_istore_3a, eX7_meet_14, eX7_meet_15, q_istore_4n, q_istore_4i, q_istore_4a, eX7_meet_17, q_iload_4, eX7_meet_19, eX7_meet_20, zF_7_93, eX7_meet_23, eX7_meet_26, eX7_meet_27, zF_7_72, eX7_meet_30, eX7_meet_31, zF_7_96, eX7_meet_34, q_icmp_ne, eX7_meet_37, q_iload_3, eX7_meet_38, q_if_ne, eX7_meet_41, eX7_meet_42, zF_7_31, eX7_meet_45, q_bipush, eX7_meet_47, eX7_meet_48, zF_7_34, eX7_meet_51, eX7_meet_52, q_iaload, zqal_s, eX7_meet_53, q_imul, eX7_meet_54, eX7_meet_55, zF_7_40, eX7_meet_58, eX7_meet_60, eX7_meet_61, zF_7_43, eX7_meet_64, eX7_meet_66, eX7_meet_67, eX7_meet_68, eX7_meet_69, eX7_meet_72, q_invs, zqst_s, zqst_c, zqcp_s, zqc_s, zC_7_75, o_X7_compared, zqcs_5, eX7_meet_75, eX7_meet_78, eX7_meet_79, q_goto, eX7_meet_82, eX7_meet_83, eX7_meet_84, q_iinc_4n, q_iinc_4i, q_iinc_4a, eX7_meet_87, eX7_meet_90, eX7_meet_91, zF_7_37, eX7_meet_94, eX7_meet_95, eX7_meet_96, q_if_eq, eX7_meet_99, eX7_meet_100, eX7_meet_103, eX7_meet_104, eX7_meet_107, eX7_meet_108, eX7_meet_109, q_iastore, zqas_s, eX7_meet_110, q_iload_1, eX7_meet_111, eX7_meet_112, eX7_meet_115, eX7_meet_116, eX7_meet_119, eX7_meet_120, q_iadd, eX7_meet_121, eX7_meet_122, q_iinc_2n, q_iinc_2i, q_iinc_2a, eX7_meet_125, eX7_meet_128, eX7_meet_129, q_ireturn, zqi_i, zqi_z, n0, ri, rl2, rN, rN2]
            refine ⟨fun q => by omega, fun _ => ⟨fun _ => hk1, fun _ => hk1⟩⟩
          | false =>
            rw [zb_f]
            refine zgo [4, 17, 90] ?_
            simp only [↓zX_succ, ↓zstp_nil, ↓zstp_cons, ↓reduceIte, zpu_some, zpu_none, zcs, zg, zst, Nat.reduceAdd, Nat.reduceSub, Nat.reduceMul, Nat.reduceEqDiff, Nat.reduceLeDiff, Nat.reduceLT, Int.reduceToNat, Int.reduceAdd, Int.reduceSub, Int.reduceMul, Int.reduceNeg, Int.reduceLE, Int.reduceLT, Int.reduceEq, Int.cast_ofNat_Int, Int.reduceNatCast', true_and, and_true, and_self, Nat.le_refl, Nat.add_zero, Nat.zero_add, Nat.zero_le, Nat.not_lt_zero, or_true, true_or, or_false, false_or, not_true_eq_false, not_false_eq_true, forall_const, true_implies, false_implies, implies_true, zup_same, zup_zup, Int.toNat_natCast, Nat.reduceDiv, List.length_cons, List.length_nil, Nat.succ_ne_zero, ne_eq, reduceCtorEq, zRl_m6, zRl_m5, zRl_m4, zRl_m3, zRl_m2, zRl_m1, zRl_0, zRl_1, zRl_2, zRl_3, zRl_4, zRl_5, zRl_6, zRl_7, zRl_8, zRl_12, zRl_31, zRl_32, zRl_33, zRl_59, zRl_60, zRl_64, zRl_67, zRl_97, zRl_122, zRl_124, zRl_126, zRl_128, zRl_336, zRl_672, zRl_1680, zRl_2016, zRl_7680, o_X7_meet, r_X7_meet, eX7_meet_0, q_iconst, eX7_meet_1, q_istore_1n, q_istore_1i, q_istore_1a, eX7_meet_2, eX7_meet_3, q_istore_2n, q_istore_2i, q_istore_2a, eX7_meet_4, q_iload_2, eX7_meet_5, q_aload_0, eX7_meet_6, q_getfield, zqg_s, zqv_s, zF_7_69, eX7_meet_9, q_icmp_ge, eX7_meet_12, eX7_meet_13, q_istore_3n, q_istore_3i, q_istore_3a, eX7_meet_14, eX7_meet_15, q_istore_4n, q_istore_4i, q_istore_4a, eX7_meet_17, q_iload_4, eX7_meet_19, eX7_meet_20, zF_7_93, eX7_meet_23, eX7_meet_26, eX7_meet_27, zF_7_72, eX7_meet_30, eX7_meet_31, zF_7_96, eX7_meet_34, q_icmp_ne, eX7_meet_37, q_iload_3, eX7_meet_38, q_if_ne, eX7_meet_41, eX7_meet_42, zF_7_31, eX7_meet_45, q_bipush, eX7_meet_47, eX7_meet_48, zF_7_34, eX7_meet_51, eX7_meet_52, q_iaload, zqal_s, eX7_meet_53, q_imul, eX7_meet_54, eX7_meet_55, zF_7_40, eX7_meet_58, eX7_meet_60, eX7_meet_61, zF_7_43, eX7_meet_64, eX7_meet_66, eX7_meet_67, eX7_meet_68, eX7_meet_69, eX7_meet_72, q_invs, zqst_s, zqst_c, zqcp_s, zqc_s, zC_7_75, o_X7_compared, zqcs_5, eX7_meet_75, eX7_meet_78, eX7_meet_79, q_goto, eX7_meet_82, eX7_meet_83, eX7_meet_84, q_iinc_4n, q_iinc_4i, q_iinc_4a, eX7_meet_87, eX7_meet_90, eX7_meet_91, zF_7_37, eX7_meet_94, eX7_meet_95, eX7_meet_96, q_if_eq, eX7_meet_99, eX7_meet_100, eX7_meet_103, eX7_meet_104, eX7_meet_107, eX7_meet_108, eX7_meet_109, q_iastore, zqas_s, eX7_meet_110, q_iload_1, eX7_meet_111, eX7_meet_112, eX7_meet_115, eX7_meet_116, eX7_meet_119, eX7_meet_120, q_iadd, eX7_meet_121, eX7_meet_122, q_iinc_2n, q_iinc_2i, q_iinc_2a, eX7_meet_125, eX7_meet_128, eX7_meet_129, q_ireturn, zqi_i, zqi_z, n0, ri, rl2, rN, rN2, n8, n9, n11, n12, r1, r2]
            refine ⟨fun q => by omega, fun _ => ⟨fun hne => ?_, fun heq => ?_⟩⟩
            · have hk1 := aft false i ⟨fun h => (by cases h), fun h => absurd h (notN (by omega))⟩
              rw [zb_f] at hk1
              exact hk1
            · have heq : N = N2 := by omega
              refine ⟨by omega, by omega, by omega, by omega, ?_⟩
              rw [show 60 * O k = ((60 * (O k).toNat : Nat) : Int) by omega, show 60 * O2 i = ((60 * (O2 i).toNat : Nat) : Int) by omega]
              have hb1 : zB (fun j => R (60 * (O k).toNat + j)) 0 N := tkl_zB (by rw [show tkl (fun j => R (60 * (O k).toNat + j)) N = l.getD k [] from u3]; exact hkl.2)
              have hb2 : zB (fun j => R2 (60 * (O2 i).toNat + j)) 0 N := tkl_zB (by rw [show tkl (fun j => R2 (60 * (O2 i).toNat + j)) N = l2.getD i [] from heq ▸ v3]; exact hil.2)
              have v3' : slc R2 (60 * (O2 i).toNat) N = l2.getD i [] := heq ▸ v3
              refine c_compared n8 n11 (by omega) (by omega) (by omega) (by omega) hb1 hb2 ?_
              rw [u3, v3']
              have hle : (l.getD k []).length = (l2.getD i []).length := by rw [hkl.1, hil.1, heq]
              have he := lcm_eq hle
              have rv : zRr (lcm_ (l.getD k []) (l2.getD i [])) := lcm_rr hkl.2 hil.2
              have hold : ¬ ∃ i', i' < i ∧ l2.getD i' [] = l.getD k [] := fun h => by simpa using hb.mpr ⟨heq, h⟩
              refine zgo [4, 17, 90] ?_
              simp only [↓zX_succ, ↓zstp_nil, ↓zstp_cons, ↓reduceIte, zpu_some, zpu_none, zcs, zg, zst, Nat.reduceAdd, Nat.reduceSub, Nat.reduceMul, Nat.reduceEqDiff, Nat.reduceLeDiff, Nat.reduceLT, Int.reduceToNat, Int.reduceAdd, Int.reduceSub, Int.reduceMul, Int.reduceNeg, Int.reduceLE, Int.reduceLT, Int.reduceEq, Int.cast_ofNat_Int, Int.reduceNatCast', true_and, and_true, and_self, Nat.le_refl, Nat.add_zero, Nat.zero_add, Nat.zero_le, Nat.not_lt_zero, or_true, true_or, or_false, false_or, not_true_eq_false, not_false_eq_true, forall_const, true_implies, false_implies, implies_true, zup_same, zup_zup, Int.toNat_natCast, Nat.reduceDiv, List.length_cons, List.length_nil, Nat.succ_ne_zero, ne_eq, reduceCtorEq, zRl_m6, zRl_m5, zRl_m4, zRl_m3, zRl_m2, zRl_m1, zRl_0, zRl_1, zRl_2, zRl_3, zRl_4, zRl_5, zRl_6, zRl_7, zRl_8, zRl_12, zRl_31, zRl_32, zRl_33, zRl_59, zRl_60, zRl_64, zRl_67, zRl_97, zRl_122, zRl_124, zRl_126, zRl_128, zRl_336, zRl_672, zRl_1680, zRl_2016, zRl_7680, o_X7_meet, r_X7_meet, eX7_meet_0, q_iconst, eX7_meet_1, q_istore_1n, q_istore_1i, q_istore_1a, eX7_meet_2, eX7_meet_3, q_istore_2n, q_istore_2i, q_istore_2a, eX7_meet_4, q_iload_2, eX7_meet_5, q_aload_0, eX7_meet_6, q_getfield, zqg_s, zqv_s, zF_7_69, eX7_meet_9, q_icmp_ge, eX7_meet_12, eX7_meet_13, q_istore_3n, q_istore_3i, q_istore_3a, eX7_meet_14, eX7_meet_15, q_istore_4n, q_istore_4i, q_istore_4a, eX7_meet_17, q_iload_4, eX7_meet_19, eX7_meet_20, zF_7_93, eX7_meet_23, eX7_meet_26, eX7_meet_27, zF_7_72, eX7_meet_30, eX7_meet_31, zF_7_96, eX7_meet_34, q_icmp_ne, eX7_meet_37, q_iload_3, eX7_meet_38, q_if_ne, eX7_meet_41, eX7_meet_42, zF_7_31, eX7_meet_45, q_bipush, eX7_meet_47, eX7_meet_48, zF_7_34, eX7_meet_51, eX7_meet_52, q_iaload, zqal_s, eX7_meet_53, q_imul, eX7_meet_54, eX7_meet_55, zF_7_40, eX7_meet_58, eX7_meet_60, eX7_meet_61, zF_7_43, eX7_meet_64, eX7_meet_66, eX7_meet_67, eX7_meet_68, eX7_meet_69, eX7_meet_72, q_invs, zqst_s, zqst_c, zqcp_s, zqc_s, zC_7_75, o_X7_compared, zqcs_5, eX7_meet_75, eX7_meet_78, eX7_meet_79, q_goto, eX7_meet_82, eX7_meet_83, eX7_meet_84, q_iinc_4n, q_iinc_4i, q_iinc_4a, eX7_meet_87, eX7_meet_90, eX7_meet_91, zF_7_37, eX7_meet_94, eX7_meet_95, eX7_meet_96, q_if_eq, eX7_meet_99, eX7_meet_100, eX7_meet_103, eX7_meet_104, eX7_meet_107, eX7_meet_108, eX7_meet_109, q_iastore, zqas_s, eX7_meet_110, q_iload_1, eX7_meet_111, eX7_meet_112, eX7_meet_115, eX7_meet_116, eX7_meet_119, eX7_meet_120, q_iadd, eX7_meet_121, eX7_meet_122, q_iinc_2n, q_iinc_2i, q_iinc_2a, eX7_meet_125, eX7_meet_128, eX7_meet_129, q_ireturn, zqi_i, zqi_z, rv, ri]
              rw [show (i : Int) + 1 = ((i + 1 : Nat) : Int) by omega]
              refine ⟨fun c => ?_, fun c => ?_⟩
              · have k0 := ihn (i + 1) false (by omega) ⟨fun h => (by cases h), fun ⟨_, i', h1, h2⟩ => ?_⟩
                · rw [zb_f] at k0
                  exact k0
                · exfalso
                  by_cases e : i' = i
                  · exact c (he.mpr (e ▸ h2.symm))
                  · exact hold ⟨i', by omega, h2⟩
              · have k0 := ihn (i + 1) true (by omega) ⟨fun _ => ⟨heq, i, by omega, (he.mp (Decidable.not_not.mp c)).symm⟩, fun _ => rfl⟩
                rw [zb_t] at k0
                exact k0
      rcases hw with ⟨rfl, rfl⟩ | ⟨z3, z4, rfl, rfl⟩
      all_goals
        refine zgo [4, 17] ?_
        simp only [↓zX_succ, ↓zstp_nil, ↓zstp_cons, ↓reduceIte, zpu_some, zpu_none, zcs, zg, zst, Nat.reduceAdd, Nat.reduceSub, Nat.reduceMul, Nat.reduceEqDiff, Nat.reduceLeDiff, Nat.reduceLT, Int.reduceToNat, Int.reduceAdd, Int.reduceSub, Int.reduceMul, Int.reduceNeg, Int.reduceLE, Int.reduceLT, Int.reduceEq, Int.cast_ofNat_Int, Int.reduceNatCast', true_and, and_true, and_self, Nat.le_refl, Nat.add_zero, Nat.zero_add, Nat.zero_le, Nat.not_lt_zero, or_true, true_or, or_false, false_or, not_true_eq_false, not_false_eq_true, forall_const, true_implies, false_implies, implies_true, zup_same, zup_zup, Int.toNat_natCast, Nat.reduceDiv, List.length_cons, List.length_nil, Nat.succ_ne_zero, ne_eq, reduceCtorEq, zRl_m6, zRl_m5, zRl_m4, zRl_m3, zRl_m2, zRl_m1, zRl_0, zRl_1, zRl_2, zRl_3, zRl_4, zRl_5, zRl_6, zRl_7, zRl_8, zRl_12, zRl_31, zRl_32, zRl_33, zRl_59, zRl_60, zRl_64, zRl_67, zRl_97, zRl_122, zRl_124, zRl_126, zRl_128, zRl_336, zRl_672, zRl_1680, zRl_2016, zRl_7680, o_X7_meet, r_X7_meet, eX7_meet_0, q_iconst, eX7_meet_1, q_istore_1n, q_istore_1i, q_istore_1a, eX7_meet_2, eX7_meet_3, q_istore_2n, q_istore_2i, q_istore_2a, eX7_meet_4, q_iload_2, eX7_meet_5, q_aload_0, eX7_meet_6, q_getfield, zqg_s, zqv_s, zF_7_69, eX7_meet_9, q_icmp_ge, eX7_meet_12, eX7_meet_13, q_istore_3n, q_istore_3i, q_istore_3a, eX7_meet_14, eX7_meet_15, q_istore_4n, q_istore_4i, q_istore_4a, eX7_meet_17, q_iload_4, eX7_meet_19, eX7_meet_20, zF_7_93, eX7_meet_23, eX7_meet_26, eX7_meet_27, zF_7_72, eX7_meet_30, eX7_meet_31, zF_7_96, eX7_meet_34, q_icmp_ne, eX7_meet_37, q_iload_3, eX7_meet_38, q_if_ne, eX7_meet_41, eX7_meet_42, zF_7_31, eX7_meet_45, q_bipush, eX7_meet_47, eX7_meet_48, zF_7_34, eX7_meet_51, eX7_meet_52, q_iaload, zqal_s, eX7_meet_53, q_imul, eX7_meet_54, eX7_meet_55, zF_7_40, eX7_meet_58, eX7_meet_60, eX7_meet_61, zF_7_43, eX7_meet_64, eX7_meet_66, eX7_meet_67, eX7_meet_68, eX7_meet_69, eX7_meet_72, q_invs, zqst_s, zqst_c, zqcp_s, zqc_s, zC_7_75, o_X7_compared, zqcs_5, eX7_meet_75, eX7_meet_78, eX7_meet_79, q_goto, eX7_meet_82, eX7_meet_83, eX7_meet_84, q_iinc_4n, q_iinc_4i, q_iinc_4a, eX7_meet_87, eX7_meet_90, eX7_meet_91, zF_7_37, eX7_meet_94, eX7_meet_95, eX7_meet_96, q_if_eq, eX7_meet_99, eX7_meet_100, eX7_meet_103, eX7_meet_104, eX7_meet_107, eX7_meet_108, eX7_meet_109, q_iastore, zqas_s, eX7_meet_110, q_iload_1, eX7_meet_111, eX7_meet_112, eX7_meet_115, eX7_meet_116, eX7_meet_119, eX7_meet_120, q_iadd, eX7_meet_121, eX7_meet_122, q_iinc_2n, q_iinc_2i, q_iinc_2a, eX7_meet_125, eX7_meet_128, eX7_meet_129, q_ireturn, zqi_i, zqi_z, n0, rk, rl]
        refine ⟨fun q => by omega, fun _ => ?_⟩
        have k0 := inner l2.length 0 false (by omega) ⟨fun h => (by cases h), fun ⟨_, i', h, _⟩ => (by omega)⟩
        rw [zb_f] at k0
        exact k0
  refine zct [some (Sum.inr (Sum.inl (some (m)))), none, none, none, none] rfl (Nat.le_of_ble_eq_true rfl) (by decide +kernel) rfl ?_
  refine zgo [4] ?_
  simp only [↓zX_succ, ↓zstp_nil, ↓zstp_cons, ↓reduceIte, zpu_some, zpu_none, zcs, zg, zst, Nat.reduceAdd, Nat.reduceSub, Nat.reduceMul, Nat.reduceEqDiff, Nat.reduceLeDiff, Nat.reduceLT, Int.reduceToNat, Int.reduceAdd, Int.reduceSub, Int.reduceMul, Int.reduceNeg, Int.reduceLE, Int.reduceLT, Int.reduceEq, Int.cast_ofNat_Int, Int.reduceNatCast', true_and, and_true, and_self, Nat.le_refl, Nat.add_zero, Nat.zero_add, Nat.zero_le, Nat.not_lt_zero, or_true, true_or, or_false, false_or, not_true_eq_false, not_false_eq_true, forall_const, true_implies, false_implies, implies_true, zup_same, zup_zup, Int.toNat_natCast, Nat.reduceDiv, List.length_cons, List.length_nil, Nat.succ_ne_zero, ne_eq, reduceCtorEq, zRl_m6, zRl_m5, zRl_m4, zRl_m3, zRl_m2, zRl_m1, zRl_0, zRl_1, zRl_2, zRl_3, zRl_4, zRl_5, zRl_6, zRl_7, zRl_8, zRl_12, zRl_31, zRl_32, zRl_33, zRl_59, zRl_60, zRl_64, zRl_67, zRl_97, zRl_122, zRl_124, zRl_126, zRl_128, zRl_336, zRl_672, zRl_1680, zRl_2016, zRl_7680, o_X7_meet, r_X7_meet, eX7_meet_0, q_iconst, eX7_meet_1, q_istore_1n, q_istore_1i, q_istore_1a, eX7_meet_2, eX7_meet_3, q_istore_2n, q_istore_2i, q_istore_2a, eX7_meet_4, q_iload_2, eX7_meet_5, q_aload_0, eX7_meet_6, q_getfield, zqg_s, zqv_s, zF_7_69, eX7_meet_9, q_icmp_ge, eX7_meet_12, eX7_meet_13, q_istore_3n, q_istore_3i, q_istore_3a, eX7_meet_14, eX7_meet_15, q_istore_4n, q_istore_4i, q_istore_4a, eX7_meet_17, q_iload_4, eX7_meet_19, eX7_meet_20, zF_7_93, eX7_meet_23, eX7_meet_26, eX7_meet_27, zF_7_72, eX7_meet_30, eX7_meet_31, zF_7_96, eX7_meet_34, q_icmp_ne, eX7_meet_37, q_iload_3, eX7_meet_38, q_if_ne, eX7_meet_41, eX7_meet_42, zF_7_31, eX7_meet_45, q_bipush, eX7_meet_47, eX7_meet_48, zF_7_34, eX7_meet_51, eX7_meet_52, q_iaload, zqal_s, eX7_meet_53, q_imul, eX7_meet_54, eX7_meet_55, zF_7_40, eX7_meet_58, eX7_meet_60, eX7_meet_61, zF_7_43, eX7_meet_64, eX7_meet_66, eX7_meet_67, eX7_meet_68, eX7_meet_69, eX7_meet_72, q_invs, zqst_s, zqst_c, zqcp_s, zqc_s, zC_7_75, o_X7_compared, zqcs_5, eX7_meet_75, eX7_meet_78, eX7_meet_79, q_goto, eX7_meet_82, eX7_meet_83, eX7_meet_84, q_iinc_4n, q_iinc_4i, q_iinc_4a, eX7_meet_87, eX7_meet_90, eX7_meet_91, zF_7_37, eX7_meet_94, eX7_meet_95, eX7_meet_96, q_if_eq, eX7_meet_99, eX7_meet_100, eX7_meet_103, eX7_meet_104, eX7_meet_107, eX7_meet_108, eX7_meet_109, q_iastore, zqas_s, eX7_meet_110, q_iload_1, eX7_meet_111, eX7_meet_112, eX7_meet_115, eX7_meet_116, eX7_meet_119, eX7_meet_120, q_iadd, eX7_meet_121, eX7_meet_122, q_iinc_2n, q_iinc_2i, q_iinc_2a, eX7_meet_125, eX7_meet_128, eX7_meet_129, q_ireturn, zqi_i, zqi_z]
  exact outer l.length 0 M X none none (by omega) (Or.inl ⟨rfl, rfl⟩) hX (fun j hj => by rw [if_neg (by omega)]) zfr_rf
end MK
