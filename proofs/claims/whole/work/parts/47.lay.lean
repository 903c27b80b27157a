-- the rows that the model lays down
def wyB (w p : Nat) : Bool := decide (w / 2 ^ p % 2 = 1)
def rwC : List (List Int) → (Nat → Bool) → List Int
  | [], _ => []
  | q :: qs, F => (if F 0 = true then q.reverse else q) ++ rwC qs (fun j => F (j + 1))
theorem rwC_snoc : ∀ (ps : List (List Int)) (q : List Int) (F : Nat → Bool), rwC (ps ++ [q]) F = rwC ps F ++ (if F ps.length = true then q.reverse else q)
  | [], q, F => by simp [rwC]
  | r :: rs, q, F => by
    rw [List.cons_append, rwC, rwC_snoc rs q, rwC, List.append_assoc, List.length_cons]
theorem rwC_len : ∀ (ps : List (List Int)) (F : Nat → Bool), (rwC ps F).length = tln ps
  | [], F => rfl
  | q :: qs, F => by
    rw [rwC, List.length_append, rwC_len qs, tln]
    split
    · rw [List.length_reverse]
    · rfl
theorem rwC_cg : ∀ {ps : List (List Int)} {F G : Nat → Bool}, (∀ i, i < ps.length → F i = G i) → rwC ps F = rwC ps G
  | [], F, G, _ => rfl
  | q :: qs, F, G, h => by
    rw [rwC, rwC, h 0 (by simp), rwC_cg (ps := qs) (fun i hi => h (i + 1) (by simp; omega))]
theorem rwC_chs : ∀ {ps : List (List Int)} {x : List Int}, chs ps x ↔ ∃ F, x = rwC ps F
  | [], x => ⟨fun h => ⟨fun _ => false, h⟩, fun ⟨_, h⟩ => h⟩
  | q :: qs, x => by
    simp only [chs, rwC]
    constructor
    · rintro ⟨y, h1, h2⟩
      obtain ⟨F, rfl⟩ := rwC_chs.mp h1
      rcases h2 with rfl | rfl
      · exact ⟨fun j => if j = 0 then false else F (j - 1), by simp⟩
      · exact ⟨fun j => if j = 0 then true else F (j - 1), by simp⟩
    · rintro ⟨F, rfl⟩
      refine ⟨rwC qs (fun j => F (j + 1)), rwC_chs.mpr ⟨fun j => F (j + 1), rfl⟩, ?_⟩
      by_cases c : F 0 = true
      · rw [if_pos c]; exact Or.inr rfl
      · rw [if_neg c]; exact Or.inl rfl
/-- the row of a way -/
def rwW (t : Sc) (w : Nat) : List Int := rwC (ptl t (wyB w t.1)) (fun i => wyB w (zpi_ (wyB w t.1) t.1 i))
theorem bits : ∀ (n : Nat) (F : Nat → Bool), ∃ w, w < 2 ^ n ∧ ∀ p, p < n → wyB w p = F p
  | 0, F => ⟨0, by decide, fun p hp => by omega⟩
  | n + 1, F => by
    obtain ⟨w, h1, h2⟩ := bits n (fun j => F (j + 1))
    refine ⟨2 * w + (if F 0 = true then 1 else 0), ?_, fun p hp => ?_⟩
    · rw [Nat.pow_succ]; split <;> omega
    · cases p with
      | zero =>
        rw [wyB, Nat.pow_zero, Nat.div_one]
        by_cases c : F 0 = true
        · rw [if_pos c, c]; exact decide_eq_true (by omega)
        · rw [if_neg c]
          have : F 0 = false := by simpa using c
          rw [this]; exact decide_eq_false (by omega)
      | succ p =>
        have := h2 p (by omega)
        rw [← this, wyB, wyB, Nat.pow_succ, Nat.mul_comm (2 ^ p) 2, ← Nat.div_div_eq_div_mul]
        have e2 : (2 * w + (if F 0 = true then 1 else 0)) / 2 = w := by split <;> omega
        rw [e2]
theorem wyB_lt {w n : Nat} (h : w < 2 ^ n) : wyB w n = false := by
  rw [wyB, Nat.div_eq_of_lt h]
  rfl
theorem wyB_ge {w n : Nat} (h1 : 2 ^ n ≤ w) (h2 : w < 2 * 2 ^ n) : wyB w n = true := by
  have : w / 2 ^ n = 1 := by
    rw [Nat.div_eq_iff (Nat.two_pow_pos n)]
    omega
  rw [wyB, this]
  rfl
theorem wyB_add {w n p : Nat} (hp : p < n) : wyB (2 ^ n + w) p = wyB w p := by
  have e : 2 ^ n = 2 ^ p * (2 * 2 ^ (n - p - 1)) := by
    rw [← Nat.pow_succ', ← Nat.pow_add]
    congr 1
    omega
  rw [wyB, wyB, e, Nat.mul_add_div (Nat.two_pow_pos p)]
  congr 2
  omega
theorem zpi_inv {fl : Bool} {n i : Nat} (hi : i < n) : zpi_ fl n (zpi_ fl n i) = i := by
  unfold zpi_
  split <;> omega
theorem zpi_lt {fl : Bool} {n i : Nat} (hi : i < n) : zpi_ fl n i < n := by
  unfold zpi_
  split <;> omega
theorem ptl_len {t : Sc} {fl : Bool} : (ptl t fl).length = t.1 := by simp [ptl]
/-- what the ways from one end tell -/
theorem rwW_f {t : Sc} {x : List Int} : chs (ptl t false) x ↔ ∃ w, w < 2 ^ t.1 ∧ x = rwW t w := by
  rw [rwC_chs]
  constructor
  · rintro ⟨F, rfl⟩
    obtain ⟨w, h1, h2⟩ := bits t.1 F
    refine ⟨w, h1, ?_⟩
    rw [rwW, wyB_lt h1]
    refine rwC_cg (fun i hi => ?_)
    rw [ptl_len] at hi
    exact (h2 i hi).symm
  · rintro ⟨w, h1, rfl⟩
    refine ⟨fun i => wyB w (zpi_ false t.1 i), ?_⟩
    rw [rwW, wyB_lt h1]
theorem rwW_t {t : Sc} {x : List Int} : chs (ptl t true) x ↔ ∃ w, 2 ^ t.1 ≤ w ∧ w < 2 * 2 ^ t.1 ∧ x = rwW t w := by
  rw [rwC_chs]
  constructor
  · rintro ⟨F, rfl⟩
    obtain ⟨w, h1, h2⟩ := bits t.1 (fun i => F (zpi_ true t.1 i))
    refine ⟨2 ^ t.1 + w, by omega, by omega, ?_⟩
    rw [rwW, wyB_ge (by omega) (by omega)]
    refine rwC_cg (fun i hi => ?_)
    rw [ptl_len] at hi
    rw [wyB_add (zpi_lt hi), h2 _ (zpi_lt hi), zpi_inv hi]
  · rintro ⟨w, h1, h2, rfl⟩
    refine ⟨fun i => wyB w (zpi_ true t.1 i), ?_⟩
    rw [rwW, wyB_ge h1 h2]
theorem RD_ways {t : Sc} (hw : wS t.1 t.2.1 t.2.2) {x : List Int} : x ∈ RD t ↔ ∃ w, w < 2 * 2 ^ t.1 ∧ x = rwW t w := by
  rw [RD_mem hw, rwW_f, rwW_t]
  constructor
  · rintro (⟨w, h1, h2⟩ | ⟨w, h1, h2, h3⟩)
    · exact ⟨w, by omega, h2⟩
    · exact ⟨w, h2, h3⟩
  · rintro ⟨w, h1, h2⟩
    by_cases c : w < 2 ^ t.1
    · exact Or.inl ⟨w, c, h2⟩
    · exact Or.inr ⟨w, by omega, h1, h2⟩
theorem zbit : ∀ p : Nat, p < 7 → ∀ w : Nat, w < 128 → zand (zshr (w : Int) (p : Int)) 1 = if wyB w p = true then 1 else 0 := by decide +kernel
theorem zbit_rr {w : Bool} : zRr (if w = true then (1 : Int) else 0) := by cases w <;> exact zrr (by decide) (by decide)
theorem rwW_len {t : Sc} {w : Nat} (hw : wS t.1 t.2.1 t.2.2) : (rwW t w).length = t.2.1 t.1 := by rw [rwW, rwC_len, ptl_tln hw]
theorem rwW_zB {t : Sc} {w : Nat} (hw : wS t.1 t.2.1 t.2.2) : ∀ z ∈ rwW t w, (0 : Int) ≤ z ∧ z ≤ 25 := by
  have h : chs (ptl t (wyB w t.1)) (rwW t w) := rwC_chs.mpr ⟨_, rfl⟩
  exact chs_zB h (ptl_zB hw)
section MH
variable {lo d m : Nat} {M : zM} {Q : Option zV → zM → Prop} {t : Sc}
theorem c_layDown {rc pl mn ln om ol : Int} {w : Nat} {R : Nat → Int} (ho : mOb M m rc pl (t.1 : Int) mn ln om ol) (hk : wkT M m t) (hw : wS t.1 t.2.1 t.2.2) (hR : M (m + 8) = some (Sum.inr (0, 7680, Sum.inl (R)))) (hw7 : w < 128) (hQ : ∀ M' R', M' (m + 8) = some (Sum.inr (0, 7680, Sum.inl (R'))) → slc R' (60 * w) (t.2.1 t.1) = rwW t w → (∀ j, j < 60 * w ∨ 60 * w + 60 ≤ j → R' j = R j) → zfr M M' (m + 8) (m + 9) → Q none M') : zCt lo d kX7_layDown 0 0 [(Sum.inr (Sum.inl (some (m)))), (Sum.inl ((w : Int)))] M Q := by
  have ho' := ho
  unfold mOb at ho
  obtain ⟨B, T, h1, h2, h3, h4⟩ := id hk
  have hp := hw.2.1
  have h60 := hw.2.2.2.2.1
  have rt : zRr (t.1 : Int) := zrr (by omega) (by omega)
  have rw_ : zRr (60 * (w : Int)) := zrr (by omega) (by omega)
  generalize hfl : wyB w t.1 = fl at *
  have outer : ∀ (n i : Nat) (M1 : zM) (R1 : Nat → Int) (w5 w6 w7 : Option zV), i + n = t.1 → ((w5 = none ∧ w6 = none ∧ w7 = none) ∨ ∃ z5 z6 z7, w5 = some (Sum.inl (z5)) ∧ w6 = some (Sum.inl (z6)) ∧ w7 = some (Sum.inl (z7))) → M1 (m + 8) = some (Sum.inr (0, 7680, Sum.inl (R1))) → slc R1 (60 * w) (zpa fl t.1 t.2.1 i) = rwC ((ptl t fl).take i) (fun i => wyB w (zpi_ fl t.1 i)) → (∀ j, j < 60 * w ∨ 60 * w + 60 ≤ j → R1 j = R j) → zfr M M1 (m + 8) (m + 9) → zm lo d kX7_layDown 0 0 Q (0, 0) 26 [some (Sum.inr (Sum.inl (some (m)))), some (Sum.inl ((w : Int))), some (Sum.inl (60 * (w : Int) + (zpa fl t.1 t.2.1 i : Int))), some (Sum.inl (zb fl)), some (Sum.inl ((i : Int))), w5, w6, w7] [] M1 := by
    intro n
    induction n with
    | zero =>
      intro i M1 R1 w5 w6 w7 hi hww hR1 hrow hout hf
      have r1 : zRr (i : Int) := zrr (by omega) (by omega)
      have n0 : M1 m = _ := (hf m (by omega)).trans ho
      have ei : i = t.1 := by omega
      subst ei
      have ez : zpa fl t.1 t.2.1 t.1 = t.2.1 t.1 := by
        unfold zpa
        split
        · rw [Nat.sub_self, hw.2.2.1]; omega
        · rfl
      rw [ez, List.take_of_length_le (by rw [ptl_len]; exact Nat.le_refl _)] at hrow
      refine zgo [26] ?_
      simp only [↓zX_succ, ↓zstp_nil, ↓zstp_cons, ↓reduceIte, zpu_some, zpu_none, zcs, zg, zst, Nat.reduceAdd, Nat.reduceSub, Nat.reduceMul, Nat.reduceEqDiff, Nat.reduceLeDiff, Nat.reduceLT, Int.reduceToNat, Int.reduceAdd, Int.reduceSub, Int.reduceMul, Int.reduceNeg, Int.reduceLE, Int.reduceLT, Int.reduceEq, Int.cast_ofNat_Int, Int.reduceNatCast', true_and, and_true, and_self, Nat.le_refl, Nat.add_zero, Nat.zero_add, Nat.zero_le, Nat.not_lt_zero, or_true, true_or, or_false, false_or, not_true_eq_false, not_false_eq_true, forall_const, true_implies, false_implies, implies_true, zup_same, zup_zup, Int.toNat_natCast, Nat.reduceDiv, List.length_cons, List.length_nil, Nat.succ_ne_zero, ne_eq, reduceCtorEq, zRl_m6, zRl_m5, zRl_m4, zRl_m3, zRl_m2, zRl_m1, zRl_0, zRl_1, zRl_2, zRl_3, zRl_4, zRl_5, zRl_6, zRl_7, zRl_8, zRl_12, zRl_31, zRl_32, zRl_33, zRl_59, zRl_60, zRl_64, zRl_67, zRl_97, zRl_122, zRl_124, zRl_126, zRl_128, zRl_336, zRl_672, zRl_1680, zRl_2016, zRl_7680, o_X7_layDown, r_X7_layDown, eX7_layDown_0, q_bipush, eX7_layDown_2, q_iload_1, eX7_layDown_3, q_imul, eX7_layDown_4, q_istore_2n, q_istore_2i, q_istore_2a, eX7_layDown_5, eX7_layDown_6, q_aload_0, eX7_layDown_7, q_getfield, zqg_s, zqv_s, zF_7_66, eX7_layDown_10, q_ishr, eX7_layDown_11, q_iconst, eX7_layDown_12, q_iand, eX7_layDown_13, eX7_layDown_14, q_icmp_ne, eX7_layDown_17, eX7_layDown_18, q_goto, eX7_layDown_21, eX7_layDown_22, q_istore_3n, q_istore_3i, q_istore_3a, eX7_layDown_23, eX7_layDown_24, q_istore_4n, q_istore_4i, q_istore_4a, eX7_layDown_26, q_iload_4, eX7_layDown_28, eX7_layDown_29, eX7_layDown_32, q_icmp_ge, eX7_layDown_35, q_iload_3, eX7_layDown_36, q_if_eq, eX7_layDown_39, eX7_layDown_40, eX7_layDown_43, eX7_layDown_44, q_isub, eX7_layDown_45, eX7_layDown_47, eX7_layDown_48, eX7_layDown_51, eX7_layDown_53, q_istore_5n, q_istore_5i, q_istore_5a, eX7_layDown_55, eX7_layDown_56, q_iload_5, eX7_layDown_58, eX7_layDown_59, eX7_layDown_60, eX7_layDown_61, eX7_layDown_62, eX7_layDown_65, eX7_layDown_66, eX7_layDown_69, eX7_layDown_70, q_istore_6n, q_istore_6i, q_istore_6a, eX7_layDown_72, eX7_layDown_73, q_istore_7n, q_istore_7i, q_istore_7a, eX7_layDown_75, q_iload_7, eX7_layDown_77, eX7_layDown_78, zF_7_25, eX7_layDown_81, eX7_layDown_83, eX7_layDown_84, q_iadd, eX7_layDown_85, q_iaload, zqal_s, eX7_layDown_86, eX7_layDown_87, eX7_layDown_90, eX7_layDown_92, eX7_layDown_93, eX7_layDown_94, eX7_layDown_97, eX7_layDown_98, zF_7_31, eX7_layDown_101, q_iload_2, eX7_layDown_102, eX7_layDown_103, zF_7_28, eX7_layDown_106, q_iload_6, eX7_layDown_108, eX7_layDown_111, eX7_layDown_112, eX7_layDown_115, eX7_layDown_117, eX7_layDown_118, eX7_layDown_119, eX7_layDown_120, eX7_layDown_121, eX7_layDown_122, eX7_layDown_124, eX7_layDown_125, eX7_layDown_128, eX7_layDown_129, eX7_layDown_132, eX7_layDown_134, eX7_layDown_135, eX7_layDown_137, eX7_layDown_138, eX7_layDown_139, q_iastore, zqas_s, eX7_layDown_140, q_iinc_2n, q_iinc_2i, q_iinc_2a, eX7_layDown_143, q_iinc_7n, q_iinc_7i, q_iinc_7a, eX7_layDown_146, eX7_layDown_149, q_iinc_4n, q_iinc_4i, q_iinc_4a, eX7_layDown_152, eX7_layDown_155, q_return, zqe_s, r1, n0, rt]
      refine ⟨fun _ => hQ M1 R1 hR1 ?_ hout hf, fun q => by omega⟩
      rw [hrow, rwW, hfl]
    | succ n ih =>
      intro i M1 R1 w5 w6 w7 hi hww hR1 hrow hout hf
      have r1 : zRr (i : Int) := zrr (by omega) (by omega)
      have hi' : i < t.1 := by omega
      obtain ⟨hnx, hpl⟩ := zpa_s (fl := fl) hw hi'
      have hle := zpa_le (fl := fl) hw (show i + 1 ≤ t.1 by omega)
      have hlt := hw.2.2.2.1 _ hpl
      have htop := hw.le (show zpi_ fl t.1 i + 1 ≤ t.1 by omega) (Nat.le_refl t.1)
      generalize hpp : zpi_ fl t.1 i = p at *
      generalize hbk : wyB w p = bk at *
      have eb1 := h2 (p + 1) (by omega)
      have eb0 := h2 p (by omega)
      have e1 : ((p : Int) + 1).toNat = p + 1 := by omega
      have rp : zRr (p : Int) := zrr (by omega) (by omega)
      have rp1 : zRr ((p : Int) + 1) := zrr (by omega) (by omega)
      have rsz : zRr ((t.2.1 (p + 1) : Int) - (t.2.1 p : Int)) := zrr (by omega) (by omega)
      have inner : ∀ (n' k : Nat) (M2 : zM) (R2 : Nat → Int), k + n' = t.2.1 (p + 1) - t.2.1 p → M2 (m + 8) = some (Sum.inr (0, 7680, Sum.inl (R2))) → (∀ j, R2 j = if 60 * w + zpa fl t.1 t.2.1 i ≤ j ∧ j < 60 * w + zpa fl t.1 t.2.1 i + k then t.2.2 (zix bk (t.2.1 p) (t.2.1 (p + 1)) (j - (60 * w + zpa fl t.1 t.2.1 i))) else R1 j) → zfr M M2 (m + 8) (m + 9) → zm lo d kX7_layDown 0 0 Q (0, 0) 75 [some (Sum.inr (Sum.inl (some (m)))), some (Sum.inl ((w : Int))), some (Sum.inl (60 * (w : Int) + (zpa fl t.1 t.2.1 i : Int) + (k : Int))), some (Sum.inl (zb fl)), some (Sum.inl ((i : Int))), some (Sum.inl ((p : Int))), some (Sum.inl (zb bk)), some (Sum.inl ((k : Int)))] [] M2 := by
        intro n'
        induction n' with
        | zero =>
          intro k M2 R2 hk hR2 he hf2
          have r2 : zRr (k : Int) := zrr (by omega) (by omega)
          have n0 : M2 m = _ := (hf2 m (by omega)).trans ho
          have n6 : M2 (m + 6) = _ := (hf2 (m + 6) (by omega)).trans h1
          refine zgo [26, 75] ?_
          simp only [↓zX_succ, ↓zstp_nil, ↓zstp_cons, ↓reduceIte, zpu_some, zpu_none, zcs, zg, zst, Nat.reduceAdd, Nat.reduceSub, Nat.reduceMul, Nat.reduceEqDiff, Nat.reduceLeDiff, Nat.reduceLT, Int.reduceToNat, Int.reduceAdd, Int.reduceSub, Int.reduceMul, Int.reduceNeg, Int.reduceLE, Int.reduceLT, Int.reduceEq, Int.cast_ofNat_Int, Int.reduceNatCast', true_and, and_true, and_self, Nat.le_refl, Nat.add_zero, Nat.zero_add, Nat.zero_le, Nat.not_lt_zero, or_true, true_or, or_false, false_or, not_true_eq_false, not_false_eq_true, forall_const, true_implies, false_implies, implies_true, zup_same, zup_zup, Int.toNat_natCast, Nat.reduceDiv, List.length_cons, List.length_nil, Nat.succ_ne_zero, ne_eq, reduceCtorEq, zRl_m6, zRl_m5, zRl_m4, zRl_m3, zRl_m2, zRl_m1, zRl_0, zRl_1, zRl_2, zRl_3, zRl_4, zRl_5, zRl_6, zRl_7, zRl_8, zRl_12, zRl_31, zRl_32, zRl_33, zRl_59, zRl_60, zRl_64, zRl_67, zRl_97, zRl_122, zRl_124, zRl_126, zRl_128, zRl_336, zRl_672, zRl_1680, zRl_2016, zRl_7680, o_X7_layDown, r_X7_layDown, eX7_layDown_0, q_bipush, eX7_layDown_2, q_iload_1, eX7_layDown_3, q_imul, eX7_layDown_4, q_istore_2n, q_istore_2i, q_istore_2a, eX7_layDown_5, eX7_layDown_6, q_aload_0, eX7_layDown_7, q_getfield, zqg_s, zqv_s, zF_7_66, eX7_layDown_10, q_ishr, eX7_layDown_11, q_iconst, eX7_layDown_12, q_iand, eX7_layDown_13, eX7_layDown_14, q_icmp_ne, eX7_layDown_17, eX7_layDown_18, q_goto, eX7_layDown_21, eX7_layDown_22, q_istore_3n, q_istore_3i, q_istore_3a, eX7_layDown_23, eX7_layDown_24, q_istore_4n, q_istore_4i, q_istore_4a, eX7_layDown_26, q_iload_4, eX7_layDown_28, eX7_layDown_29, eX7_layDown_32, q_icmp_ge, eX7_layDown_35, q_iload_3, eX7_layDown_36, q_if_eq, eX7_layDown_39, eX7_layDown_40, eX7_layDown_43, eX7_layDown_44, q_isub, eX7_layDown_45, eX7_layDown_47, eX7_layDown_48, eX7_layDown_51, eX7_layDown_53, q_istore_5n, q_istore_5i, q_istore_5a, eX7_layDown_55, eX7_layDown_56, q_iload_5, eX7_layDown_58, eX7_layDown_59, eX7_layDown_60, eX7_layDown_61, eX7_layDown_62, eX7_layDown_65, eX7_layDown_66, eX7_layDown_69, eX7_layDown_70, q_istore_6n, q_istore_6i, q_istore_6a, eX7_layDown_72, eX7_layDown_73, q_istore_7n, q_istore_7i, q_istore_7a, eX7_layDown_75, q_iload_7, eX7_layDown_77, eX7_layDown_78, zF_7_25, eX7_layDown_81, eX7_layDown_83, eX7_layDown_84, q_iadd, eX7_layDown_85, q_iaload, zqal_s, eX7_layDown_86, eX7_layDown_87, eX7_layDown_90, eX7_layDown_92, eX7_layDown_93, eX7_layDown_94, eX7_layDown_97, eX7_layDown_98, zF_7_31, eX7_layDown_101, q_iload_2, eX7_layDown_102, eX7_layDown_103, zF_7_28, eX7_layDown_106, q_iload_6, eX7_layDown_108, eX7_layDown_111, eX7_layDown_112, eX7_layDown_115, eX7_layDown_117, eX7_layDown_118, eX7_layDown_119, eX7_layDown_120, eX7_layDown_121, eX7_layDown_122, eX7_layDown_124, eX7_layDown_125, eX7_layDown_128, eX7_layDown_129, eX7_layDown_132, eX7_layDown_134, eX7_layDown_135, eX7_layDown_137, eX7_layDown_138, eX7_layDown_139, q_iastore, zqas_s, eX7_layDown_140, q_iinc_2n, q_iinc_2i, q_iinc_2a, eX7_layDown_143, q_iinc_7n, q_iinc_7i, q_iinc_7a, eX7_layDown_146, eX7_layDown_149, q_iinc_4n, q_iinc_4i, q_iinc_4a, eX7_layDown_152, eX7_layDown_155, q_return, zqe_s, r1, r2, n0, n6, rp1, eb0, eb1, e1, rsz]
          refine ⟨by omega, by omega, by omega, by omega, fun _ => ?_, fun q => by omega⟩
          rw [show (i : Int) + 1 = ((i + 1 : Nat) : Int) by omega, show 60 * (w : Int) + (zpa fl t.1 t.2.1 i : Int) + (k : Int) = 60 * (w : Int) + (zpa fl t.1 t.2.1 (i + 1) : Int) by omega]
          refine ih (i + 1) M2 R2 _ _ _ (by omega) (Or.inr ⟨_, _, _, rfl, rfl, rfl⟩) hR2 ?_ (fun j hj => ?_) hf2
          · have hg : (ptl t fl)[i]? = some (pat t p) := by simp [ptl, hi', hpp]
            rw [List.take_succ, hg]
            simp only [Option.toList_some]
            rw [rwC_snoc, ← hrow, List.length_take, ptl_len, show min i t.1 = i by omega]
            simp only [hpp, hbk]
            rw [hnx, slc, tkl_app]
            congr 1
            · rw [slc, tkl_eq]
              intro j hj
              rw [he, if_neg (by omega)]
            · cases bk with
              | true =>
                rw [if_pos rfl, pat, slc_rev, tkl_eq]
                intro j hj
                rw [he, if_pos (by omega), zix, if_pos rfl]
                exact congrArg t.2.2 (by omega)
              | false =>
                rw [if_neg (by decide), pat, slc, tkl_eq]
                intro j hj
                rw [he, if_pos (by omega), zix, if_neg (by decide)]
                exact congrArg t.2.2 (by omega)
          · rw [he, if_neg (by omega)]
            exact hout j hj
        | succ n' ihn =>
          intro k M2 R2 hk hR2 he hf2
          have r2 : zRr (k : Int) := zrr (by omega) (by omega)
          have r3 : zRr (60 * (w : Int) + (zpa fl t.1 t.2.1 i : Int) + (k : Int)) := zrr (by omega) (by omega)
          have r3b : zRr (60 * (w : Int) + (zpa fl t.1 t.2.1 i : Int) + (k : Int) + 1) := zrr (by omega) (by omega)
          have n0 : M2 m = _ := (hf2 m (by omega)).trans ho
          have n6 : M2 (m + 6) = _ := (hf2 (m + 6) (by omega)).trans h1
          have n7 : M2 (m + 7) = _ := (hf2 (m + 7) (by omega)).trans h3
          have ea : (60 * (w : Int) + (zpa fl t.1 t.2.1 i : Int) + (k : Int)).toNat = 60 * w + zpa fl t.1 t.2.1 i + k := by omega
          have nxt : ∀ v : Int, v = t.2.2 (zix bk (t.2.1 p) (t.2.1 (p + 1)) k) → zm lo d kX7_layDown 0 0 Q (0, 0) 75 [some (Sum.inr (Sum.inl (some (m)))), some (Sum.inl ((w : Int))), some (Sum.inl (60 * (w : Int) + (zpa fl t.1 t.2.1 i : Int) + (k : Int) + 1)), some (Sum.inl (zb fl)), some (Sum.inl ((i : Int))), some (Sum.inl ((p : Int))), some (Sum.inl (zb bk)), some (Sum.inl ((k : Int) + 1))] [] (zup M2 (m + 8) (Sum.inr (0, 7680, Sum.inl (zu R2 (60 * w + zpa fl t.1 t.2.1 i + k) v)))) := by
            intro v hv
            rw [show (k : Int) + 1 = ((k + 1 : Nat) : Int) by omega, show 60 * (w : Int) + (zpa fl t.1 t.2.1 i : Int) + (k : Int) + 1 = 60 * (w : Int) + (zpa fl t.1 t.2.1 i : Int) + ((k + 1 : Nat) : Int) by omega]
            refine ihn (k + 1) _ _ (by omega) zup_same (fun j => ?_) (hf2.up (by omega) (by omega))
            by_cases c : j = 60 * w + zpa fl t.1 t.2.1 i + k
            · subst c
              rw [zu_same, if_pos (by omega), hv, Nat.add_sub_cancel_left]
            · rw [zu_ne c, he]
              by_cases c2 : 60 * w + zpa fl t.1 t.2.1 i ≤ j ∧ j < 60 * w + zpa fl t.1 t.2.1 i + k
              · rw [if_pos c2, if_pos (by omega)]
              · rw [if_neg c2, if_neg (by omega)]
          cases bk with
          | true =>
            have r4 : zRr ((t.2.1 (p + 1) : Int) - 1) := zrr (by omega) (by omega)
            have r5 : zRr ((t.2.1 (p + 1) : Int) - 1 - (k : Int)) := zrr (by omega) (by omega)
            have e5 : ((t.2.1 (p + 1) : Int) - 1 - (k : Int)).toNat = t.2.1 (p + 1) - 1 - k := by omega
            rw [zb_t] at nxt ⊢
            refine zgo [26, 75] ?_
            simp only [↓zX_succ, ↓zstp_nil, ↓zstp_cons, ↓reduceIte, zpu_some, zpu_none, zcs, zg, zst, Nat.reduceAdd, Nat.reduceSub, Nat.reduceMul, Nat.reduceEqDiff, Nat.reduceLeDiff, Nat.reduceLT, Int.reduceToNat, Int.reduceAdd, Int.reduceSub, Int.reduceMul, Int.reduceNeg, Int.reduceLE, Int.reduceLT, Int.reduceEq, Int.cast_ofNat_Int, Int.reduceNatCast', true_and, and_true, and_self, Nat.le_refl, Nat.add_zero, Nat.zero_add, Nat.zero_le, Nat.not_lt_zero, or_true, true_or, or_false, false_or, not_true_eq_false, not_false_eq_true, forall_const, true_implies, false_implies, implies_true, zup_same, zup_zup, Int.toNat_natCast, Nat.reduceDiv, List.length_cons, List.length_nil, Nat.succ_ne_zero, ne_eq, reduceCtorEq, zRl_m6, zRl_m5, zRl_m4, zRl_m3, zRl_m2, zRl_m1, zRl_0, zRl_1, zRl_2, zRl_3, zRl_4, zRl_5, zRl_6, zRl_7, zRl_8, zRl_12, zRl_31, zRl_32, zRl_33, zRl_59, zRl_60, zRl_64, zRl_67, zRl_97, zRl_122, zRl_124, zRl_126, zRl_128, zRl_336, zRl_672, zRl_1680, zRl_2016, zRl_7680, o_X7_layDown, r_X7_layDown, eX7_layDown_0, q_bipush, eX7_layDown_2, q_iload_1, eX7_layDown_3, q_imul, eX7_layDown_4, q_istore_2n, q_istore_2i, q_istore_2a, eX7_layDown_5, eX7_layDown_6, q_aload_0, eX7_layDown_7, q_getfield, zqg_s, zqv_s, zF_7_66, eX7_layDown_10, q_ishr, eX7_layDown_11, q_iconst, eX7_layDown_12, q_iand, eX7_layDown_13, eX7_layDown_14, q_icmp_ne, eX7_layDown_17, eX7_layDown_18, q_goto, eX7_layDown_21, eX7_layDown_22, q_istore_3n, q_istore_3i, q_istore_3a, eX7_layDown_23, eX7_layDown_24, q_istore_4n, q_istore_4i, q_istore_4a, eX7_layDown_26, q_iload_4, eX7_layDown_28, eX7_layDown_29, eX7_layDown_32, q_icmp_ge, eX7_layDown_35, q_iload_3, eX7_layDown_36, q_if_eq, eX7_layDown_39, eX7_layDown_40, eX7_layDown_43, eX7_layDown_44, q_isub, eX7_layDown_45, eX7_layDown_47, eX7_layDown_48, eX7_layDown_51, eX7_layDown_53, q_istore_5n, q_istore_5i, q_istore_5a, eX7_layDown_55, eX7_layDown_56, q_iload_5, eX7_layDown_58, eX7_layDown_59, eX7_layDown_60, eX7_layDown_61, eX7_layDown_62, eX7_layDown_65, eX7_layDown_66, eX7_layDown_69, eX7_layDown_70, q_istore_6n, q_istore_6i, q_istore_6a, eX7_layDown_72, eX7_layDown_73, q_istore_7n, q_istore_7i, q_istore_7a, eX7_layDown_75, q_iload_7, eX7_layDown_77, eX7_layDown_78, zF_7_25, eX7_layDown_81, eX7_layDown_83, eX7_layDown_84, q_iadd, eX7_layDown_85, q_iaload, zqal_s, eX7_layDown_86, eX7_layDown_87, eX7_layDown_90, eX7_layDown_92, eX7_layDown_93, eX7_layDown_94, eX7_layDown_97, eX7_layDown_98, zF_7_31, eX7_layDown_101, q_iload_2, eX7_layDown_102, eX7_layDown_103, zF_7_28, eX7_layDown_106, q_iload_6, eX7_layDown_108, eX7_layDown_111, eX7_layDown_112, eX7_layDown_115, eX7_layDown_117, eX7_layDown_118, eX7_layDown_119, eX7_layDown_120, eX7_layDown_121, eX7_layDown_122, eX7_layDown_124, eX7_layDown_125, eX7_layDown_128, eX7_layDown_129, eX7_layDown_132, eX7_layDown_134, eX7_layDown_135, eX7_layDown_137, eX7_layDown_138, eX7_layDown_139, q_iastore, zqas_s, eX7_layDown_140, q_iinc_2n, q_iinc_2i, q_iinc_2a, eX7_layDown_143, q_iinc_7n, q_iinc_7i, q_iinc_7a, eX7_layDown_146, eX7_layDown_149, q_iinc_4n, q_iinc_4i, q_iinc_4a, eX7_layDown_152, eX7_layDown_155, q_return, zqe_s, r1, r2, n0, n6, n7, rp1, eb0, eb1, e1, rsz, r3, r3b, hR2, ea, r4, r5, e5]
            refine ⟨by omega, by omega, by omega, by omega, fun q => by omega, fun _ => ⟨by omega, by omega, by omega, by omega, by omega, by omega, nxt _ ?_⟩⟩
            rw [h4 _ (by omega), zix, if_pos rfl]
          | false =>
            have r5 : zRr ((t.2.1 p : Int) + (k : Int)) := zrr (by omega) (by omega)
            have e5 : ((t.2.1 p : Int) + (k : Int)).toNat = t.2.1 p + k := by omega
            rw [zb_f] at nxt ⊢
            refine zgo [26, 75] ?_
            simp only [↓zX_succ, ↓zstp_nil, ↓zstp_cons, ↓reduceIte, zpu_some, zpu_none, zcs, zg, zst, Nat.reduceAdd, Nat.reduceSub, Nat.reduceMul, Nat.reduceEqDiff, Nat.reduceLeDiff, Nat.reduceLT, Int.reduceToNat, Int.reduceAdd, Int.reduceSub, Int.reduceMul, Int.reduceNeg, Int.reduceLE, Int.reduceLT, Int.reduceEq, Int.cast_ofNat_Int, Int.reduceNatCast', true_and, and_true, and_self, Nat.le_refl, Nat.add_zero, Nat.zero_add, Nat.zero_le, Nat.not_lt_zero, or_true, true_or, or_false, false_or, not_true_eq_false, not_false_eq_true, forall_const, true_implies, false_implies, implies_true, zup_same, zup_zup, Int.toNat_natCast, Nat.reduceDiv, List.length_cons, List.length_nil, Nat.succ_ne_zero, ne_eq, reduceCtorEq, zRl_m6, zRl_m5, zRl_m4, zRl_m3, zRl_m2, zRl_m1, zRl_0, zRl_1, zRl_2, zRl_3, zRl_4, zRl_5, zRl_6, zRl_7, zRl_8, zRl_12, zRl_31, zRl_32, zRl_33, zRl_59, zRl_60, zRl_64, zRl_67, zRl_97, zRl_122, zRl_124, zRl_126, zRl_128, zRl_336, zRl_672, zRl_1680, zRl_2016, zRl_7680, o_X7_layDown, r_X7_layDown, eX7_layDown_0, q_bipush, eX7_layDown_2, q_iload_1, eX7_layDown_3, q_imul, eX7_layDown_4, q_istore_2n, q_istore_2i, q_istore_2a, eX7_layDown_5, eX7_layDown_6, q_aload_0, eX7_layDown_7, q_getfield, zqg_s, zqv_s, zF_7_66, eX7_layDown_10, q_ishr, eX7_layDown_11, q_iconst, eX7_layDown_12, q_iand, eX7_layDown_13, eX7_layDown_14, q_icmp_ne, eX7_layDown_17, eX7_layDown_18, q_goto, eX7_layDown_21, eX7_layDown_22, q_istore_3n, q_istore_3i, q_istore_3a, eX7_layDown_23, eX7_layDown_24, q_istore_4n, q_istore_4i, q_istore_4a, eX7_layDown_26, q_iload_4, eX7_layDown_28, eX7_layDown_29, eX7_layDown_32, q_icmp_ge, eX7_layDown_35, q_iload_3, eX7_layDown_36, q_if_eq, eX7_layDown_39, eX7_layDown_40, eX7_layDown_43, eX7_layDown_44, q_isub, eX7_layDown_45, eX7_layDown_47, eX7_layDown_48, eX7_layDown_51, eX7_layDown_53, q_istore_5n, q_istore_5i, q_istore_5a, eX7_layDown_55, eX7_layDown_56, q_iload_5, eX7_layDown_58, eX7_layDown_59, eX7_layDown_60, eX7_layDown_61, eX7_layDown_62, eX7_layDown_65, eX7_layDown_66, eX7_layDown_69, eX7_layDown_70, q_istore_6n, q_istore_6i, q_istore_6a, eX7_layDown_72, eX7_layDown_73, q_istore_7n, q_istore_7i, q_istore_7a, eX7_layDown_75, q_iload_7, eX7_layDown_77, eX7_layDown_78, zF_7_25, eX7_layDown_81, eX7_layDown_83, eX7_layDown_84, q_iadd, eX7_layDown_85, q_iaload, zqal_s, eX7_layDown_86, eX7_layDown_87, eX7_layDown_90, eX7_layDown_92, eX7_layDown_93, eX7_layDown_94, eX7_layDown_97, eX7_layDown_98, zF_7_31, eX7_layDown_101, q_iload_2, eX7_layDown_102, eX7_layDown_103, zF_7_28, eX7_layDown_106, q_iload_6, eX7_layDown_108, eX7_layDown_111, eX7_layDown_112, eX7_layDown_115, eX7_layDown_117, eX7_layDown_118, eX7_layDown_119, eX7_layDown_120, eX7_layDown_121, eX7_layDown_122, eX7_layDown_124, eX7_layDown_125, eX7_layDown_128, eX7_layDown_129, eX7_layDown_132, eX7_layDown_134, eX7_layDown_135, eX7_layDown_137, eX7_layDown_138, eX7_layDown_139, q_iastore, zqas_s, eX7_layDown_140, q_iinc_2n, q_iinc_2i, q_iinc_2a, eX7_layDown_143, q_iinc_7n, q_iinc_7i, q_iinc_7a, eX7_layDown_146, eX7_layDown_149, q_iinc_4n, q_iinc_4i, q_iinc_4a, eX7_layDown_152, eX7_layDown_155, q_return, zqe_s, r1, r2, n0, n6, n7, rp1, eb0, eb1, e1, rsz, r3, r3b, hR2, ea, r5, e5]
            refine ⟨by omega, by omega, by omega, by omega, fun q => by omega, fun _ => ⟨by omega, by omega, by omega, by omega, by omega, by omega, nxt _ ?_⟩⟩
            rw [h4 _ (by omega), zix, if_neg (by decide)]
      have hz := zbit p (by omega) w hw7
      rw [hbk] at hz
      have n0 : M1 m = _ := (hf m (by omega)).trans ho
      have go1 : zm lo d kX7_layDown 0 0 Q (0, 0) 53 [some (Sum.inr (Sum.inl (some (m)))), some (Sum.inl ((w : Int))), some (Sum.inl (60 * (w : Int) + (zpa fl t.1 t.2.1 i : Int))), some (Sum.inl (zb fl)), some (Sum.inl ((i : Int))), w5, w6, w7] [(Sum.inl ((p : Int)))] M1 := by
        have k0 := inner (t.2.1 (p + 1) - t.2.1 p) 0 M1 R1 (by omega) hR1 (fun j => by rw [if_neg (by omega)]) hf
        rw [Int.natCast_zero, Int.add_zero] at k0
        rcases hww with ⟨rfl, rfl, rfl⟩ | ⟨z5, z6, z7, rfl, rfl, rfl⟩
        all_goals
          cases bk with
          | true =>
            rw [if_pos rfl] at hz
            rw [zb_t] at k0
            refine zgo [26, 75] ?_
            simp only [↓zX_succ, ↓zstp_nil, ↓zstp_cons, ↓reduceIte, zpu_some, zpu_none, zcs, zg, zst, Nat.reduceAdd, Nat.reduceSub, Nat.reduceMul, Nat.reduceEqDiff, Nat.reduceLeDiff, Nat.reduceLT, Int.reduceToNat, Int.reduceAdd, Int.reduceSub, Int.reduceMul, Int.reduceNeg, Int.reduceLE, Int.reduceLT, Int.reduceEq, Int.cast_ofNat_Int, Int.reduceNatCast', true_and, and_true, and_self, Nat.le_refl, Nat.add_zero, Nat.zero_add, Nat.zero_le, Nat.not_lt_zero, or_true, true_or, or_false, false_or, not_true_eq_false, not_false_eq_true, forall_const, true_implies, false_implies, implies_true, zup_same, zup_zup, Int.toNat_natCast, Nat.reduceDiv, List.length_cons, List.length_nil, Nat.succ_ne_zero, ne_eq, reduceCtorEq, zRl_m6, zRl_m5, zRl_m4, zRl_m3, zRl_m2, zRl_m1, zRl_0, zRl_1, zRl_2, zRl_3, zRl_4, zRl_5, zRl_6, zRl_7, zRl_8, zRl_12, zRl_31, zRl_32, zRl_33, zRl_59, zRl_60, zRl_64, zRl_67, zRl_97, zRl_122, zRl_124, zRl_126, zRl_128, zRl_336, zRl_672, zRl_1680, zRl_2016, zRl_7680, o_X7_layDown, r_X7_layDown, eX7_layDown_0, q_bipush, eX7_layDown_2, q_iload_1, eX7_layDown_3, q_imul, eX7_layDown_4, q_istore_2n, q_istore_2i, q_istore_2a, eX7_layDown_5, eX7_layDown_6, q_aload_0, eX7_layDown_7, q_getfield, zqg_s, zqv_s, zF_7_66, eX7_layDown_10, q_ishr, eX7_layDown_11, q_iconst, eX7_layDown_12, q_iand, eX7_layDown_13, eX7_layDown_14, q_icmp_ne, eX7_layDown_17, eX7_layDown_18, q_goto, eX7_layDown_21, eX7_layDown_22, q_istore_3n, q_istore_3i, q_istore_3a, eX7_layDown_23, eX7_layDown_24, q_istore_4n, q_istore_4i, q_istore_4a, eX7_layDown_26, q_iload_4, eX7_layDown_28, eX7_layDown_29, eX7_layDown_32, q_icmp_ge, eX7_layDown_35, q_iload_3, eX7_layDown_36, q_if_eq, eX7_layDown_39, eX7_layDown_40, eX7_layDown_43, eX7_layDown_44, q_isub, eX7_layDown_45, eX7_layDown_47, eX7_layDown_48, eX7_layDown_51, eX7_layDown_53, q_istore_5n, q_istore_5i, q_istore_5a, eX7_layDown_55, eX7_layDown_56, q_iload_5, eX7_layDown_58, eX7_layDown_59, eX7_layDown_60, eX7_layDown_61, eX7_layDown_62, eX7_layDown_65, eX7_layDown_66, eX7_layDown_69, eX7_layDown_70, q_istore_6n, q_istore_6i, q_istore_6a, eX7_layDown_72, eX7_layDown_73, q_istore_7n, q_istore_7i, q_istore_7a, eX7_layDown_75, q_iload_7, eX7_layDown_77, eX7_layDown_78, zF_7_25, eX7_layDown_81, eX7_layDown_83, eX7_layDown_84, q_iadd, eX7_layDown_85, q_iaload, zqal_s, eX7_layDown_86, eX7_layDown_87, eX7_layDown_90, eX7_layDown_92, eX7_layDown_93, eX7_layDown_94, eX7_layDown_97, eX7_layDown_98, zF_7_31, eX7_layDown_101, q_iload_2, eX7_layDown_102, eX7_layDown_103, zF_7_28, eX7_layDown_106, q_iload_6, eX7_layDown_108, eX7_layDown_111, eX7_layDown_112, eX7_layDown_115, eX7_layDown_117, eX7_layDown_118, eX7_layDown_119, eX7_layDown_120, eX7_layDown_121, eX7_layDown_122, eX7_layDown_124, eX7_layDown_125, eX7_layDown_128, eX7_layDown_129, eX7_layDown_132, eX7_layDown_134, eX7_layDown_135, eX7_layDown_137, eX7_layDown_138, eX7_layDown_139, q_iastore, zqas_s, eX7_layDown_140, q_iinc_2n, q_iinc_2i, q_iinc_2a, eX7_layDown_143, q_iinc_7n, q_iinc_7i, q_iinc_7a, eX7_layDown_146, eX7_layDown_149, q_iinc_4n, q_iinc_4i, q_iinc_4a, eX7_layDown_152, eX7_layDown_155, q_return, zqe_s, hz, rp]
            exact k0
          | false =>
            rw [if_neg (by decide)] at hz
            rw [zb_f] at k0
            refine zgo [26, 75] ?_
            simp only [↓zX_succ, ↓zstp_nil, ↓zstp_cons, ↓reduceIte, zpu_some, zpu_none, zcs, zg, zst, Nat.reduceAdd, Nat.reduceSub, Nat.reduceMul, Nat.reduceEqDiff, Nat.reduceLeDiff, Nat.reduceLT, Int.reduceToNat, Int.reduceAdd, Int.reduceSub, Int.reduceMul, Int.reduceNeg, Int.reduceLE, Int.reduceLT, Int.reduceEq, Int.cast_ofNat_Int, Int.reduceNatCast', true_and, and_true, and_self, Nat.le_refl, Nat.add_zero, Nat.zero_add, Nat.zero_le, Nat.not_lt_zero, or_true, true_or, or_false, false_or, not_true_eq_false, not_false_eq_true, forall_const, true_implies, false_implies, implies_true, zup_same, zup_zup, Int.toNat_natCast, Nat.reduceDiv, List.length_cons, List.length_nil, Nat.succ_ne_zero, ne_eq, reduceCtorEq, zRl_m6, zRl_m5, zRl_m4, zRl_m3, zRl_m2, zRl_m1, zRl_0, zRl_1, zRl_2, zRl_3, zRl_4, zRl_5, zRl_6, zRl_7, zRl_8, zRl_12, zRl_31, zRl_32, zRl_33, zRl_59, zRl_60, zRl_64, zRl_67, zRl_97, zRl_122, zRl_124, zRl_126, zRl_128, zRl_336, zRl_672, zRl_1680, zRl_2016, zRl_7680, o_X7_layDown, r_X7_layDown, eX7_layDown_0, q_bipush, eX7_layDown_2, q_iload_1, eX7_layDown_3, q_imul, eX7_layDown_4, q_istore_2n, q_istore_2i, q_istore_2a, eX7_layDown_5, eX7_layDown_6, q_aload_0, eX7_layDown_7, q_getfield, zqg_s, zqv_s, zF_7_66, eX7_layDown_10, q_ishr, eX7_layDown_11, q_iconst, eX7_layDown_12, q_iand, eX7_layDown_13, eX7_layDown_14, q_icmp_ne, eX7_layDown_17, eX7_layDown_18, q_goto, eX7_layDown_21, eX7_layDown_22, q_istore_3n, q_istore_3i, q_istore_3a, eX7_layDown_23, eX7_layDown_24, q_istore_4n, q_istore_4i, q_istore_4a, eX7_layDown_26, q_iload_4, eX7_layDown_28, eX7_layDown_29, eX7_layDown_32, q_icmp_ge, eX7_layDown_35, q_iload_3, eX7_layDown_36, q_if_eq, eX7_layDown_39, eX7_layDown_40, eX7_layDown_43, eX7_layDown_44, q_isub, eX7_layDown_45, eX7_layDown_47, eX7_layDown_48, eX7_layDown_51, eX7_layDown_53, q_istore_5n, q_istore_5i, q_istore_5a, eX7_layDown_55, eX7_layDown_56, q_iload_5, eX7_layDown_58, eX7_layDown_59, eX7_layDown_60, eX7_layDown_61, eX7_layDown_62, eX7_layDown_65, eX7_layDown_66, eX7_layDown_69, eX7_layDown_70, q_istore_6n, q_istore_6i, q_istore_6a, eX7_layDown_72, eX7_layDown_73, q_istore_7n, q_istore_7i, q_istore_7a, eX7_layDown_75, q_iload_7, eX7_layDown_77, eX7_layDown_78, zF_7_25, eX7_layDown_81, eX7_layDown_83, eX7_layDown_84, q_iadd, eX7_layDown_85, q_iaload, zqal_s, eX7_layDown_86, eX7_layDown_87, eX7_layDown_90, eX7_layDown_92, eX7_layDown_93, eX7_layDown_94, eX7_layDown_97, eX7_layDown_98, zF_7_31, eX7_layDown_101, q_iload_2, eX7_layDown_102, eX7_layDown_103, zF_7_28, eX7_layDown_106, q_iload_6, eX7_layDown_108, eX7_layDown_111, eX7_layDown_112, eX7_layDown_115, eX7_layDown_117, eX7_layDown_118, eX7_layDown_119, eX7_layDown_120, eX7_layDown_121, eX7_layDown_122, eX7_layDown_124, eX7_layDown_125, eX7_layDown_128, eX7_layDown_129, eX7_layDown_132, eX7_layDown_134, eX7_layDown_135, eX7_layDown_137, eX7_layDown_138, eX7_layDown_139, q_iastore, zqas_s, eX7_layDown_140, q_iinc_2n, q_iinc_2i, q_iinc_2a, eX7_layDown_143, q_iinc_7n, q_iinc_7i, q_iinc_7a, eX7_layDown_146, eX7_layDown_149, q_iinc_4n, q_iinc_4i, q_iinc_4a, eX7_layDown_152, eX7_layDown_155, q_return, zqe_s, hz, rp]
            exact k0
      cases fl with
      | true =>
        rw [zb_t] at go1 ⊢
        have r4 : zRr ((t.1 : Int) - 1) := zrr (by omega) (by omega)
        have r5 : zRr ((t.1 : Int) - 1 - (i : Int)) := zrr (by omega) (by omega)
        refine zgo [26, 53] ?_
        simp only [↓zX_succ, ↓zstp_nil, ↓zstp_cons, ↓reduceIte, zpu_some, zpu_none, zcs, zg, zst, Nat.reduceAdd, Nat.reduceSub, Nat.reduceMul, Nat.reduceEqDiff, Nat.reduceLeDiff, Nat.reduceLT, Int.reduceToNat, Int.reduceAdd, Int.reduceSub, Int.reduceMul, Int.reduceNeg, Int.reduceLE, Int.reduceLT, Int.reduceEq, Int.cast_ofNat_Int, Int.reduceNatCast', true_and, and_true, and_self, Nat.le_refl, Nat.add_zero, Nat.zero_add, Nat.zero_le, Nat.not_lt_zero, or_true, true_or, or_false, false_or, not_true_eq_false, not_false_eq_true, forall_const, true_implies, false_implies, implies_true, zup_same, zup_zup, Int.toNat_natCast, Nat.reduceDiv, List.length_cons, List.length_nil, Nat.succ_ne_zero, ne_eq, reduceCtorEq, zRl_m6, zRl_m5, zRl_m4, zRl_m3, zRl_m2, zRl_m1, zRl_0, zRl_1, zRl_2, zRl_3, zRl_4, zRl_5, zRl_6, zRl_7, zRl_8, zRl_12, zRl_31, zRl_32, zRl_33, zRl_59, zRl_60, zRl_64, zRl_67, zRl_97, zRl_122, zRl_124, zRl_126, zRl_128, zRl_336, zRl_672, zRl_1680, zRl_2016, zRl_7680, o_X7_layDown, r_X7_layDown, eX7_layDown_0, q_bipush, eX7_layDown_2, q_iload_1, eX7_layDown_3, q_imul, eX7_layDown_4, q_istore_2n, q_istore_2i, q_istore_2a, eX7_layDown_5, eX7_layDown_6, q_aload_0, eX7_layDown_7, q_getfield, zqg_s, zqv_s, zF_7_66, eX7_layDown_10, q_ishr, eX7_layDown_11, q_iconst, eX7_layDown_12, q_iand, eX7_layDown_13, eX7_layDown_14, q_icmp_ne, eX7_layDown_17, eX7_layDown_18, q_goto, eX7_layDown_21, eX7_layDown_22, q_istore_3n, q_istore_3i, q_istore_3a, eX7_layDown_23, eX7_layDown_24, q_istore_4n, q_istore_4i, q_istore_4a, eX7_layDown_26, q_iload_4, eX7_layDown_28, eX7_layDown_29, eX7_layDown_32, q_icmp_ge, eX7_layDown_35, q_iload_3, eX7_layDown_36, q_if_eq, eX7_layDown_39, eX7_layDown_40, eX7_layDown_43, eX7_layDown_44, q_isub, eX7_layDown_45, eX7_layDown_47, eX7_layDown_48, eX7_layDown_51, eX7_layDown_53, q_istore_5n, q_istore_5i, q_istore_5a, eX7_layDown_55, eX7_layDown_56, q_iload_5, eX7_layDown_58, eX7_layDown_59, eX7_layDown_60, eX7_layDown_61, eX7_layDown_62, eX7_layDown_65, eX7_layDown_66, eX7_layDown_69, eX7_layDown_70, q_istore_6n, q_istore_6i, q_istore_6a, eX7_layDown_72, eX7_layDown_73, q_istore_7n, q_istore_7i, q_istore_7a, eX7_layDown_75, q_iload_7, eX7_layDown_77, eX7_layDown_78, zF_7_25, eX7_layDown_81, eX7_layDown_83, eX7_layDown_84, q_iadd, eX7_layDown_85, q_iaload, zqal_s, eX7_layDown_86, eX7_layDown_87, eX7_layDown_90, eX7_layDown_92, eX7_layDown_93, eX7_layDown_94, eX7_layDown_97, eX7_layDown_98, zF_7_31, eX7_layDown_101, q_iload_2, eX7_layDown_102, eX7_layDown_103, zF_7_28, eX7_layDown_106, q_iload_6, eX7_layDown_108, eX7_layDown_111, eX7_layDown_112, eX7_layDown_115, eX7_layDown_117, eX7_layDown_118, eX7_layDown_119, eX7_layDown_120, eX7_layDown_121, eX7_layDown_122, eX7_layDown_124, eX7_layDown_125, eX7_layDown_128, eX7_layDown_129, eX7_layDown_132, eX7_layDown_134, eX7_layDown_135, eX7_layDown_137, eX7_layDown_138, eX7_layDown_139, q_iastore, zqas_s, eX7_layDown_140, q_iinc_2n, q_iinc_2i, q_iinc_2a, eX7_layDown_143, q_iinc_7n, q_iinc_7i, q_iinc_7a, eX7_layDown_146, eX7_layDown_149, q_iinc_4n, q_iinc_4i, q_iinc_4a, eX7_layDown_152, eX7_layDown_155, q_return, zqe_s, r1, n0, rt, r4, r5]
        refine ⟨fun q => by omega, fun _ => ?_⟩
        rw [show (t.1 : Int) - 1 - i = (p : Int) by rw [← hpp]; simp only [zpi_, if_true]; omega]
        exact go1
      | false =>
        rw [zb_f] at go1 ⊢
        refine zgo [26, 53] ?_
        simp only [↓zX_succ, ↓zstp_nil, ↓zstp_cons, ↓reduceIte, zpu_some, zpu_none, zcs, zg, zst, Nat.reduceAdd, Nat.reduceSub, Nat.reduceMul, Nat.reduceEqDiff, Nat.reduceLeDiff, Nat.reduceLT, Int.reduceToNat, Int.reduceAdd, Int.reduceSub, Int.reduceMul, Int.reduceNeg, Int.reduceLE, Int.reduceLT, Int.reduceEq, Int.cast_ofNat_Int, Int.reduceNatCast', true_and, and_true, and_self, Nat.le_refl, Nat.add_zero, Nat.zero_add, Nat.zero_le, Nat.not_lt_zero, or_true, true_or, or_false, false_or, not_true_eq_false, not_false_eq_true, forall_const, true_implies, false_implies, implies_true, zup_same, zup_zup, Int.toNat_natCast, Nat.reduceDiv, List.length_cons, List.length_nil, Nat.succ_ne_zero, ne_eq, reduceCtorEq, zRl_m6, zRl_m5, zRl_m4, zRl_m3, zRl_m2, zRl_m1, zRl_0, zRl_1, zRl_2, zRl_3, zRl_4, zRl_5, zRl_6, zRl_7, zRl_8, zRl_12, zRl_31, zRl_32, zRl_33, zRl_59, zRl_60, zRl_64, zRl_67, zRl_97, zRl_122, zRl_124, zRl_126, zRl_128, zRl_336, zRl_672, zRl_1680, zRl_2016, zRl_7680, o_X7_layDown, r_X7_layDown, eX7_layDown_0, q_bipush, eX7_layDown_2, q_iload_1, eX7_layDown_3, q_imul, eX7_layDown_4, q_istore_2n, q_istore_2i, q_istore_2a, eX7_layDown_5, eX7_layDown_6, q_aload_0, eX7_layDown_7, q_getfield, zqg_s, zqv_s, zF_7_66, eX7_layDown_10, q_ishr, eX7_layDown_11, q_iconst, eX7_layDown_12, q_iand, eX7_layDown_13, eX7_layDown_14, q_icmp_ne, eX7_layDown_17, eX7_layDown_18, q_goto, eX7_layDown_21, eX7_layDown_22, q_istore_3n, q_istore_3i, q_istore_3a, eX7_layDown_23, eX7_layDown_24, q_istore_4n, q_istore_4i, q_istore_4a, eX7_layDown_26, q_iload_4, eX7_layDown_28, eX7_layDown_29, eX7_layDown_32, q_icmp_ge, eX7_layDown_35, q_iload_3, eX7_layDown_36, q_if_eq, eX7_layDown_39, eX7_layDown_40, eX7_layDown_43, eX7_layDown_44, q_isub, eX7_layDown_45, eX7_layDown_47, eX7_layDown_48, eX7_layDown_51, eX7_layDown_53, q_istore_5n, q_istore_5i, q_istore_5a, eX7_layDown_55, eX7_layDown_56, q_iload_5, eX7_layDown_58, eX7_layDown_59, eX7_layDown_60, eX7_layDown_61, eX7_layDown_62, eX7_layDown_65, eX7_layDown_66, eX7_layDown_69, eX7_layDown_70, q_istore_6n, q_istore_6i, q_istore_6a, eX7_layDown_72, eX7_layDown_73, q_istore_7n, q_istore_7i, q_istore_7a, eX7_layDown_75, q_iload_7, eX7_layDown_77, eX7_layDown_78, zF_7_25, eX7_layDown_81, eX7_layDown_83, eX7_layDown_84, q_iadd, eX7_layDown_85, q_iaload, zqal_s, eX7_layDown_86, eX7_layDown_87, eX7_layDown_90, eX7_layDown_92, eX7_layDown_93, eX7_layDown_94, eX7_layDown_97, eX7_layDown_98, zF_7_31, eX7_layDown_101, q_iload_2, eX7_layDown_102, eX7_layDown_103, zF_7_28, eX7_layDown_106, q_iload_6, eX7_layDown_108, eX7_layDown_111, eX7_layDown_112, eX7_layDown_115, eX7_layDown_117, eX7_layDown_118, eX7_layDown_119, eX7_layDown_120, eX7_layDown_121, eX7_layDown_122, eX7_layDown_124, eX7_layDown_125, eX7_layDown_128, eX7_layDown_129, eX7_layDown_132, eX7_layDown_134, eX7_layDown_135, eX7_layDown_137, eX7_layDown_138, eX7_layDown_139, q_iastore, zqas_s, eX7_layDown_140, q_iinc_2n, q_iinc_2i, q_iinc_2a, eX7_layDown_143, q_iinc_7n, q_iinc_7i, q_iinc_7a, eX7_layDown_146, eX7_layDown_149, q_iinc_4n, q_iinc_4i, q_iinc_4a, eX7_layDown_152, eX7_layDown_155, q_return, zqe_s, r1, n0, rt]
        refine ⟨fun q => by omega, fun _ => ?_⟩
        rw [show (i : Int) = (p : Int) by rw [← hpp]; simp [zpi_]] at go1 ⊢
        exact go1
  have hz := zbit t.1 (by omega) w hw7
  rw [hfl] at hz
  have k0 := outer t.1 0 M R none none none (by omega) (Or.inl ⟨rfl, rfl, rfl⟩) hR (by rw [zpa_0 hw.2.2.1]; rfl) (fun j _ => rfl) zfr_rf
  rw [zpa_0 hw.2.2.1, Int.natCast_zero, Int.add_zero] at k0
  refine zct [some (Sum.inr (Sum.inl (some (m)))), some (Sum.inl ((w : Int))), none, none, none, none, none, none] rfl (Nat.le_of_ble_eq_true rfl) (by decide +kernel) rfl ?_
  cases fl with
  | true =>
    rw [if_pos rfl] at hz
    rw [zb_t] at k0
    refine zgo [26] ?_
    simp only [↓zX_succ, ↓zstp_nil, ↓zstp_cons, ↓reduceIte, zpu_some, zpu_none, zcs, zg, zst, Nat.reduceAdd, Nat.reduceSub, Nat.reduceMul, Nat.reduceEqDiff, Nat.reduceLeDiff, Nat.reduceLT, Int.reduceToNat, Int.reduceAdd, Int.reduceSub, Int.reduceMul, Int.reduceNeg, Int.reduceLE, Int.reduceLT, Int.reduceEq, Int.cast_ofNat_Int, Int.reduceNatCast', true_and, and_true, and_self, Nat.le_refl, Nat.add_zero, Nat.zero_add, Nat.zero_le, Nat.not_lt_zero, or_true, true_or, or_false, false_or, not_true_eq_false, not_false_eq_true, forall_const, true_implies, false_implies, implies_true, zup_same, zup_zup, Int.toNat_natCast, Nat.reduceDiv, List.length_cons, List.length_nil, Nat.succ_ne_zero, ne_eq, reduceCtorEq, zRl_m6, zRl_m5, zRl_m4, zRl_m3, zRl_m2, zRl_m1, zRl_0, zRl_1, zRl_2, zRl_3, zRl_4, zRl_5, zRl_6, zRl_7, zRl_8, zRl_12, zRl_31, zRl_32, zRl_33, zRl_59, zRl_60, zRl_64, zRl_67, zRl_97, zRl_122, zRl_124, zRl_126, zRl_128, zRl_336, zRl_672, zRl_1680, zRl_2016, zRl_7680, o_X7_layDown, r_X7_layDown, eX7_layDown_0, q_bipush, eX7_layDown_2, q_iload_1, eX7_layDown_3, q_imul, eX7_layDown_4, q_istore_2n, q_istore_2i, q_istore_2a, eX7_layDown_5, eX7_layDown_6, q_aload_0, eX7_layDown_7, q_getfield, zqg_s, zqv_s, zF_7_66, eX7_layDown_10, q_ishr, eX7_layDown_11, q_iconst, eX7_layDown_12, q_iand, eX7_layDown_13, eX7_layDown_14, q_icmp_ne, eX7_layDown_17, eX7_layDown_18, q_goto, eX7_layDown_21, eX7_layDown_22, q_istore_3n, q_istore_3i, q_istore_3a, eX7_layDown_23, eX7_layDown_24, q_istore_4n, q_istore_4i, q_istore_4a, eX7_layDown_26, q_iload_4, eX7_layDown_28, eX7_layDown_29, eX7_layDown_32, q_icmp_ge, eX7_layDown_35, q_iload_3, eX7_layDown_36, q_if_eq, eX7_layDown_39, eX7_layDown_40, eX7_layDown_43, eX7_layDown_44, q_isub, eX7_layDown_45, eX7_layDown_47, eX7_layDown_48, eX7_layDown_51, eX7_layDown_53, q_istore_5n, q_istore_5i, q_istore_5a, eX7_layDown_55, eX7_layDown_56, q_iload_5, eX7_layDown_58, eX7_layDown_59, eX7_layDown_60, eX7_layDown_61, eX7_layDown_62, eX7_layDown_65, eX7_layDown_66, eX7_layDown_69, eX7_layDown_70, q_istore_6n, q_istore_6i, q_istore_6a, eX7_layDown_72, eX7_layDown_73, q_istore_7n, q_istore_7i, q_istore_7a, eX7_layDown_75, q_iload_7, eX7_layDown_77, eX7_layDown_78, zF_7_25, eX7_layDown_81, eX7_layDown_83, eX7_layDown_84, q_iadd, eX7_layDown_85, q_iaload, zqal_s, eX7_layDown_86, eX7_layDown_87, eX7_layDown_90, eX7_layDown_92, eX7_layDown_93, eX7_layDown_94, eX7_layDown_97, eX7_layDown_98, zF_7_31, eX7_layDown_101, q_iload_2, eX7_layDown_102, eX7_layDown_103, zF_7_28, eX7_layDown_106, q_iload_6, eX7_layDown_108, eX7_layDown_111, eX7_layDown_112, eX7_layDown_115, eX7_layDown_117, eX7_layDown_118, eX7_layDown_119, eX7_layDown_120, eX7_layDown_121, eX7_layDown_122, eX7_layDown_124, eX7_layDown_125, eX7_layDown_128, eX7_layDown_129, eX7_layDown_132, eX7_layDown_134, eX7_layDown_135, eX7_layDown_137, eX7_layDown_138, eX7_layDown_139, q_iastore, zqas_s, eX7_layDown_140, q_iinc_2n, q_iinc_2i, q_iinc_2a, eX7_layDown_143, q_iinc_7n, q_iinc_7i, q_iinc_7a, eX7_layDown_146, eX7_layDown_149, q_iinc_4n, q_iinc_4i, q_iinc_4a, eX7_layDown_152, eX7_layDown_155, q_return, zqe_s, ho, rw_, hz, rt]
    exact k0
  | false =>
    rw [if_neg (by decide)] at hz
    rw [zb_f] at k0
    refine zgo [26] ?_
    simp only [↓zX_succ, ↓zstp_nil, ↓zstp_cons, ↓reduceIte, zpu_some, zpu_none, zcs, zg, zst, Nat.reduceAdd, Nat.reduceSub, Nat.reduceMul, Nat.reduceEqDiff, Nat.reduceLeDiff, Nat.reduceLT, Int.reduceToNat, Int.reduceAdd, Int.reduceSub, Int.reduceMul, Int.reduceNeg, Int.reduceLE, Int.reduceLT, Int.reduceEq, Int.cast_ofNat_Int, Int.reduceNatCast', true_and, and_true, and_self, Nat.le_refl, Nat.add_zero, Nat.zero_add, Nat.zero_le, Nat.not_lt_zero, or_true, true_or, or_false, false_or, not_true_eq_false, not_false_eq_true, forall_const, true_implies, false_implies, implies_true, zup_same, zup_zup, Int.toNat_natCast, Nat.reduceDiv, List.length_cons, List.length_nil, Nat.succ_ne_zero, ne_eq, reduceCtorEq, zRl_m6, zRl_m5, zRl_m4, zRl_m3, zRl_m2, zRl_m1, zRl_0, zRl_1, zRl_2, zRl_3, zRl_4, zRl_5, zRl_6, zRl_7, zRl_8, zRl_12, zRl_31, zRl_32, zRl_33, zRl_59, zRl_60, zRl_64, zRl_67, zRl_97, zRl_122, zRl_124, zRl_126, zRl_128, zRl_336, zRl_672, zRl_1680, zRl_2016, zRl_7680, o_X7_layDown, r_X7_layDown, eX7_layDown_0, q_bipush, eX7_layDown_2, q_iload_1, eX7_layDown_3, q_imul, eX7_layDown_4, q_istore_2n, q_istore_2i, q_istore_2a, eX7_layDown_5, eX7_layDown_6, q_aload_0, eX7_layDown_7, q_getfield, zqg_s, zqv_s, zF_7_66, eX7_layDown_10, q_ishr, eX7_layDown_11, q_iconst, eX7_layDown_12, q_iand, eX7_layDown_13, eX7_layDown_14, q_icmp_ne, eX7_layDown_17, eX7_layDown_18, q_goto, eX7_layDown_21, eX7_layDown_22, q_istore_3n, q_istore_3i, q_istore_3a, eX7_layDown_23, eX7_layDown_24, q_istore_4n, q_istore_4i, q_istore_4a, eX7_layDown_26, q_iload_4, eX7_layDown_28, eX7_layDown_29, eX7_layDown_32, q_icmp_ge, eX7_layDown_35, q_iload_3, eX7_layDown_36, q_if_eq, eX7_layDown_39, eX7_layDown_40, eX7_layDown_43, eX7_layDown_44, q_isub, eX7_layDown_45, eX7_layDown_47, eX7_layDown_48, eX7_layDown_51, eX7_layDown_53, q_istore_5n, q_istore_5i, q_istore_5a, eX7_layDown_55, eX7_layDown_56, q_iload_5, eX7_layDown_58, eX7_layDown_59, eX7_layDown_60, eX7_layDown_61, eX7_layDown_62, eX7_layDown_65, eX7_layDown_66, eX7_layDown_69, eX7_layDown_70, q_istore_6n, q_istore_6i, q_istore_6a, eX7_layDown_72, eX7_layDown_73, q_istore_7n, q_istore_7i, q_istore_7a, eX7_layDown_75, q_iload_7, eX7_layDown_77, eX7_layDown_78, zF_7_25, eX7_layDown_81, eX7_layDown_83, eX7_layDown_84, q_iadd, eX7_layDown_85, q_iaload, zqal_s, eX7_layDown_86, eX7_layDown_87, eX7_layDown_90, eX7_layDown_92, eX7_layDown_93, eX7_layDown_94, eX7_layDown_97, eX7_layDown_98, zF_7_31, eX7_layDown_101, q_iload_2, eX7_layDown_102, eX7_layDown_103, zF_7_28, eX7_layDown_106, q_iload_6, eX7_layDown_108, eX7_layDown_111, eX7_layDown_112, eX7_layDown_115, eX7_layDown_117, eX7_layDown_118, eX7_layDown_119, eX7_layDown_120, eX7_layDown_121, eX7_layDown_122, eX7_layDown_124, eX7_layDown_125, eX7_layDown_128, eX7_layDown_129, eX7_layDown_132, eX7_layDown_134, eX7_layDown_135, eX7_layDown_137, eX7_layDown_138, eX7_layDown_139, q_iastore, zqas_s, eX7_layDown_140, q_iinc_2n, q_iinc_2i, q_iinc_2a, eX7_layDown_143, q_iinc_7n, q_iinc_7i, q_iinc_7a, eX7_layDown_146, eX7_layDown_149, q_iinc_4n, q_iinc_4i, q_iinc_4a, eX7_layDown_152, eX7_layDown_155, q_return, zqe_s, ho, rw_, hz, rt]
    exact k0
end MH
